/-! basic blocks: printed by wip/whole/gen13.py -/
-- KitchenSiege$Cook.pass(LKitchenSiege$Days;I)I
theorem b52_0 {d : Nat} {a1 : Nat} {x2 : Int32} {o3 : Option Value} {o4 : Option Value} {o5 : Option Value} {S : fm_S} {r : Option Value × am_W} (kt : ¬ x2 = (-1) → am_Ev d 52 15 [some (.ref 54), some (.ref a1), some (.int x2), o3, o4, o5] [] (fm_mk S) r) (kf : x2 = (-1) → am_Ev d 52 5 [some (.ref 54), some (.ref a1), some (.int x2), o3, o4, o5] [] (fm_mk S) r) : am_Ev d 52 0 [some (.ref 54), some (.ref a1), some (.int x2), o3, o4, o5] [] (fm_mk S) r := by
  refine fs_iloadn (j := 2) (by decide +kernel) rfl ?_
  refine fs_iconst (n := -1) (v := (-1)) (by decide +kernel) (by decide) ?_
  exact fs_icne (off := 13) (tgt := 15) (by decide +kernel) (by decide) kt kf
theorem b52_5 {d : Nat} {a1 : Nat} {x2 : Int32} {o3 : Option Value} {o4 : Option Value} {o5 : Option Value} {S1 : fm_S} {S : fm_S} {r : Option Value × am_W} (hc : am_Sp d 53 [.ref 56] (fm_mk S) (none) (fm_mk S1)) (nx : am_Ev (d + 1) 52 12 [some (.ref 54), some (.ref a1), some (.int x2), o3, o4, o5] [] (fm_mk S1) r) : am_Ev (d + 1) 52 5 [some (.ref 54), some (.ref a1), some (.int x2), o3, o4, o5] [] (fm_mk S) r := by
  refine fs_aloadn (j := 0) (by decide +kernel) rfl ?_
  refine fe_getR (idx := 18) (t := 1) (f := 3) (fk := 2) (fin := 1) (wp := 253) (x := 56) (by decide +kernel) (by decide +kernel) (by decide +kernel) (by decide +kernel) (by decide +kernel) ?_
  exact fe_callV (idx := 45) (n := 0) (wp := 595) (q := (596, 597)) (as := []) (rs := []) (by decide +kernel) (by decide +kernel) (by decide +kernel) (by decide +kernel) rfl (Nat.le_of_ble_eq_true rfl) rfl hc nx
theorem b52_12 {d : Nat} {a1 : Nat} {x2 : Int32} {o3 : Option Value} {o4 : Option Value} {o5 : Option Value} {S : fm_S} {r : Option Value × am_W} (nx : am_Ev d 52 38 [some (.ref 54), some (.ref a1), some (.int x2), o3, o4, o5] [] (fm_mk S) r) : am_Ev d 52 12 [some (.ref 54), some (.ref a1), some (.int x2), o3, o4, o5] [] (fm_mk S) r := by
  refine fs_goto (off := 26) (tgt := 38) (by decide +kernel) (by decide) ?_
  exact nx
theorem b52_15 {d : Nat} {a1 : Nat} {x2 : Int32} {o3 : Option Value} {o4 : Option Value} {o5 : Option Value} {v : Int32} {S1 : fm_S} {S : fm_S} {r : Option Value × am_W} (h_a1 : fm_tg a1 = 2) (hc : am_Sp d 54 [.ref 1, .int (S.1 a1 0)] (fm_mk S) (some (.int v)) (fm_mk S1)) (nx : am_Ev (d + 1) 52 35 [some (.ref 54), some (.ref a1), some (.int x2), o3, o4, o5] [.int v, .int x2, .ref 1, .ref 56] (fm_mk S1) r) : am_Ev (d + 1) 52 15 [some (.ref 54), some (.ref a1), some (.int x2), o3, o4, o5] [] (fm_mk S) r := by
  have D_a1 := fm_days h_a1
  refine fs_aloadn (j := 0) (by decide +kernel) rfl ?_
  refine fe_getR (idx := 18) (t := 1) (f := 3) (fk := 2) (fin := 1) (wp := 253) (x := 56) (by decide +kernel) (by decide +kernel) (by decide +kernel) (by decide +kernel) (by decide +kernel) ?_
  refine fs_aloadn (j := 0) (by decide +kernel) rfl ?_
  refine fe_getR (idx := 41) (t := 1) (f := 2) (fk := 2) (fin := 1) (wp := 252) (x := 1) (by decide +kernel) (by decide +kernel) (by decide +kernel) (by decide +kernel) (by decide +kernel) ?_
  refine fs_iloadn (j := 2) (by decide +kernel) rfl ?_
  refine fs_aloadn (j := 0) (by decide +kernel) rfl ?_
  refine fe_getR (idx := 41) (t := 1) (f := 2) (fk := 2) (fin := 1) (wp := 252) (x := 1) (by decide +kernel) (by decide +kernel) (by decide +kernel) (by decide +kernel) (by decide +kernel) ?_
  refine fs_aloadn (j := 1) (by decide +kernel) rfl ?_
  refine fe_getI (idx := 48) (t := 2) (f := 0) (fk := 0) (fin := 0) (wp := 124) (by decide +kernel) (by decide +kernel) h_a1 (by decide +kernel) ?_
  exact fe_callV (idx := 52) (n := 1) (wp := 599) (q := (600, 601)) (as := [.int (S.1 a1 0)]) (rs := [.int x2, .ref 1, .ref 56]) (by decide +kernel) (by decide +kernel) (by decide +kernel) (by decide +kernel) rfl (Nat.le_of_ble_eq_true rfl) rfl hc nx
theorem b52_35 {d : Nat} {a1 : Nat} {x2 : Int32} {o3 : Option Value} {o4 : Option Value} {o5 : Option Value} {sx2 : Int32} {sx3 : Int32} {S1 : fm_S} {S : fm_S} {r : Option Value × am_W} (hc : am_Sp d 56 [.ref 56, .ref 1, .int sx2, .int sx3] (fm_mk S) (none) (fm_mk S1)) (nx : am_Ev (d + 1) 52 38 [some (.ref 54), some (.ref a1), some (.int x2), o3, o4, o5] [] (fm_mk S1) r) : am_Ev (d + 1) 52 35 [some (.ref 54), some (.ref a1), some (.int x2), o3, o4, o5] [.int sx3, .int sx2, .ref 1, .ref 56] (fm_mk S) r := by
  exact fe_callV (idx := 58) (n := 3) (wp := 606) (q := (607, 608)) (as := [.ref 1, .int sx2, .int sx3]) (rs := []) (by decide +kernel) (by decide +kernel) (by decide +kernel) (by decide +kernel) rfl (Nat.le_of_ble_eq_true rfl) rfl hc nx
theorem b52_38 {d : Nat} {a1 : Nat} {x2 : Int32} {o3 : Option Value} {o4 : Option Value} {o5 : Option Value} {S : fm_S} {r : Option Value × am_W} (kt : ¬ x2 = (-1) → am_Ev d 52 47 [some (.ref 54), some (.ref a1), some (.int x2), o3, o4, o5] [] (fm_mk S) r) (kf : x2 = (-1) → am_Ev d 52 43 [some (.ref 54), some (.ref a1), some (.int x2), o3, o4, o5] [] (fm_mk S) r) : am_Ev d 52 38 [some (.ref 54), some (.ref a1), some (.int x2), o3, o4, o5] [] (fm_mk S) r := by
  refine fs_iloadn (j := 2) (by decide +kernel) rfl ?_
  refine fs_iconst (n := -1) (v := (-1)) (by decide +kernel) (by decide) ?_
  exact fs_icne (off := 7) (tgt := 47) (by decide +kernel) (by decide) kt kf
theorem b52_43 {d : Nat} {a1 : Nat} {x2 : Int32} {o3 : Option Value} {o4 : Option Value} {o5 : Option Value} {S : fm_S} {r : Option Value × am_W} (nx : am_Ev d 52 56 [some (.ref 54), some (.ref a1), some (.int x2), o3, o4, o5] [.int (-1)] (fm_mk S) r) : am_Ev d 52 43 [some (.ref 54), some (.ref a1), some (.int x2), o3, o4, o5] [] (fm_mk S) r := by
  refine fs_iconst (n := -1) (v := (-1)) (by decide +kernel) (by decide) ?_
  refine fs_goto (off := 12) (tgt := 56) (by decide +kernel) (by decide) ?_
  exact nx
theorem b52_47 {d : Nat} {a1 : Nat} {x2 : Int32} {o3 : Option Value} {o4 : Option Value} {o5 : Option Value} {S : fm_S} {r : Option Value × am_W} (hi0 : vp_in x2 6) (nx : am_Ev d 52 56 [some (.ref 54), some (.ref a1), some (.int x2), o3, o4, o5] [.int (S.1 8 x2.toNatClampNeg)] (fm_mk S) r) : am_Ev d 52 47 [some (.ref 54), some (.ref a1), some (.int x2), o3, o4, o5] [] (fm_mk S) r := by
  refine fs_aloadn (j := 0) (by decide +kernel) rfl ?_
  refine fe_getR (idx := 41) (t := 1) (f := 2) (fk := 2) (fin := 1) (wp := 252) (x := 1) (by decide +kernel) (by decide +kernel) (by decide +kernel) (by decide +kernel) (by decide +kernel) ?_
  refine fe_getR (idx := 62) (t := 6) (f := 8) (fk := 2) (fin := 1) (wp := 182) (x := 8) (by decide +kernel) (by decide +kernel) (by decide +kernel) (by decide +kernel) (by decide +kernel) ?_
  refine fs_iloadn (j := 2) (by decide +kernel) rfl ?_
  refine fx_iald (n := x2.toNatClampNeg) (len := 6) (by decide +kernel) (by decide +kernel) (by decide +kernel) hi0 rfl ?_
  exact nx
theorem b52_56 {d : Nat} {a1 : Nat} {x2 : Int32} {o3 : Option Value} {o4 : Option Value} {o5 : Option Value} {sx0 : Int32} {S : fm_S} {r : Option Value × am_W} (kt : ¬ x2 = (-1) → am_Ev d 52 66 [some (.ref 54), some (.ref a1), some (.int x2), some (.int sx0), o4, o5] [] (fm_mk S) r) (kf : x2 = (-1) → am_Ev d 52 62 [some (.ref 54), some (.ref a1), some (.int x2), some (.int sx0), o4, o5] [] (fm_mk S) r) : am_Ev d 52 56 [some (.ref 54), some (.ref a1), some (.int x2), o3, o4, o5] [.int sx0] (fm_mk S) r := by
  refine fs_istoren (j := 3) (L' := [some (.ref 54), some (.ref a1), some (.int x2), some (.int sx0), o4, o5]) (by decide +kernel) (Nat.le_of_ble_eq_true rfl) rfl ?_
  refine fs_iloadn (j := 2) (by decide +kernel) rfl ?_
  refine fs_iconst (n := -1) (v := (-1)) (by decide +kernel) (by decide) ?_
  exact fs_icne (off := 7) (tgt := 66) (by decide +kernel) (by decide) kt kf
theorem b52_62 {d : Nat} {a1 : Nat} {x2 : Int32} {x3 : Int32} {o4 : Option Value} {o5 : Option Value} {S : fm_S} {r : Option Value × am_W} (nx : am_Ev d 52 72 [some (.ref 54), some (.ref a1), some (.int x2), some (.int x3), o4, o5] [.int 0] (fm_mk S) r) : am_Ev d 52 62 [some (.ref 54), some (.ref a1), some (.int x2), some (.int x3), o4, o5] [] (fm_mk S) r := by
  refine fs_iconst (n := 0) (v := 0) (by decide +kernel) (by decide) ?_
  refine fs_goto (off := 9) (tgt := 72) (by decide +kernel) (by decide) ?_
  exact nx
theorem b52_66 {d : Nat} {a1 : Nat} {x2 : Int32} {x3 : Int32} {o4 : Option Value} {o5 : Option Value} {v : Int32} {S1 : fm_S} {S : fm_S} {r : Option Value × am_W} (hc : am_Sp d 60 [.ref 54, .ref a1, .int x2] (fm_mk S) (some (.int v)) (fm_mk S1)) (nx : am_Ev (d + 1) 52 72 [some (.ref 54), some (.ref a1), some (.int x2), some (.int x3), o4, o5] [.int v] (fm_mk S1) r) : am_Ev (d + 1) 52 66 [some (.ref 54), some (.ref a1), some (.int x2), some (.int x3), o4, o5] [] (fm_mk S) r := by
  refine fs_aloadn (j := 0) (by decide +kernel) rfl ?_
  refine fs_aloadn (j := 1) (by decide +kernel) rfl ?_
  refine fs_iloadn (j := 2) (by decide +kernel) rfl ?_
  exact fe_callV (idx := 65) (n := 2) (wp := 624) (q := (626, 18)) (as := [.ref a1, .int x2]) (rs := []) (by decide +kernel) (by decide +kernel) (by decide +kernel) (by decide +kernel) rfl (Nat.le_of_ble_eq_true rfl) rfl hc nx
theorem b52_72 {d : Nat} {a1 : Nat} {x2 : Int32} {x3 : Int32} {o4 : Option Value} {o5 : Option Value} {sx0 : Int32} {S : fm_S} {r : Option Value × am_W} (nx : am_Ev d 52 77 [some (.ref 54), some (.ref a1), some (.int x2), some (.int x3), some (.int sx0), some (.int 0)] [] (fm_mk S) r) : am_Ev d 52 72 [some (.ref 54), some (.ref a1), some (.int x2), some (.int x3), o4, o5] [.int sx0] (fm_mk S) r := by
  refine fs_istore (j := 4) (L' := [some (.ref 54), some (.ref a1), some (.int x2), some (.int x3), some (.int sx0), o5]) (by decide +kernel) (Nat.le_of_ble_eq_true rfl) rfl ?_
  refine fs_iconst (n := 0) (v := 0) (by decide +kernel) (by decide) ?_
  refine fs_istore (j := 5) (L' := [some (.ref 54), some (.ref a1), some (.int x2), some (.int x3), some (.int sx0), some (.int 0)]) (by decide +kernel) (Nat.le_of_ble_eq_true rfl) rfl ?_
  exact nx
theorem b52_77 {d : Nat} {a1 : Nat} {x2 : Int32} {x3 : Int32} {x4 : Int32} {x5 : Int32} {S : fm_S} {r : Option Value × am_W} (kt : (S.1 1 0) ≤ x5 → am_Ev d 52 133 [some (.ref 54), some (.ref a1), some (.int x2), some (.int x3), some (.int x4), some (.int x5)] [] (fm_mk S) r) (kf : ¬ (S.1 1 0) ≤ x5 → am_Ev d 52 89 [some (.ref 54), some (.ref a1), some (.int x2), some (.int x3), some (.int x4), some (.int x5)] [] (fm_mk S) r) : am_Ev d 52 77 [some (.ref 54), some (.ref a1), some (.int x2), some (.int x3), some (.int x4), some (.int x5)] [] (fm_mk S) r := by
  refine fs_iload (j := 5) (by decide +kernel) rfl ?_
  refine fs_aloadn (j := 0) (by decide +kernel) rfl ?_
  refine fe_getR (idx := 41) (t := 1) (f := 2) (fk := 2) (fin := 1) (wp := 252) (x := 1) (by decide +kernel) (by decide +kernel) (by decide +kernel) (by decide +kernel) (by decide +kernel) ?_
  refine fe_getI (idx := 69) (t := 6) (f := 0) (fk := 0) (fin := 0) (wp := 158) (by decide +kernel) (by decide +kernel) (by decide +kernel) (by decide +kernel) ?_
  exact fs_icge (off := 47) (tgt := 133) (by decide +kernel) (by decide) kt kf
theorem b52_89 {d : Nat} {a1 : Nat} {x2 : Int32} {x3 : Int32} {x4 : Int32} {x5 : Int32} {v : Int32} {S1 : fm_S} {S : fm_S} {r : Option Value × am_W} (hc : am_Sp d 19 [.int x4, .int x5] (fm_mk S) (some (.int v)) (fm_mk S1)) (nx : am_Ev (d + 1) 52 96 [some (.ref 54), some (.ref a1), some (.int x2), some (.int x3), some (.int x4), some (.int x5)] [.int v] (fm_mk S1) r) : am_Ev (d + 1) 52 89 [some (.ref 54), some (.ref a1), some (.int x2), some (.int x3), some (.int x4), some (.int x5)] [] (fm_mk S) r := by
  refine fs_iload (j := 4) (by decide +kernel) rfl ?_
  refine fs_iload (j := 5) (by decide +kernel) rfl ?_
  exact fe_callS (idx := 72) (kd := 4) (n := 2) (wp := 647) (q := (399, 0)) (as := [.int x4, .int x5]) (rs := []) (by decide +kernel) (by decide +kernel) (by decide +kernel) (by decide) rfl (Nat.le_of_ble_eq_true rfl) rfl hc nx
theorem b52_96 {d : Nat} {a1 : Nat} {x2 : Int32} {x3 : Int32} {x4 : Int32} {x5 : Int32} {sx0 : Int32} {S : fm_S} {r : Option Value × am_W} (kt : sx0 = 0 → am_Ev d 52 110 [some (.ref 54), some (.ref a1), some (.int x2), some (.int x3), some (.int x4), some (.int x5)] [] (fm_mk S) r) (kf : ¬ sx0 = 0 → am_Ev d 52 99 [some (.ref 54), some (.ref a1), some (.int x2), some (.int x3), some (.int x4), some (.int x5)] [] (fm_mk S) r) : am_Ev d 52 96 [some (.ref 54), some (.ref a1), some (.int x2), some (.int x3), some (.int x4), some (.int x5)] [.int sx0] (fm_mk S) r := by
  exact fs_ifeq (off := 14) (tgt := 110) (by decide +kernel) (by decide) kt kf
theorem b52_99 {d : Nat} {a1 : Nat} {x2 : Int32} {x3 : Int32} {x4 : Int32} {x5 : Int32} {S : fm_S} {r : Option Value × am_W} (h_a1 : fm_tg a1 = 2) (hi1 : vp_in x5 8) (nx : am_Ev d 52 110 [some (.ref 54), some (.ref a1), some (.int x2), some (.int x3), some (.int x4), some (.int x5)] [] (fm_mk (fm_wI S (a1 + 1) x5.toNatClampNeg (S.1 a1 0))) r) : am_Ev d 52 99 [some (.ref 54), some (.ref a1), some (.int x2), some (.int x3), some (.int x4), some (.int x5)] [] (fm_mk S) r := by
  have D_a1 := fm_days h_a1
  refine fs_aloadn (j := 1) (by decide +kernel) rfl ?_
  refine fe_getR (idx := 76) (t := 2) (f := 1) (fk := 2) (fin := 1) (wp := 127) (x := a1 + 1) (by decide +kernel) (by decide +kernel) h_a1 (by decide +kernel) (fm_objrf h_a1 (by decide) (by decide +kernel) (by decide +kernel)) ?_
  refine fs_iload (j := 5) (by decide +kernel) rfl ?_
  refine fs_aloadn (j := 1) (by decide +kernel) rfl ?_
  refine fe_getI (idx := 48) (t := 2) (f := 0) (fk := 0) (fin := 0) (wp := 124) (by decide +kernel) (by decide +kernel) h_a1 (by decide +kernel) ?_
  refine fx_iast (n := x5.toNatClampNeg) (len := 8) (by decide +kernel) D_a1.1 D_a1.2.1 hi1 rfl ?_
  exact nx
theorem b52_110 {d : Nat} {a1 : Nat} {x2 : Int32} {x3 : Int32} {x4 : Int32} {x5 : Int32} {S1 : fm_S} {S : fm_S} {r : Option Value × am_W} (hi0 : vp_in x5 8) (h_a1 : fm_tg a1 = 2) (hc : am_Sp d 66 [.ref a1, .int x5, .int x3, .int (S.1 57 x5.toNatClampNeg)] (fm_mk S) (none) (fm_mk S1)) (nx : am_Ev (d + 1) 52 127 [some (.ref 54), some (.ref a1), some (.int x2), some (.int x3), some (.int x4), some (.int x5)] [] (fm_mk S1) r) : am_Ev (d + 1) 52 110 [some (.ref 54), some (.ref a1), some (.int x2), some (.int x3), some (.int x4), some (.int x5)] [] (fm_mk S) r := by
  have D_a1 := fm_days h_a1
  refine fs_aloadn (j := 1) (by decide +kernel) rfl ?_
  refine fs_iload (j := 5) (by decide +kernel) rfl ?_
  refine fs_iloadn (j := 3) (by decide +kernel) rfl ?_
  refine fs_aloadn (j := 0) (by decide +kernel) rfl ?_
  refine fe_getR (idx := 18) (t := 1) (f := 3) (fk := 2) (fin := 1) (wp := 253) (x := 56) (by decide +kernel) (by decide +kernel) (by decide +kernel) (by decide +kernel) (by decide +kernel) ?_
  refine fe_getR (idx := 79) (t := 0) (f := 0) (fk := 2) (fin := 1) (wp := 239) (x := 57) (by decide +kernel) (by decide +kernel) (by decide +kernel) (by decide +kernel) (by decide +kernel) ?_
  refine fs_iload (j := 5) (by decide +kernel) rfl ?_
  refine fx_iald (n := x5.toNatClampNeg) (len := 8) (by decide +kernel) (by decide +kernel) (by decide +kernel) hi0 rfl ?_
  exact fe_callV (idx := 82) (n := 3) (wp := 648) (q := (649, 650)) (as := [.int x5, .int x3, .int (S.1 57 x5.toNatClampNeg)]) (rs := []) (by decide +kernel) (by decide +kernel) h_a1 (by decide +kernel) rfl (Nat.le_of_ble_eq_true rfl) rfl hc nx
theorem b52_127 {d : Nat} {a1 : Nat} {x2 : Int32} {x3 : Int32} {x4 : Int32} {x5 : Int32} {S : fm_S} {r : Option Value × am_W} (nx : am_Ev d 52 77 [some (.ref 54), some (.ref a1), some (.int x2), some (.int x3), some (.int x4), some (.int (x5 + 1))] [] (fm_mk S) r) : am_Ev d 52 127 [some (.ref 54), some (.ref a1), some (.int x2), some (.int x3), some (.int x4), some (.int x5)] [] (fm_mk S) r := by
  refine fs_iinc (j := 5) (n := 1) (v := 1) (L' := [some (.ref 54), some (.ref a1), some (.int x2), some (.int x3), some (.int x4), some (.int (x5 + 1))]) (by decide +kernel) rfl (Nat.le_of_ble_eq_true rfl) (by decide) rfl ?_
  refine fs_goto (off := -53) (tgt := 77) (by decide +kernel) (by decide) ?_
  exact nx
theorem b52_133 {d : Nat} {a1 : Nat} {x2 : Int32} {x3 : Int32} {x4 : Int32} {x5 : Int32} {S : fm_S}  (h_a1 : fm_tg a1 = 2) : am_Ev d 52 133 [some (.ref 54), some (.ref a1), some (.int x2), some (.int x3), some (.int x4), some (.int x5)] [] (fm_mk S) (some (.int x4), fm_mk (fm_wI S a1 0 ((S.1 a1 0) + 1))) := by
  have D_a1 := fm_days h_a1
  refine fs_aloadn (j := 1) (by decide +kernel) rfl ?_
  refine fs_dup (by decide +kernel) rfl ?_
  refine fe_getI (idx := 48) (t := 2) (f := 0) (fk := 0) (fin := 0) (wp := 124) (by decide +kernel) (by decide +kernel) h_a1 (by decide +kernel) ?_
  refine fs_iconst (n := 1) (v := 1) (by decide +kernel) (by decide) ?_
  refine fs_iadd (by decide +kernel) ?_
  refine fe_putI (idx := 48) (t := 2) (f := 0) (wp := 124) (by decide +kernel) (by decide +kernel) h_a1 (by decide +kernel) ?_
  refine fs_iload (j := 4) (by decide +kernel) rfl ?_
  exact fe_retI (by decide +kernel) (by decide +kernel)
-- KitchenSiege$Cook.openingBits(LKitchenSiege$Days;I)I
theorem b60_0 {d : Nat} {a1 : Nat} {x2 : Int32} {o3 : Option Value} {o4 : Option Value} {S : fm_S} {r : Option Value × am_W} (nx : am_Ev d 60 5 [some (.ref 54), some (.ref a1), some (.int x2), some (.int 0), some (.int 0)] [] (fm_mk S) r) : am_Ev d 60 0 [some (.ref 54), some (.ref a1), some (.int x2), o3, o4] [] (fm_mk S) r := by
  refine fs_iconst (n := 0) (v := 0) (by decide +kernel) (by decide) ?_
  refine fs_istoren (j := 3) (L' := [some (.ref 54), some (.ref a1), some (.int x2), some (.int 0), o4]) (by decide +kernel) (Nat.le_of_ble_eq_true rfl) rfl ?_
  refine fs_iconst (n := 0) (v := 0) (by decide +kernel) (by decide) ?_
  refine fs_istore (j := 4) (L' := [some (.ref 54), some (.ref a1), some (.int x2), some (.int 0), some (.int 0)]) (by decide +kernel) (Nat.le_of_ble_eq_true rfl) rfl ?_
  exact nx
theorem b60_5 {d : Nat} {a1 : Nat} {x2 : Int32} {x3 : Int32} {x4 : Int32} {S : fm_S} {r : Option Value × am_W} (kt : (S.1 1 0) ≤ x4 → am_Ev d 60 52 [some (.ref 54), some (.ref a1), some (.int x2), some (.int x3), some (.int x4)] [] (fm_mk S) r) (kf : ¬ (S.1 1 0) ≤ x4 → am_Ev d 60 17 [some (.ref 54), some (.ref a1), some (.int x2), some (.int x3), some (.int x4)] [] (fm_mk S) r) : am_Ev d 60 5 [some (.ref 54), some (.ref a1), some (.int x2), some (.int x3), some (.int x4)] [] (fm_mk S) r := by
  refine fs_iload (j := 4) (by decide +kernel) rfl ?_
  refine fs_aloadn (j := 0) (by decide +kernel) rfl ?_
  refine fe_getR (idx := 41) (t := 1) (f := 2) (fk := 2) (fin := 1) (wp := 252) (x := 1) (by decide +kernel) (by decide +kernel) (by decide +kernel) (by decide +kernel) (by decide +kernel) ?_
  refine fe_getI (idx := 69) (t := 6) (f := 0) (fk := 0) (fin := 0) (wp := 158) (by decide +kernel) (by decide +kernel) (by decide +kernel) (by decide +kernel) ?_
  exact fs_icge (off := 38) (tgt := 52) (by decide +kernel) (by decide) kt kf
theorem b60_17 {d : Nat} {a1 : Nat} {x2 : Int32} {x3 : Int32} {x4 : Int32} {v : Int32} {S1 : fm_S} {S : fm_S} {r : Option Value × am_W} (h_a1 : fm_tg a1 = 2) (hc : am_Sp d 61 [.ref a1, .int x4] (fm_mk S) (some (.int v)) (fm_mk S1)) (nx : am_Ev (d + 1) 60 23 [some (.ref 54), some (.ref a1), some (.int x2), some (.int x3), some (.int x4)] [.int v] (fm_mk S1) r) : am_Ev (d + 1) 60 17 [some (.ref 54), some (.ref a1), some (.int x2), some (.int x3), some (.int x4)] [] (fm_mk S) r := by
  have D_a1 := fm_days h_a1
  refine fs_aloadn (j := 1) (by decide +kernel) rfl ?_
  refine fs_iload (j := 4) (by decide +kernel) rfl ?_
  exact fe_callV (idx := 86) (n := 1) (wp := 628) (q := (629, 630)) (as := [.int x4]) (rs := []) (by decide +kernel) (by decide +kernel) h_a1 (by decide +kernel) rfl (Nat.le_of_ble_eq_true rfl) rfl hc nx
theorem b60_23 {d : Nat} {a1 : Nat} {x2 : Int32} {x3 : Int32} {x4 : Int32} {sx0 : Int32} {S : fm_S} {r : Option Value × am_W} (kt : sx0 = 0 → am_Ev d 60 46 [some (.ref 54), some (.ref a1), some (.int x2), some (.int x3), some (.int x4)] [] (fm_mk S) r) (kf : ¬ sx0 = 0 → am_Ev d 60 26 [some (.ref 54), some (.ref a1), some (.int x2), some (.int x3), some (.int x4)] [] (fm_mk S) r) : am_Ev d 60 23 [some (.ref 54), some (.ref a1), some (.int x2), some (.int x3), some (.int x4)] [.int sx0] (fm_mk S) r := by
  exact fs_ifeq (off := 23) (tgt := 46) (by decide +kernel) (by decide) kt kf
theorem b60_26 {d : Nat} {a1 : Nat} {x2 : Int32} {x3 : Int32} {x4 : Int32} {v : Int32} {S1 : fm_S} {S : fm_S} {r : Option Value × am_W} (hc : am_Sp d 62 [.ref 54, .ref a1, .int x2, .int x4] (fm_mk S) (some (.int v)) (fm_mk S1)) (nx : am_Ev (d + 1) 60 34 [some (.ref 54), some (.ref a1), some (.int x2), some (.int x3), some (.int x4)] [.int v] (fm_mk S1) r) : am_Ev (d + 1) 60 26 [some (.ref 54), some (.ref a1), some (.int x2), some (.int x3), some (.int x4)] [] (fm_mk S) r := by
  refine fs_aloadn (j := 0) (by decide +kernel) rfl ?_
  refine fs_aloadn (j := 1) (by decide +kernel) rfl ?_
  refine fs_iloadn (j := 2) (by decide +kernel) rfl ?_
  refine fs_iload (j := 4) (by decide +kernel) rfl ?_
  exact fe_callV (idx := 90) (n := 3) (wp := 632) (q := (634, 19)) (as := [.ref a1, .int x2, .int x4]) (rs := []) (by decide +kernel) (by decide +kernel) (by decide +kernel) (by decide +kernel) rfl (Nat.le_of_ble_eq_true rfl) rfl hc nx
theorem b60_34 {d : Nat} {a1 : Nat} {x2 : Int32} {x3 : Int32} {x4 : Int32} {sx0 : Int32} {S : fm_S} {r : Option Value × am_W} (kt : sx0 < 10 → am_Ev d 60 46 [some (.ref 54), some (.ref a1), some (.int x2), some (.int x3), some (.int x4)] [] (fm_mk S) r) (kf : ¬ sx0 < 10 → am_Ev d 60 39 [some (.ref 54), some (.ref a1), some (.int x2), some (.int x3), some (.int x4)] [] (fm_mk S) r) : am_Ev d 60 34 [some (.ref 54), some (.ref a1), some (.int x2), some (.int x3), some (.int x4)] [.int sx0] (fm_mk S) r := by
  refine fs_bipush (n := 10) (v := 10) (by decide +kernel) (by decide) ?_
  exact fs_iclt (off := 10) (tgt := 46) (by decide +kernel) (by decide) kt kf
theorem b60_39 {d : Nat} {a1 : Nat} {x2 : Int32} {x3 : Int32} {x4 : Int32} {S : fm_S} {r : Option Value × am_W} (nx : am_Ev d 60 46 [some (.ref 54), some (.ref a1), some (.int x2), some (.int (x3 ||| (1 <<< (x4 &&& 31)))), some (.int x4)] [] (fm_mk S) r) : am_Ev d 60 39 [some (.ref 54), some (.ref a1), some (.int x2), some (.int x3), some (.int x4)] [] (fm_mk S) r := by
  refine fs_iloadn (j := 3) (by decide +kernel) rfl ?_
  refine fs_iconst (n := 1) (v := 1) (by decide +kernel) (by decide) ?_
  refine fs_iload (j := 4) (by decide +kernel) rfl ?_
  refine fs_ishl (by decide +kernel) ?_
  refine fs_ior (by decide +kernel) ?_
  refine fs_istoren (j := 3) (L' := [some (.ref 54), some (.ref a1), some (.int x2), some (.int (x3 ||| (1 <<< (x4 &&& 31)))), some (.int x4)]) (by decide +kernel) (Nat.le_of_ble_eq_true rfl) rfl ?_
  exact nx
theorem b60_46 {d : Nat} {a1 : Nat} {x2 : Int32} {x3 : Int32} {x4 : Int32} {S : fm_S} {r : Option Value × am_W} (nx : am_Ev d 60 5 [some (.ref 54), some (.ref a1), some (.int x2), some (.int x3), some (.int (x4 + 1))] [] (fm_mk S) r) : am_Ev d 60 46 [some (.ref 54), some (.ref a1), some (.int x2), some (.int x3), some (.int x4)] [] (fm_mk S) r := by
  refine fs_iinc (j := 4) (n := 1) (v := 1) (L' := [some (.ref 54), some (.ref a1), some (.int x2), some (.int x3), some (.int (x4 + 1))]) (by decide +kernel) rfl (Nat.le_of_ble_eq_true rfl) (by decide) rfl ?_
  refine fs_goto (off := -44) (tgt := 5) (by decide +kernel) (by decide) ?_
  exact nx
theorem b60_52 {d : Nat} {a1 : Nat} {x2 : Int32} {x3 : Int32} {x4 : Int32} {S : fm_S}  : am_Ev d 60 52 [some (.ref 54), some (.ref a1), some (.int x2), some (.int x3), some (.int x4)] [] (fm_mk S) (some (.int x3), fm_mk S) := by
  refine fs_iloadn (j := 3) (by decide +kernel) rfl ?_
  exact fe_retI (by decide +kernel) (by decide +kernel)
-- KitchenSiege$Cook.pullFromAir(LKitchenSiege$Days;II)I
theorem b62_0 {d : Nat} {a1 : Nat} {x2 : Int32} {x3 : Int32} {o4 : Option Value} {v : Int32} {S1 : fm_S} {S : fm_S} {r : Option Value × am_W} (hi0 : vp_in x2 6) (h_a1 : fm_tg a1 = 2) (hc : am_Sp d 63 [.ref a1, .int x3, .int (S.1 8 x2.toNatClampNeg)] (fm_mk S) (some (.int v)) (fm_mk S1)) (nx : am_Ev (d + 1) 62 14 [some (.ref 54), some (.ref a1), some (.int x2), some (.int x3), o4] [.int v] (fm_mk S1) r) : am_Ev (d + 1) 62 0 [some (.ref 54), some (.ref a1), some (.int x2), some (.int x3), o4] [] (fm_mk S) r := by
  have D_a1 := fm_days h_a1
  refine fs_aloadn (j := 1) (by decide +kernel) rfl ?_
  refine fs_iloadn (j := 3) (by decide +kernel) rfl ?_
  refine fs_aloadn (j := 0) (by decide +kernel) rfl ?_
  refine fe_getR (idx := 41) (t := 1) (f := 2) (fk := 2) (fin := 1) (wp := 252) (x := 1) (by decide +kernel) (by decide +kernel) (by decide +kernel) (by decide +kernel) (by decide +kernel) ?_
  refine fe_getR (idx := 62) (t := 6) (f := 8) (fk := 2) (fin := 1) (wp := 182) (x := 8) (by decide +kernel) (by decide +kernel) (by decide +kernel) (by decide +kernel) (by decide +kernel) ?_
  refine fs_iloadn (j := 2) (by decide +kernel) rfl ?_
  refine fx_iald (n := x2.toNatClampNeg) (len := 6) (by decide +kernel) (by decide +kernel) (by decide +kernel) hi0 rfl ?_
  exact fe_callV (idx := 94) (n := 2) (wp := 636) (q := (637, 638)) (as := [.int x3, .int (S.1 8 x2.toNatClampNeg)]) (rs := []) (by decide +kernel) (by decide +kernel) h_a1 (by decide +kernel) rfl (Nat.le_of_ble_eq_true rfl) rfl hc nx
theorem b62_14 {d : Nat} {a1 : Nat} {x2 : Int32} {x3 : Int32} {o4 : Option Value} {sx0 : Int32} {v : Int32} {S1 : fm_S} {S : fm_S} {r : Option Value × am_W} (hi0 : vp_in x3 8) (h_a1 : fm_tg a1 = 2) (hc : am_Sp d 64 [.ref 1, .int x3, .int x2, .int (S.1 57 x3.toNatClampNeg), .int (S.1 a1 0), .int sx0] (fm_mk S) (some (.int v)) (fm_mk S1)) (nx : am_Ev (d + 1) 62 40 [some (.ref 54), some (.ref a1), some (.int x2), some (.int x3), some (.int sx0)] [.int v] (fm_mk S1) r) : am_Ev (d + 1) 62 14 [some (.ref 54), some (.ref a1), some (.int x2), some (.int x3), o4] [.int sx0] (fm_mk S) r := by
  have D_a1 := fm_days h_a1
  refine fs_istore (j := 4) (L' := [some (.ref 54), some (.ref a1), some (.int x2), some (.int x3), some (.int sx0)]) (by decide +kernel) (Nat.le_of_ble_eq_true rfl) rfl ?_
  refine fs_aloadn (j := 0) (by decide +kernel) rfl ?_
  refine fe_getR (idx := 41) (t := 1) (f := 2) (fk := 2) (fin := 1) (wp := 252) (x := 1) (by decide +kernel) (by decide +kernel) (by decide +kernel) (by decide +kernel) (by decide +kernel) ?_
  refine fs_iloadn (j := 3) (by decide +kernel) rfl ?_
  refine fs_iloadn (j := 2) (by decide +kernel) rfl ?_
  refine fs_aloadn (j := 0) (by decide +kernel) rfl ?_
  refine fe_getR (idx := 18) (t := 1) (f := 3) (fk := 2) (fin := 1) (wp := 253) (x := 56) (by decide +kernel) (by decide +kernel) (by decide +kernel) (by decide +kernel) (by decide +kernel) ?_
  refine fe_getR (idx := 79) (t := 0) (f := 0) (fk := 2) (fin := 1) (wp := 239) (x := 57) (by decide +kernel) (by decide +kernel) (by decide +kernel) (by decide +kernel) (by decide +kernel) ?_
  refine fs_iloadn (j := 3) (by decide +kernel) rfl ?_
  refine fx_iald (n := x3.toNatClampNeg) (len := 8) (by decide +kernel) (by decide +kernel) (by decide +kernel) hi0 rfl ?_
  refine fs_aloadn (j := 1) (by decide +kernel) rfl ?_
  refine fe_getI (idx := 48) (t := 2) (f := 0) (fk := 0) (fin := 0) (wp := 124) (by decide +kernel) (by decide +kernel) h_a1 (by decide +kernel) ?_
  refine fs_iload (j := 4) (by decide +kernel) rfl ?_
  exact fe_callV (idx := 97) (n := 5) (wp := 640) (q := (641, 642)) (as := [.int x3, .int x2, .int (S.1 57 x3.toNatClampNeg), .int (S.1 a1 0), .int sx0]) (rs := []) (by decide +kernel) (by decide +kernel) (by decide +kernel) (by decide +kernel) rfl (Nat.le_of_ble_eq_true rfl) rfl hc nx
theorem b62_40 {d : Nat} {a1 : Nat} {x2 : Int32} {x3 : Int32} {x4 : Int32} {sx0 : Int32} {S : fm_S}  : am_Ev d 62 40 [some (.ref 54), some (.ref a1), some (.int x2), some (.int x3), some (.int x4)] [.int sx0] (fm_mk S) (some (.int sx0), fm_mk S) := by
  exact fe_retI (by decide +kernel) (by decide +kernel)
-- KitchenSiege$Cook.strength(III)I
theorem b72_0 {d : Nat} {x1 : Int32} {x2 : Int32} {x3 : Int32} {S1 : fm_S} {S : fm_S} {r : Option Value × am_W} (hc : am_Sp d 56 [.ref 56, .ref 1, .int x1, .int x2] (fm_mk S) (none) (fm_mk S1)) (nx : am_Ev (d + 1) 72 13 [some (.ref 54), some (.int x1), some (.int x2), some (.int x3)] [] (fm_mk S1) r) : am_Ev (d + 1) 72 0 [some (.ref 54), some (.int x1), some (.int x2), some (.int x3)] [] (fm_mk S) r := by
  refine fs_aloadn (j := 0) (by decide +kernel) rfl ?_
  refine fe_getR (idx := 18) (t := 1) (f := 3) (fk := 2) (fin := 1) (wp := 253) (x := 56) (by decide +kernel) (by decide +kernel) (by decide +kernel) (by decide +kernel) (by decide +kernel) ?_
  refine fs_aloadn (j := 0) (by decide +kernel) rfl ?_
  refine fe_getR (idx := 41) (t := 1) (f := 2) (fk := 2) (fin := 1) (wp := 252) (x := 1) (by decide +kernel) (by decide +kernel) (by decide +kernel) (by decide +kernel) (by decide +kernel) ?_
  refine fs_iloadn (j := 1) (by decide +kernel) rfl ?_
  refine fs_iloadn (j := 2) (by decide +kernel) rfl ?_
  exact fe_callV (idx := 58) (n := 3) (wp := 606) (q := (607, 608)) (as := [.ref 1, .int x1, .int x2]) (rs := []) (by decide +kernel) (by decide +kernel) (by decide +kernel) (by decide +kernel) rfl (Nat.le_of_ble_eq_true rfl) rfl hc nx
theorem b72_13 {d : Nat} {x1 : Int32} {x2 : Int32} {x3 : Int32} {S : fm_S}  (hi0 : vp_in x3 8) : am_Ev d 72 13 [some (.ref 54), some (.int x1), some (.int x2), some (.int x3)] [] (fm_mk S) (some (.int (S.1 57 x3.toNatClampNeg)), fm_mk S) := by
  refine fs_aloadn (j := 0) (by decide +kernel) rfl ?_
  refine fe_getR (idx := 18) (t := 1) (f := 3) (fk := 2) (fin := 1) (wp := 253) (x := 56) (by decide +kernel) (by decide +kernel) (by decide +kernel) (by decide +kernel) (by decide +kernel) ?_
  refine fe_getR (idx := 79) (t := 0) (f := 0) (fk := 2) (fin := 1) (wp := 239) (x := 57) (by decide +kernel) (by decide +kernel) (by decide +kernel) (by decide +kernel) (by decide +kernel) ?_
  refine fs_iloadn (j := 3) (by decide +kernel) rfl ?_
  refine fx_iald (n := x3.toNatClampNeg) (len := 8) (by decide +kernel) (by decide +kernel) (by decide +kernel) hi0 rfl ?_
  exact fe_retI (by decide +kernel) (by decide +kernel)
-- KitchenSiege$Cook.pullNow(II)I
theorem b74_0 {d : Nat} {x1 : Int32} {x2 : Int32} {v : Int32} {S1 : fm_S} {S : fm_S} {r : Option Value × am_W} (hc : am_Sp d 54 [.ref 1, .int (S.1 17 0)] (fm_mk S) (some (.int v)) (fm_mk S1)) (nx : am_Ev (d + 1) 74 26 [some (.ref 54), some (.int x1), some (.int x2)] [.int v, .int x1, .ref 1, .ref 56] (fm_mk S1) r) : am_Ev (d + 1) 74 0 [some (.ref 54), some (.int x1), some (.int x2)] [] (fm_mk S) r := by
  refine fs_aloadn (j := 0) (by decide +kernel) rfl ?_
  refine fe_getR (idx := 18) (t := 1) (f := 3) (fk := 2) (fin := 1) (wp := 253) (x := 56) (by decide +kernel) (by decide +kernel) (by decide +kernel) (by decide +kernel) (by decide +kernel) ?_
  refine fs_aloadn (j := 0) (by decide +kernel) rfl ?_
  refine fe_getR (idx := 41) (t := 1) (f := 2) (fk := 2) (fin := 1) (wp := 252) (x := 1) (by decide +kernel) (by decide +kernel) (by decide +kernel) (by decide +kernel) (by decide +kernel) ?_
  refine fs_iloadn (j := 1) (by decide +kernel) rfl ?_
  refine fs_aloadn (j := 0) (by decide +kernel) rfl ?_
  refine fe_getR (idx := 41) (t := 1) (f := 2) (fk := 2) (fin := 1) (wp := 252) (x := 1) (by decide +kernel) (by decide +kernel) (by decide +kernel) (by decide +kernel) (by decide +kernel) ?_
  refine fs_aloadn (j := 0) (by decide +kernel) rfl ?_
  refine fe_getR (idx := 41) (t := 1) (f := 2) (fk := 2) (fin := 1) (wp := 252) (x := 1) (by decide +kernel) (by decide +kernel) (by decide +kernel) (by decide +kernel) (by decide +kernel) ?_
  refine fe_getR (idx := 101) (t := 6) (f := 12) (fk := 2) (fin := 1) (wp := 190) (x := 17) (by decide +kernel) (by decide +kernel) (by decide +kernel) (by decide +kernel) (by decide +kernel) ?_
  refine fe_getI (idx := 48) (t := 2) (f := 0) (fk := 0) (fin := 0) (wp := 124) (by decide +kernel) (by decide +kernel) (by decide +kernel) (by decide +kernel) ?_
  exact fe_callV (idx := 52) (n := 1) (wp := 599) (q := (600, 601)) (as := [.int (S.1 17 0)]) (rs := [.int x1, .ref 1, .ref 56]) (by decide +kernel) (by decide +kernel) (by decide +kernel) (by decide +kernel) rfl (Nat.le_of_ble_eq_true rfl) rfl hc nx
theorem b74_26 {d : Nat} {x1 : Int32} {x2 : Int32} {sx2 : Int32} {sx3 : Int32} {S1 : fm_S} {S : fm_S} {r : Option Value × am_W} (hc : am_Sp d 56 [.ref 56, .ref 1, .int sx2, .int sx3] (fm_mk S) (none) (fm_mk S1)) (nx : am_Ev (d + 1) 74 29 [some (.ref 54), some (.int x1), some (.int x2)] [] (fm_mk S1) r) : am_Ev (d + 1) 74 26 [some (.ref 54), some (.int x1), some (.int x2)] [.int sx3, .int sx2, .ref 1, .ref 56] (fm_mk S) r := by
  exact fe_callV (idx := 58) (n := 3) (wp := 606) (q := (607, 608)) (as := [.ref 1, .int sx2, .int sx3]) (rs := []) (by decide +kernel) (by decide +kernel) (by decide +kernel) (by decide +kernel) rfl (Nat.le_of_ble_eq_true rfl) rfl hc nx
theorem b74_29 {d : Nat} {x1 : Int32} {x2 : Int32} {v : Int32} {S1 : fm_S} {S : fm_S} {r : Option Value × am_W} (hc : am_Sp d 62 [.ref 54, .ref 17, .int x1, .int x2] (fm_mk S) (some (.int v)) (fm_mk S1)) (nx : am_Ev (d + 1) 74 42 [some (.ref 54), some (.int x1), some (.int x2)] [.int v] (fm_mk S1) r) : am_Ev (d + 1) 74 29 [some (.ref 54), some (.int x1), some (.int x2)] [] (fm_mk S) r := by
  refine fs_aloadn (j := 0) (by decide +kernel) rfl ?_
  refine fs_aloadn (j := 0) (by decide +kernel) rfl ?_
  refine fe_getR (idx := 41) (t := 1) (f := 2) (fk := 2) (fin := 1) (wp := 252) (x := 1) (by decide +kernel) (by decide +kernel) (by decide +kernel) (by decide +kernel) (by decide +kernel) ?_
  refine fe_getR (idx := 101) (t := 6) (f := 12) (fk := 2) (fin := 1) (wp := 190) (x := 17) (by decide +kernel) (by decide +kernel) (by decide +kernel) (by decide +kernel) (by decide +kernel) ?_
  refine fs_iloadn (j := 1) (by decide +kernel) rfl ?_
  refine fs_iloadn (j := 2) (by decide +kernel) rfl ?_
  exact fe_callV (idx := 90) (n := 3) (wp := 632) (q := (634, 19)) (as := [.ref 17, .int x1, .int x2]) (rs := []) (by decide +kernel) (by decide +kernel) (by decide +kernel) (by decide +kernel) rfl (Nat.le_of_ble_eq_true rfl) rfl hc nx
theorem b74_42 {d : Nat} {x1 : Int32} {x2 : Int32} {sx0 : Int32} {S : fm_S}  : am_Ev d 74 42 [some (.ref 54), some (.int x1), some (.int x2)] [.int sx0] (fm_mk S) (some (.int sx0), fm_mk S) := by
  exact fe_retI (by decide +kernel) (by decide +kernel)
-- KitchenSiege$Cook.daysToFall(II)I
theorem b76_0 {d : Nat} {x1 : Int32} {x2 : Int32} {o3 : Option Value} {o4 : Option Value} {o5 : Option Value} {v : Int32} {S1 : fm_S} {S : fm_S} {r : Option Value × am_W} (hc : am_Sp d 61 [.ref 17, .int x2] (fm_mk S) (some (.int v)) (fm_mk S1)) (nx : am_Ev (d + 1) 76 11 [some (.ref 54), some (.int x1), some (.int x2), o3, o4, o5] [.int v] (fm_mk S1) r) : am_Ev (d + 1) 76 0 [some (.ref 54), some (.int x1), some (.int x2), o3, o4, o5] [] (fm_mk S) r := by
  refine fs_aloadn (j := 0) (by decide +kernel) rfl ?_
  refine fe_getR (idx := 41) (t := 1) (f := 2) (fk := 2) (fin := 1) (wp := 252) (x := 1) (by decide +kernel) (by decide +kernel) (by decide +kernel) (by decide +kernel) (by decide +kernel) ?_
  refine fe_getR (idx := 101) (t := 6) (f := 12) (fk := 2) (fin := 1) (wp := 190) (x := 17) (by decide +kernel) (by decide +kernel) (by decide +kernel) (by decide +kernel) (by decide +kernel) ?_
  refine fs_iloadn (j := 2) (by decide +kernel) rfl ?_
  exact fe_callV (idx := 86) (n := 1) (wp := 628) (q := (629, 630)) (as := [.int x2]) (rs := []) (by decide +kernel) (by decide +kernel) (by decide +kernel) (by decide +kernel) rfl (Nat.le_of_ble_eq_true rfl) rfl hc nx
theorem b76_11 {d : Nat} {x1 : Int32} {x2 : Int32} {o3 : Option Value} {o4 : Option Value} {o5 : Option Value} {sx0 : Int32} {S : fm_S} {r : Option Value × am_W} (kt : ¬ sx0 = 0 → am_Ev d 76 16 [some (.ref 54), some (.int x1), some (.int x2), o3, o4, o5] [] (fm_mk S) r) (kf : sx0 = 0 → am_Ev d 76 14 [some (.ref 54), some (.int x1), some (.int x2), o3, o4, o5] [] (fm_mk S) r) : am_Ev d 76 11 [some (.ref 54), some (.int x1), some (.int x2), o3, o4, o5] [.int sx0] (fm_mk S) r := by
  exact fs_ifne (off := 5) (tgt := 16) (by decide +kernel) (by decide) kt kf
theorem b76_14 {d : Nat} {x1 : Int32} {x2 : Int32} {o3 : Option Value} {o4 : Option Value} {o5 : Option Value} {S : fm_S}  : am_Ev d 76 14 [some (.ref 54), some (.int x1), some (.int x2), o3, o4, o5] [] (fm_mk S) (some (.int 0), fm_mk S) := by
  refine fs_iconst (n := 0) (v := 0) (by decide +kernel) (by decide) ?_
  exact fe_retI (by decide +kernel) (by decide +kernel)
theorem b76_16 {d : Nat} {x1 : Int32} {x2 : Int32} {o3 : Option Value} {o4 : Option Value} {o5 : Option Value} {S1 : fm_S} {S : fm_S} {r : Option Value × am_W} (hc : am_Sp d 77 [.ref 54, .int x1, .int x2] (fm_mk S) (none) (fm_mk S1)) (nx : am_Ev (d + 1) 76 22 [some (.ref 54), some (.int x1), some (.int x2), o3, o4, o5] [] (fm_mk S1) r) : am_Ev (d + 1) 76 16 [some (.ref 54), some (.int x1), some (.int x2), o3, o4, o5] [] (fm_mk S) r := by
  refine fs_aloadn (j := 0) (by decide +kernel) rfl ?_
  refine fs_iloadn (j := 1) (by decide +kernel) rfl ?_
  refine fs_iloadn (j := 2) (by decide +kernel) rfl ?_
  exact fe_callV (idx := 104) (n := 2) (wp := 693) (q := (695, 21)) (as := [.int x1, .int x2]) (rs := []) (by decide +kernel) (by decide +kernel) (by decide +kernel) (by decide +kernel) rfl (Nat.le_of_ble_eq_true rfl) rfl hc nx
theorem b76_22 {d : Nat} {x1 : Int32} {x2 : Int32} {o3 : Option Value} {o4 : Option Value} {o5 : Option Value} {v : Int32} {S1 : fm_S} {S : fm_S} {r : Option Value × am_W} (hi0 : vp_in x1 6) (hc : am_Sp d 63 [.ref 17, .int x2, .int (S.1 8 x1.toNatClampNeg)] (fm_mk S) (some (.int v)) (fm_mk S1)) (nx : am_Ev (d + 1) 76 42 [some (.ref 54), some (.int x1), some (.int x2), o3, o4, o5] [.int v] (fm_mk S1) r) : am_Ev (d + 1) 76 22 [some (.ref 54), some (.int x1), some (.int x2), o3, o4, o5] [] (fm_mk S) r := by
  refine fs_aloadn (j := 0) (by decide +kernel) rfl ?_
  refine fe_getR (idx := 41) (t := 1) (f := 2) (fk := 2) (fin := 1) (wp := 252) (x := 1) (by decide +kernel) (by decide +kernel) (by decide +kernel) (by decide +kernel) (by decide +kernel) ?_
  refine fe_getR (idx := 101) (t := 6) (f := 12) (fk := 2) (fin := 1) (wp := 190) (x := 17) (by decide +kernel) (by decide +kernel) (by decide +kernel) (by decide +kernel) (by decide +kernel) ?_
  refine fs_iloadn (j := 2) (by decide +kernel) rfl ?_
  refine fs_aloadn (j := 0) (by decide +kernel) rfl ?_
  refine fe_getR (idx := 41) (t := 1) (f := 2) (fk := 2) (fin := 1) (wp := 252) (x := 1) (by decide +kernel) (by decide +kernel) (by decide +kernel) (by decide +kernel) (by decide +kernel) ?_
  refine fe_getR (idx := 62) (t := 6) (f := 8) (fk := 2) (fin := 1) (wp := 182) (x := 8) (by decide +kernel) (by decide +kernel) (by decide +kernel) (by decide +kernel) (by decide +kernel) ?_
  refine fs_iloadn (j := 1) (by decide +kernel) rfl ?_
  refine fx_iald (n := x1.toNatClampNeg) (len := 6) (by decide +kernel) (by decide +kernel) (by decide +kernel) hi0 rfl ?_
  exact fe_callV (idx := 94) (n := 2) (wp := 636) (q := (637, 638)) (as := [.int x2, .int (S.1 8 x1.toNatClampNeg)]) (rs := []) (by decide +kernel) (by decide +kernel) (by decide +kernel) (by decide +kernel) rfl (Nat.le_of_ble_eq_true rfl) rfl hc nx
theorem b76_42 {d : Nat} {x1 : Int32} {x2 : Int32} {o3 : Option Value} {o4 : Option Value} {o5 : Option Value} {sx0 : Int32} {S : fm_S} {r : Option Value × am_W} (nx : am_Ev d 76 46 [some (.ref 54), some (.int x1), some (.int x2), some (.int sx0), some (.int 0), o5] [] (fm_mk S) r) : am_Ev d 76 42 [some (.ref 54), some (.int x1), some (.int x2), o3, o4, o5] [.int sx0] (fm_mk S) r := by
  refine fs_istoren (j := 3) (L' := [some (.ref 54), some (.int x1), some (.int x2), some (.int sx0), o4, o5]) (by decide +kernel) (Nat.le_of_ble_eq_true rfl) rfl ?_
  refine fs_iconst (n := 0) (v := 0) (by decide +kernel) (by decide) ?_
  refine fs_istore (j := 4) (L' := [some (.ref 54), some (.int x1), some (.int x2), some (.int sx0), some (.int 0), o5]) (by decide +kernel) (Nat.le_of_ble_eq_true rfl) rfl ?_
  exact nx
theorem b76_46 {d : Nat} {x1 : Int32} {x2 : Int32} {x3 : Int32} {x4 : Int32} {o5 : Option Value} {S : fm_S} {r : Option Value × am_W} (kt : 30 ≤ x4 → am_Ev d 76 122 [some (.ref 54), some (.int x1), some (.int x2), some (.int x3), some (.int x4), o5] [] (fm_mk S) r) (kf : ¬ 30 ≤ x4 → am_Ev d 76 53 [some (.ref 54), some (.int x1), some (.int x2), some (.int x3), some (.int x4), o5] [] (fm_mk S) r) : am_Ev d 76 46 [some (.ref 54), some (.int x1), some (.int x2), some (.int x3), some (.int x4), o5] [] (fm_mk S) r := by
  refine fs_iload (j := 4) (by decide +kernel) rfl ?_
  refine fs_bipush (n := 30) (v := 30) (by decide +kernel) (by decide) ?_
  exact fs_icge (off := 72) (tgt := 122) (by decide +kernel) (by decide) kt kf
theorem b76_53 {d : Nat} {x1 : Int32} {x2 : Int32} {x3 : Int32} {x4 : Int32} {o5 : Option Value} {v : Int32} {S1 : fm_S} {S : fm_S} {r : Option Value × am_W} (hi0 : vp_in ((x1 * 4) + (x4 - x4 / 4 * 4)) 24) (hc : am_Sp d 64 [.ref 1, .int x2, .int x1, .int (S.1 64 (((x1 * 4) + (x4 - x4 / 4 * 4)).toNatClampNeg)), .int ((S.1 17 0) + x4), .int x3] (fm_mk S) (some (.int v)) (fm_mk S1)) (nx : am_Ev (d + 1) 76 93 [some (.ref 54), some (.int x1), some (.int x2), some (.int x3), some (.int x4), some (.int (S.1 64 (((x1 * 4) + (x4 - x4 / 4 * 4)).toNatClampNeg)))] [.int v] (fm_mk S1) r) : am_Ev (d + 1) 76 53 [some (.ref 54), some (.int x1), some (.int x2), some (.int x3), some (.int x4), o5] [] (fm_mk S) r := by
  refine fs_aloadn (j := 0) (by decide +kernel) rfl ?_
  refine fe_getR (idx := 32) (t := 1) (f := 6) (fk := 2) (fin := 1) (wp := 256) (x := 64) (by decide +kernel) (by decide +kernel) (by decide +kernel) (by decide +kernel) (by decide +kernel) ?_
  refine fs_iloadn (j := 1) (by decide +kernel) rfl ?_
  refine fs_iconst (n := 4) (v := 4) (by decide +kernel) (by decide) ?_
  refine fs_imul (by decide +kernel) ?_
  refine fs_iload (j := 4) (by decide +kernel) rfl ?_
  refine fs_iconst (n := 4) (v := 4) (by decide +kernel) (by decide) ?_
  refine fe_irem (by decide +kernel) (by decide) ?_
  refine fs_iadd (by decide +kernel) ?_
  refine fx_iald (n := ((x1 * 4) + (x4 - x4 / 4 * 4)).toNatClampNeg) (len := 24) (by decide +kernel) (by decide +kernel) (by decide +kernel) hi0 rfl ?_
  refine fs_istore (j := 5) (L' := [some (.ref 54), some (.int x1), some (.int x2), some (.int x3), some (.int x4), some (.int (S.1 64 (((x1 * 4) + (x4 - x4 / 4 * 4)).toNatClampNeg)))]) (by decide +kernel) (Nat.le_of_ble_eq_true rfl) rfl ?_
  refine fs_aloadn (j := 0) (by decide +kernel) rfl ?_
  refine fe_getR (idx := 41) (t := 1) (f := 2) (fk := 2) (fin := 1) (wp := 252) (x := 1) (by decide +kernel) (by decide +kernel) (by decide +kernel) (by decide +kernel) (by decide +kernel) ?_
  refine fs_iloadn (j := 2) (by decide +kernel) rfl ?_
  refine fs_iloadn (j := 1) (by decide +kernel) rfl ?_
  refine fs_iload (j := 5) (by decide +kernel) rfl ?_
  refine fs_aloadn (j := 0) (by decide +kernel) rfl ?_
  refine fe_getR (idx := 41) (t := 1) (f := 2) (fk := 2) (fin := 1) (wp := 252) (x := 1) (by decide +kernel) (by decide +kernel) (by decide +kernel) (by decide +kernel) (by decide +kernel) ?_
  refine fe_getR (idx := 101) (t := 6) (f := 12) (fk := 2) (fin := 1) (wp := 190) (x := 17) (by decide +kernel) (by decide +kernel) (by decide +kernel) (by decide +kernel) (by decide +kernel) ?_
  refine fe_getI (idx := 48) (t := 2) (f := 0) (fk := 0) (fin := 0) (wp := 124) (by decide +kernel) (by decide +kernel) (by decide +kernel) (by decide +kernel) ?_
  refine fs_iload (j := 4) (by decide +kernel) rfl ?_
  refine fs_iadd (by decide +kernel) ?_
  refine fs_iloadn (j := 3) (by decide +kernel) rfl ?_
  exact fe_callV (idx := 97) (n := 5) (wp := 640) (q := (641, 642)) (as := [.int x2, .int x1, .int (S.1 64 (((x1 * 4) + (x4 - x4 / 4 * 4)).toNatClampNeg)), .int ((S.1 17 0) + x4), .int x3]) (rs := []) (by decide +kernel) (by decide +kernel) (by decide +kernel) (by decide +kernel) rfl (Nat.le_of_ble_eq_true rfl) rfl hc nx
theorem b76_93 {d : Nat} {x1 : Int32} {x2 : Int32} {x3 : Int32} {x4 : Int32} {x5 : Int32} {sx0 : Int32} {S : fm_S} {r : Option Value × am_W} (kt : sx0 < 10 → am_Ev d 76 103 [some (.ref 54), some (.int x1), some (.int x2), some (.int x3), some (.int x4), some (.int x5)] [] (fm_mk S) r) (kf : ¬ sx0 < 10 → am_Ev d 76 98 [some (.ref 54), some (.int x1), some (.int x2), some (.int x3), some (.int x4), some (.int x5)] [] (fm_mk S) r) : am_Ev d 76 93 [some (.ref 54), some (.int x1), some (.int x2), some (.int x3), some (.int x4), some (.int x5)] [.int sx0] (fm_mk S) r := by
  refine fs_bipush (n := 10) (v := 10) (by decide +kernel) (by decide) ?_
  exact fs_iclt (off := 8) (tgt := 103) (by decide +kernel) (by decide) kt kf
theorem b76_98 {d : Nat} {x1 : Int32} {x2 : Int32} {x3 : Int32} {x4 : Int32} {x5 : Int32} {S : fm_S}  : am_Ev d 76 98 [some (.ref 54), some (.int x1), some (.int x2), some (.int x3), some (.int x4), some (.int x5)] [] (fm_mk S) (some (.int (x4 + 1)), fm_mk S) := by
  refine fs_iload (j := 4) (by decide +kernel) rfl ?_
  refine fs_iconst (n := 1) (v := 1) (by decide +kernel) (by decide) ?_
  refine fs_iadd (by decide +kernel) ?_
  exact fe_retI (by decide +kernel) (by decide +kernel)
theorem b76_103 {d : Nat} {x1 : Int32} {x2 : Int32} {x3 : Int32} {x4 : Int32} {x5 : Int32} {S : fm_S} {r : Option Value × am_W} (kt : x5 ≤ 0 → am_Ev d 76 114 [some (.ref 54), some (.int x1), some (.int x2), some (.int x3), some (.int x4), some (.int x5)] [] (fm_mk S) r) (kf : ¬ x5 ≤ 0 → am_Ev d 76 108 [some (.ref 54), some (.int x1), some (.int x2), some (.int x3), some (.int x4), some (.int x5)] [] (fm_mk S) r) : am_Ev d 76 103 [some (.ref 54), some (.int x1), some (.int x2), some (.int x3), some (.int x4), some (.int x5)] [] (fm_mk S) r := by
  refine fs_iload (j := 5) (by decide +kernel) rfl ?_
  exact fs_ifle (off := 9) (tgt := 114) (by decide +kernel) (by decide) kt kf
theorem b76_108 {d : Nat} {x1 : Int32} {x2 : Int32} {x3 : Int32} {x4 : Int32} {x5 : Int32} {S : fm_S} {r : Option Value × am_W} (nx : am_Ev d 76 115 [some (.ref 54), some (.int x1), some (.int x2), some (.int x3), some (.int x4), some (.int x5)] [.int (x3 + 1)] (fm_mk S) r) : am_Ev d 76 108 [some (.ref 54), some (.int x1), some (.int x2), some (.int x3), some (.int x4), some (.int x5)] [] (fm_mk S) r := by
  refine fs_iloadn (j := 3) (by decide +kernel) rfl ?_
  refine fs_iconst (n := 1) (v := 1) (by decide +kernel) (by decide) ?_
  refine fs_iadd (by decide +kernel) ?_
  refine fs_goto (off := 4) (tgt := 115) (by decide +kernel) (by decide) ?_
  exact nx
theorem b76_114 {d : Nat} {x1 : Int32} {x2 : Int32} {x3 : Int32} {x4 : Int32} {x5 : Int32} {S : fm_S} {r : Option Value × am_W} (nx : am_Ev d 76 115 [some (.ref 54), some (.int x1), some (.int x2), some (.int x3), some (.int x4), some (.int x5)] [.int 0] (fm_mk S) r) : am_Ev d 76 114 [some (.ref 54), some (.int x1), some (.int x2), some (.int x3), some (.int x4), some (.int x5)] [] (fm_mk S) r := by
  refine fs_iconst (n := 0) (v := 0) (by decide +kernel) (by decide) ?_
  exact nx
theorem b76_115 {d : Nat} {x1 : Int32} {x2 : Int32} {x3 : Int32} {x4 : Int32} {x5 : Int32} {sx0 : Int32} {S : fm_S} {r : Option Value × am_W} (nx : am_Ev d 76 46 [some (.ref 54), some (.int x1), some (.int x2), some (.int sx0), some (.int (x4 + 1)), some (.int x5)] [] (fm_mk S) r) : am_Ev d 76 115 [some (.ref 54), some (.int x1), some (.int x2), some (.int x3), some (.int x4), some (.int x5)] [.int sx0] (fm_mk S) r := by
  refine fs_istoren (j := 3) (L' := [some (.ref 54), some (.int x1), some (.int x2), some (.int sx0), some (.int x4), some (.int x5)]) (by decide +kernel) (Nat.le_of_ble_eq_true rfl) rfl ?_
  refine fs_iinc (j := 4) (n := 1) (v := 1) (L' := [some (.ref 54), some (.int x1), some (.int x2), some (.int sx0), some (.int (x4 + 1)), some (.int x5)]) (by decide +kernel) rfl (Nat.le_of_ble_eq_true rfl) (by decide) rfl ?_
  refine fs_goto (off := -73) (tgt := 46) (by decide +kernel) (by decide) ?_
  exact nx
theorem b76_122 {d : Nat} {x1 : Int32} {x2 : Int32} {x3 : Int32} {x4 : Int32} {o5 : Option Value} {S : fm_S}  : am_Ev d 76 122 [some (.ref 54), some (.int x1), some (.int x2), some (.int x3), some (.int x4), o5] [] (fm_mk S) (some (.int (-1)), fm_mk S) := by
  refine fs_iconst (n := -1) (v := (-1)) (by decide +kernel) (by decide) ?_
  exact fe_retI (by decide +kernel) (by decide +kernel)
-- KitchenSiege$Cook.measure(II)V
theorem b77_0 {d : Nat} {x1 : Int32} {x2 : Int32} {o3 : Option Value} {S : fm_S} {r : Option Value × am_W} (nx : am_Ev d 77 2 [some (.ref 54), some (.int x1), some (.int x2), some (.int 0)] [] (fm_mk S) r) : am_Ev d 77 0 [some (.ref 54), some (.int x1), some (.int x2), o3] [] (fm_mk S) r := by
  refine fs_iconst (n := 0) (v := 0) (by decide +kernel) (by decide) ?_
  refine fs_istoren (j := 3) (L' := [some (.ref 54), some (.int x1), some (.int x2), some (.int 0)]) (by decide +kernel) (Nat.le_of_ble_eq_true rfl) rfl ?_
  exact nx
theorem b77_2 {d : Nat} {x1 : Int32} {x2 : Int32} {x3 : Int32} {S : fm_S} {r : Option Value × am_W} (kt : 4 ≤ x3 → am_Ev d 77 63 [some (.ref 54), some (.int x1), some (.int x2), some (.int x3)] [] (fm_mk S) r) (kf : ¬ 4 ≤ x3 → am_Ev d 77 7 [some (.ref 54), some (.int x1), some (.int x2), some (.int x3)] [] (fm_mk S) r) : am_Ev d 77 2 [some (.ref 54), some (.int x1), some (.int x2), some (.int x3)] [] (fm_mk S) r := by
  refine fs_iloadn (j := 3) (by decide +kernel) rfl ?_
  refine fs_iconst (n := 4) (v := 4) (by decide +kernel) (by decide) ?_
  exact fs_icge (off := 59) (tgt := 63) (by decide +kernel) (by decide) kt kf
theorem b77_7 {d : Nat} {x1 : Int32} {x2 : Int32} {x3 : Int32} {v : Int32} {S1 : fm_S} {S : fm_S} {r : Option Value × am_W} (hc : am_Sp d 54 [.ref 1, .int ((S.1 17 0) + x3)] (fm_mk S) (some (.int v)) (fm_mk S1)) (nx : am_Ev (d + 1) 77 35 [some (.ref 54), some (.int x1), some (.int x2), some (.int x3)] [.int v, .int x1, .ref 1, .ref 56] (fm_mk S1) r) : am_Ev (d + 1) 77 7 [some (.ref 54), some (.int x1), some (.int x2), some (.int x3)] [] (fm_mk S) r := by
  refine fs_aloadn (j := 0) (by decide +kernel) rfl ?_
  refine fe_getR (idx := 18) (t := 1) (f := 3) (fk := 2) (fin := 1) (wp := 253) (x := 56) (by decide +kernel) (by decide +kernel) (by decide +kernel) (by decide +kernel) (by decide +kernel) ?_
  refine fs_aloadn (j := 0) (by decide +kernel) rfl ?_
  refine fe_getR (idx := 41) (t := 1) (f := 2) (fk := 2) (fin := 1) (wp := 252) (x := 1) (by decide +kernel) (by decide +kernel) (by decide +kernel) (by decide +kernel) (by decide +kernel) ?_
  refine fs_iloadn (j := 1) (by decide +kernel) rfl ?_
  refine fs_aloadn (j := 0) (by decide +kernel) rfl ?_
  refine fe_getR (idx := 41) (t := 1) (f := 2) (fk := 2) (fin := 1) (wp := 252) (x := 1) (by decide +kernel) (by decide +kernel) (by decide +kernel) (by decide +kernel) (by decide +kernel) ?_
  refine fs_aloadn (j := 0) (by decide +kernel) rfl ?_
  refine fe_getR (idx := 41) (t := 1) (f := 2) (fk := 2) (fin := 1) (wp := 252) (x := 1) (by decide +kernel) (by decide +kernel) (by decide +kernel) (by decide +kernel) (by decide +kernel) ?_
  refine fe_getR (idx := 101) (t := 6) (f := 12) (fk := 2) (fin := 1) (wp := 190) (x := 17) (by decide +kernel) (by decide +kernel) (by decide +kernel) (by decide +kernel) (by decide +kernel) ?_
  refine fe_getI (idx := 48) (t := 2) (f := 0) (fk := 0) (fin := 0) (wp := 124) (by decide +kernel) (by decide +kernel) (by decide +kernel) (by decide +kernel) ?_
  refine fs_iloadn (j := 3) (by decide +kernel) rfl ?_
  refine fs_iadd (by decide +kernel) ?_
  exact fe_callV (idx := 52) (n := 1) (wp := 599) (q := (600, 601)) (as := [.int ((S.1 17 0) + x3)]) (rs := [.int x1, .ref 1, .ref 56]) (by decide +kernel) (by decide +kernel) (by decide +kernel) (by decide +kernel) rfl (Nat.le_of_ble_eq_true rfl) rfl hc nx
theorem b77_35 {d : Nat} {x1 : Int32} {x2 : Int32} {x3 : Int32} {sx2 : Int32} {sx3 : Int32} {S1 : fm_S} {S : fm_S} {r : Option Value × am_W} (hc : am_Sp d 56 [.ref 56, .ref 1, .int sx2, .int sx3] (fm_mk S) (none) (fm_mk S1)) (nx : am_Ev (d + 1) 77 38 [some (.ref 54), some (.int x1), some (.int x2), some (.int x3)] [] (fm_mk S1) r) : am_Ev (d + 1) 77 35 [some (.ref 54), some (.int x1), some (.int x2), some (.int x3)] [.int sx3, .int sx2, .ref 1, .ref 56] (fm_mk S) r := by
  exact fe_callV (idx := 58) (n := 3) (wp := 606) (q := (607, 608)) (as := [.ref 1, .int sx2, .int sx3]) (rs := []) (by decide +kernel) (by decide +kernel) (by decide +kernel) (by decide +kernel) rfl (Nat.le_of_ble_eq_true rfl) rfl hc nx
theorem b77_38 {d : Nat} {x1 : Int32} {x2 : Int32} {x3 : Int32} {S : fm_S} {r : Option Value × am_W} (hi0 : vp_in x2 8) (hi1 : vp_in ((x1 * 4) + x3) 24) (nx : am_Ev d 77 2 [some (.ref 54), some (.int x1), some (.int x2), some (.int (x3 + 1))] [] (fm_mk (fm_wI S 64 (((x1 * 4) + x3).toNatClampNeg) (S.1 57 x2.toNatClampNeg))) r) : am_Ev d 77 38 [some (.ref 54), some (.int x1), some (.int x2), some (.int x3)] [] (fm_mk S) r := by
  refine fs_aloadn (j := 0) (by decide +kernel) rfl ?_
  refine fe_getR (idx := 32) (t := 1) (f := 6) (fk := 2) (fin := 1) (wp := 256) (x := 64) (by decide +kernel) (by decide +kernel) (by decide +kernel) (by decide +kernel) (by decide +kernel) ?_
  refine fs_iloadn (j := 1) (by decide +kernel) rfl ?_
  refine fs_iconst (n := 4) (v := 4) (by decide +kernel) (by decide) ?_
  refine fs_imul (by decide +kernel) ?_
  refine fs_iloadn (j := 3) (by decide +kernel) rfl ?_
  refine fs_iadd (by decide +kernel) ?_
  refine fs_aloadn (j := 0) (by decide +kernel) rfl ?_
  refine fe_getR (idx := 18) (t := 1) (f := 3) (fk := 2) (fin := 1) (wp := 253) (x := 56) (by decide +kernel) (by decide +kernel) (by decide +kernel) (by decide +kernel) (by decide +kernel) ?_
  refine fe_getR (idx := 79) (t := 0) (f := 0) (fk := 2) (fin := 1) (wp := 239) (x := 57) (by decide +kernel) (by decide +kernel) (by decide +kernel) (by decide +kernel) (by decide +kernel) ?_
  refine fs_iloadn (j := 2) (by decide +kernel) rfl ?_
  refine fx_iald (n := x2.toNatClampNeg) (len := 8) (by decide +kernel) (by decide +kernel) (by decide +kernel) hi0 rfl ?_
  refine fx_iast (n := ((x1 * 4) + x3).toNatClampNeg) (len := 24) (by decide +kernel) (by decide +kernel) (by decide +kernel) hi1 rfl ?_
  refine fs_iinc (j := 3) (n := 1) (v := 1) (L' := [some (.ref 54), some (.int x1), some (.int x2), some (.int (x3 + 1))]) (by decide +kernel) rfl (Nat.le_of_ble_eq_true rfl) (by decide) rfl ?_
  refine fs_goto (off := -58) (tgt := 2) (by decide +kernel) (by decide) ?_
  exact nx
theorem b77_63 {d : Nat} {x1 : Int32} {x2 : Int32} {x3 : Int32} {S : fm_S}  : am_Ev d 77 63 [some (.ref 54), some (.int x1), some (.int x2), some (.int x3)] [] (fm_mk S) (none, fm_mk S) := by
  exact fe_retV (by decide +kernel) (by decide +kernel)
-- KitchenSiege$Cook.findRow(I)I
theorem b79_0 {d : Nat} {x1 : Int32} {o2 : Option Value} {o3 : Option Value} {v : Int32} {S1 : fm_S} {S : fm_S} {r : Option Value × am_W} (hc : am_Sp d 61 [.ref 17, .int x1] (fm_mk (fm_wI S 54 1 0)) (some (.int v)) (fm_mk S1)) (nx : am_Ev (d + 1) 79 16 [some (.ref 54), some (.int x1), o2, o3] [.int v] (fm_mk S1) r) : am_Ev (d + 1) 79 0 [some (.ref 54), some (.int x1), o2, o3] [] (fm_mk S) r := by
  refine fs_aloadn (j := 0) (by decide +kernel) rfl ?_
  refine fs_iconst (n := 0) (v := 0) (by decide +kernel) (by decide) ?_
  refine fe_putI (idx := 108) (t := 1) (f := 1) (wp := 250) (by decide +kernel) (by decide +kernel) (by decide +kernel) (by decide +kernel) ?_
  refine fs_aloadn (j := 0) (by decide +kernel) rfl ?_
  refine fe_getR (idx := 41) (t := 1) (f := 2) (fk := 2) (fin := 1) (wp := 252) (x := 1) (by decide +kernel) (by decide +kernel) (by decide +kernel) (by decide +kernel) (by decide +kernel) ?_
  refine fe_getR (idx := 101) (t := 6) (f := 12) (fk := 2) (fin := 1) (wp := 190) (x := 17) (by decide +kernel) (by decide +kernel) (by decide +kernel) (by decide +kernel) (by decide +kernel) ?_
  refine fs_iloadn (j := 1) (by decide +kernel) rfl ?_
  exact fe_callV (idx := 86) (n := 1) (wp := 628) (q := (629, 630)) (as := [.int x1]) (rs := []) (by decide +kernel) (by decide +kernel) (by decide +kernel) (by decide +kernel) rfl (Nat.le_of_ble_eq_true rfl) rfl hc nx
theorem b79_16 {d : Nat} {x1 : Int32} {o2 : Option Value} {o3 : Option Value} {sx0 : Int32} {S : fm_S} {r : Option Value × am_W} (kt : ¬ sx0 = 0 → am_Ev d 79 21 [some (.ref 54), some (.int x1), o2, o3] [] (fm_mk S) r) (kf : sx0 = 0 → am_Ev d 79 19 [some (.ref 54), some (.int x1), o2, o3] [] (fm_mk S) r) : am_Ev d 79 16 [some (.ref 54), some (.int x1), o2, o3] [.int sx0] (fm_mk S) r := by
  exact fs_ifne (off := 5) (tgt := 21) (by decide +kernel) (by decide) kt kf
theorem b79_19 {d : Nat} {x1 : Int32} {o2 : Option Value} {o3 : Option Value} {S : fm_S}  : am_Ev d 79 19 [some (.ref 54), some (.int x1), o2, o3] [] (fm_mk S) (some (.int 0), fm_mk S) := by
  refine fs_iconst (n := 0) (v := 0) (by decide +kernel) (by decide) ?_
  exact fe_retI (by decide +kernel) (by decide +kernel)
theorem b79_21 {d : Nat} {x1 : Int32} {o2 : Option Value} {o3 : Option Value} {S : fm_S} {r : Option Value × am_W} (nx : am_Ev d 79 23 [some (.ref 54), some (.int x1), some (.int 0), o3] [] (fm_mk S) r) : am_Ev d 79 21 [some (.ref 54), some (.int x1), o2, o3] [] (fm_mk S) r := by
  refine fs_iconst (n := 0) (v := 0) (by decide +kernel) (by decide) ?_
  refine fs_istoren (j := 2) (L' := [some (.ref 54), some (.int x1), some (.int 0), o3]) (by decide +kernel) (Nat.le_of_ble_eq_true rfl) rfl ?_
  exact nx
theorem b79_23 {d : Nat} {x1 : Int32} {x2 : Int32} {o3 : Option Value} {S : fm_S} {r : Option Value × am_W} (kt : (S.1 1 7) ≤ x2 → am_Ev d 79 46 [some (.ref 54), some (.int x1), some (.int x2), o3] [] (fm_mk S) r) (kf : ¬ (S.1 1 7) ≤ x2 → am_Ev d 79 34 [some (.ref 54), some (.int x1), some (.int x2), o3] [] (fm_mk S) r) : am_Ev d 79 23 [some (.ref 54), some (.int x1), some (.int x2), o3] [] (fm_mk S) r := by
  refine fs_iloadn (j := 2) (by decide +kernel) rfl ?_
  refine fs_aloadn (j := 0) (by decide +kernel) rfl ?_
  refine fe_getR (idx := 41) (t := 1) (f := 2) (fk := 2) (fin := 1) (wp := 252) (x := 1) (by decide +kernel) (by decide +kernel) (by decide +kernel) (by decide +kernel) (by decide +kernel) ?_
  refine fe_getI (idx := 111) (t := 6) (f := 7) (fk := 0) (fin := 0) (wp := 180) (by decide +kernel) (by decide +kernel) (by decide +kernel) (by decide +kernel) ?_
  exact fs_icge (off := 15) (tgt := 46) (by decide +kernel) (by decide) kt kf
theorem b79_34 {d : Nat} {x1 : Int32} {x2 : Int32} {o3 : Option Value} {S1 : fm_S} {S : fm_S} {r : Option Value × am_W} (hc : am_Sp d 77 [.ref 54, .int x2, .int x1] (fm_mk S) (none) (fm_mk S1)) (nx : am_Ev (d + 1) 79 40 [some (.ref 54), some (.int x1), some (.int x2), o3] [] (fm_mk S1) r) : am_Ev (d + 1) 79 34 [some (.ref 54), some (.int x1), some (.int x2), o3] [] (fm_mk S) r := by
  refine fs_aloadn (j := 0) (by decide +kernel) rfl ?_
  refine fs_iloadn (j := 2) (by decide +kernel) rfl ?_
  refine fs_iloadn (j := 1) (by decide +kernel) rfl ?_
  exact fe_callV (idx := 104) (n := 2) (wp := 693) (q := (695, 21)) (as := [.int x2, .int x1]) (rs := []) (by decide +kernel) (by decide +kernel) (by decide +kernel) (by decide +kernel) rfl (Nat.le_of_ble_eq_true rfl) rfl hc nx
theorem b79_40 {d : Nat} {x1 : Int32} {x2 : Int32} {o3 : Option Value} {S : fm_S} {r : Option Value × am_W} (nx : am_Ev d 79 23 [some (.ref 54), some (.int x1), some (.int (x2 + 1)), o3] [] (fm_mk S) r) : am_Ev d 79 40 [some (.ref 54), some (.int x1), some (.int x2), o3] [] (fm_mk S) r := by
  refine fs_iinc (j := 2) (n := 1) (v := 1) (L' := [some (.ref 54), some (.int x1), some (.int (x2 + 1)), o3]) (by decide +kernel) rfl (Nat.le_of_ble_eq_true rfl) (by decide) rfl ?_
  refine fs_goto (off := -20) (tgt := 23) (by decide +kernel) (by decide) ?_
  exact nx
theorem b79_46 {d : Nat} {x1 : Int32} {x2 : Int32} {o3 : Option Value} {S : fm_S} {r : Option Value × am_W} (nx : am_Ev d 79 50 [some (.ref 54), some (.int x1), some (.int 1), some (.int 1)] [] (fm_mk S) r) : am_Ev d 79 46 [some (.ref 54), some (.int x1), some (.int x2), o3] [] (fm_mk S) r := by
  refine fs_iconst (n := 1) (v := 1) (by decide +kernel) (by decide) ?_
  refine fs_istoren (j := 2) (L' := [some (.ref 54), some (.int x1), some (.int 1), o3]) (by decide +kernel) (Nat.le_of_ble_eq_true rfl) rfl ?_
  refine fs_iconst (n := 1) (v := 1) (by decide +kernel) (by decide) ?_
  refine fs_istoren (j := 3) (L' := [some (.ref 54), some (.int x1), some (.int 1), some (.int 1)]) (by decide +kernel) (Nat.le_of_ble_eq_true rfl) rfl ?_
  exact nx
theorem b79_50 {d : Nat} {x1 : Int32} {x2 : Int32} {x3 : Int32} {S : fm_S} {r : Option Value × am_W} (kt : 4 < x3 → am_Ev d 79 83 [some (.ref 54), some (.int x1), some (.int x2), some (.int x3)] [] (fm_mk S) r) (kf : ¬ 4 < x3 → am_Ev d 79 55 [some (.ref 54), some (.int x1), some (.int x2), some (.int x3)] [] (fm_mk S) r) : am_Ev d 79 50 [some (.ref 54), some (.int x1), some (.int x2), some (.int x3)] [] (fm_mk S) r := by
  refine fs_iloadn (j := 3) (by decide +kernel) rfl ?_
  refine fs_iconst (n := 4) (v := 4) (by decide +kernel) (by decide) ?_
  exact fs_icgt (off := 31) (tgt := 83) (by decide +kernel) (by decide) kt kf
theorem b79_55 {d : Nat} {x1 : Int32} {x2 : Int32} {x3 : Int32} {v : Int32} {S1 : fm_S} {S : fm_S} {r : Option Value × am_W} (hc : am_Sp d 80 [.ref 54, .int x3, .int (x2 * (S.1 1 7)), .int x1] (fm_mk S) (some (.int v)) (fm_mk S1)) (nx : am_Ev (d + 1) 79 72 [some (.ref 54), some (.int x1), some (.int (x2 * (S.1 1 7))), some (.int x3)] [.int v] (fm_mk S1) r) : am_Ev (d + 1) 79 55 [some (.ref 54), some (.int x1), some (.int x2), some (.int x3)] [] (fm_mk S) r := by
  refine fs_iloadn (j := 2) (by decide +kernel) rfl ?_
  refine fs_aloadn (j := 0) (by decide +kernel) rfl ?_
  refine fe_getR (idx := 41) (t := 1) (f := 2) (fk := 2) (fin := 1) (wp := 252) (x := 1) (by decide +kernel) (by decide +kernel) (by decide +kernel) (by decide +kernel) (by decide +kernel) ?_
  refine fe_getI (idx := 111) (t := 6) (f := 7) (fk := 0) (fin := 0) (wp := 180) (by decide +kernel) (by decide +kernel) (by decide +kernel) (by decide +kernel) ?_
  refine fs_imul (by decide +kernel) ?_
  refine fs_istoren (j := 2) (L' := [some (.ref 54), some (.int x1), some (.int (x2 * (S.1 1 7))), some (.int x3)]) (by decide +kernel) (Nat.le_of_ble_eq_true rfl) rfl ?_
  refine fs_aloadn (j := 0) (by decide +kernel) rfl ?_
  refine fs_iloadn (j := 3) (by decide +kernel) rfl ?_
  refine fs_iloadn (j := 2) (by decide +kernel) rfl ?_
  refine fs_iloadn (j := 1) (by decide +kernel) rfl ?_
  exact fe_callV (idx := 114) (n := 3) (wp := 705) (q := (707, 22)) (as := [.int x3, .int (x2 * (S.1 1 7)), .int x1]) (rs := []) (by decide +kernel) (by decide +kernel) (by decide +kernel) (by decide +kernel) rfl (Nat.le_of_ble_eq_true rfl) rfl hc nx
theorem b79_72 {d : Nat} {x1 : Int32} {x2 : Int32} {x3 : Int32} {sx0 : Int32} {S : fm_S} {r : Option Value × am_W} (kt : sx0 = 0 → am_Ev d 79 77 [some (.ref 54), some (.int x1), some (.int x2), some (.int x3)] [] (fm_mk S) r) (kf : ¬ sx0 = 0 → am_Ev d 79 75 [some (.ref 54), some (.int x1), some (.int x2), some (.int x3)] [] (fm_mk S) r) : am_Ev d 79 72 [some (.ref 54), some (.int x1), some (.int x2), some (.int x3)] [.int sx0] (fm_mk S) r := by
  exact fs_ifeq (off := 5) (tgt := 77) (by decide +kernel) (by decide) kt kf
theorem b79_75 {d : Nat} {x1 : Int32} {x2 : Int32} {x3 : Int32} {S : fm_S}  : am_Ev d 79 75 [some (.ref 54), some (.int x1), some (.int x2), some (.int x3)] [] (fm_mk S) (some (.int x3), fm_mk S) := by
  refine fs_iloadn (j := 3) (by decide +kernel) rfl ?_
  exact fe_retI (by decide +kernel) (by decide +kernel)
theorem b79_77 {d : Nat} {x1 : Int32} {x2 : Int32} {x3 : Int32} {S : fm_S} {r : Option Value × am_W} (nx : am_Ev d 79 50 [some (.ref 54), some (.int x1), some (.int x2), some (.int (x3 + 1))] [] (fm_mk S) r) : am_Ev d 79 77 [some (.ref 54), some (.int x1), some (.int x2), some (.int x3)] [] (fm_mk S) r := by
  refine fs_iinc (j := 3) (n := 1) (v := 1) (L' := [some (.ref 54), some (.int x1), some (.int x2), some (.int (x3 + 1))]) (by decide +kernel) rfl (Nat.le_of_ble_eq_true rfl) (by decide) rfl ?_
  refine fs_goto (off := -30) (tgt := 50) (by decide +kernel) (by decide) ?_
  exact nx
theorem b79_83 {d : Nat} {x1 : Int32} {x2 : Int32} {x3 : Int32} {S : fm_S}  : am_Ev d 79 83 [some (.ref 54), some (.int x1), some (.int x2), some (.int x3)] [] (fm_mk S) (some (.int (-1)), fm_mk S) := by
  refine fs_iconst (n := -1) (v := (-1)) (by decide +kernel) (by decide) ?_
  exact fe_retI (by decide +kernel) (by decide +kernel)
-- KitchenSiege$Cook.findRowOf(III)Z
theorem b80_0 {d : Nat} {x1 : Int32} {x2 : Int32} {x3 : Int32} {o4 : Option Value} {o5 : Option Value} {o6 : Option Value} {o7 : Option Value} {S : fm_S} {r : Option Value × am_W} (nx : am_Ev d 80 6 [some (.ref 54), some (.int x1), some (.int x2), some (.int x3), some (.int 0), some (.int 0), o6, o7] [] (fm_mk S) r) : am_Ev d 80 0 [some (.ref 54), some (.int x1), some (.int x2), some (.int x3), o4, o5, o6, o7] [] (fm_mk S) r := by
  refine fs_iconst (n := 0) (v := 0) (by decide +kernel) (by decide) ?_
  refine fs_istore (j := 4) (L' := [some (.ref 54), some (.int x1), some (.int x2), some (.int x3), some (.int 0), o5, o6, o7]) (by decide +kernel) (Nat.le_of_ble_eq_true rfl) rfl ?_
  refine fs_iconst (n := 0) (v := 0) (by decide +kernel) (by decide) ?_
  refine fs_istore (j := 5) (L' := [some (.ref 54), some (.int x1), some (.int x2), some (.int x3), some (.int 0), some (.int 0), o6, o7]) (by decide +kernel) (Nat.le_of_ble_eq_true rfl) rfl ?_
  exact nx
theorem b80_6 {d : Nat} {x1 : Int32} {x2 : Int32} {x3 : Int32} {x4 : Int32} {x5 : Int32} {o6 : Option Value} {o7 : Option Value} {S : fm_S} {r : Option Value × am_W} (kt : x2 ≤ x5 → am_Ev d 80 115 [some (.ref 54), some (.int x1), some (.int x2), some (.int x3), some (.int x4), some (.int x5), o6, o7] [] (fm_mk S) r) (kf : ¬ x2 ≤ x5 → am_Ev d 80 12 [some (.ref 54), some (.int x1), some (.int x2), some (.int x3), some (.int x4), some (.int x5), o6, o7] [] (fm_mk S) r) : am_Ev d 80 6 [some (.ref 54), some (.int x1), some (.int x2), some (.int x3), some (.int x4), some (.int x5), o6, o7] [] (fm_mk S) r := by
  refine fs_iload (j := 5) (by decide +kernel) rfl ?_
  refine fs_iloadn (j := 2) (by decide +kernel) rfl ?_
  exact fs_icge (off := 106) (tgt := 115) (by decide +kernel) (by decide) kt kf
theorem b80_12 {d : Nat} {x1 : Int32} {x2 : Int32} {x3 : Int32} {x4 : Int32} {x5 : Int32} {o6 : Option Value} {o7 : Option Value} {v : Int32} {S1 : fm_S} {S : fm_S} {r : Option Value × am_W} (hc : am_Sp d 81 [.ref 54, .int x5, .int x1] (fm_mk S) (some (.int v)) (fm_mk S1)) (nx : am_Ev (d + 1) 80 19 [some (.ref 54), some (.int x1), some (.int x2), some (.int x3), some (.int x4), some (.int x5), o6, o7] [.int v] (fm_mk S1) r) : am_Ev (d + 1) 80 12 [some (.ref 54), some (.int x1), some (.int x2), some (.int x3), some (.int x4), some (.int x5), o6, o7] [] (fm_mk S) r := by
  refine fs_aloadn (j := 0) (by decide +kernel) rfl ?_
  refine fs_iload (j := 5) (by decide +kernel) rfl ?_
  refine fs_iloadn (j := 1) (by decide +kernel) rfl ?_
  exact fe_callV (idx := 118) (n := 2) (wp := 709) (q := (711, 23)) (as := [.int x5, .int x1]) (rs := []) (by decide +kernel) (by decide +kernel) (by decide +kernel) (by decide +kernel) rfl (Nat.le_of_ble_eq_true rfl) rfl hc nx
theorem b80_19 {d : Nat} {x1 : Int32} {x2 : Int32} {x3 : Int32} {x4 : Int32} {x5 : Int32} {o6 : Option Value} {o7 : Option Value} {sx0 : Int32} {S : fm_S} {r : Option Value × am_W} (kt : sx0 = 0 → am_Ev d 80 109 [some (.ref 54), some (.int x1), some (.int x2), some (.int x3), some (.int x4), some (.int x5), o6, o7] [] (fm_mk S) r) (kf : ¬ sx0 = 0 → am_Ev d 80 22 [some (.ref 54), some (.int x1), some (.int x2), some (.int x3), some (.int x4), some (.int x5), o6, o7] [] (fm_mk S) r) : am_Ev d 80 19 [some (.ref 54), some (.int x1), some (.int x2), some (.int x3), some (.int x4), some (.int x5), o6, o7] [.int sx0] (fm_mk S) r := by
  exact fs_ifeq (off := 90) (tgt := 109) (by decide +kernel) (by decide) kt kf
theorem b80_22 {d : Nat} {x1 : Int32} {x2 : Int32} {x3 : Int32} {x4 : Int32} {x5 : Int32} {o6 : Option Value} {o7 : Option Value} {v : Int32} {S1 : fm_S} {S : fm_S} {r : Option Value × am_W} (hc : am_Sp d 82 [.ref 54, .int x3, .int x1] (fm_mk S) (some (.int v)) (fm_mk S1)) (nx : am_Ev (d + 1) 80 28 [some (.ref 54), some (.int x1), some (.int x2), some (.int x3), some (.int x4), some (.int x5), o6, o7] [.int v] (fm_mk S1) r) : am_Ev (d + 1) 80 22 [some (.ref 54), some (.int x1), some (.int x2), some (.int x3), some (.int x4), some (.int x5), o6, o7] [] (fm_mk S) r := by
  refine fs_aloadn (j := 0) (by decide +kernel) rfl ?_
  refine fs_iloadn (j := 3) (by decide +kernel) rfl ?_
  refine fs_iloadn (j := 1) (by decide +kernel) rfl ?_
  exact fe_callV (idx := 121) (n := 2) (wp := 713) (q := (715, 24)) (as := [.int x3, .int x1]) (rs := []) (by decide +kernel) (by decide +kernel) (by decide +kernel) (by decide +kernel) rfl (Nat.le_of_ble_eq_true rfl) rfl hc nx
theorem b80_28 {d : Nat} {x1 : Int32} {x2 : Int32} {x3 : Int32} {x4 : Int32} {x5 : Int32} {o6 : Option Value} {o7 : Option Value} {sx0 : Int32} {S : fm_S} {r : Option Value × am_W} (kt : ¬ sx0 = 0 → am_Ev d 80 34 [some (.ref 54), some (.int x1), some (.int x2), some (.int x3), some (.int x4), some (.int x5), o6, o7] [] (fm_mk S) r) (kf : sx0 = 0 → am_Ev d 80 31 [some (.ref 54), some (.int x1), some (.int x2), some (.int x3), some (.int x4), some (.int x5), o6, o7] [] (fm_mk S) r) : am_Ev d 80 28 [some (.ref 54), some (.int x1), some (.int x2), some (.int x3), some (.int x4), some (.int x5), o6, o7] [.int sx0] (fm_mk S) r := by
  exact fs_ifne (off := 6) (tgt := 34) (by decide +kernel) (by decide) kt kf
theorem b80_31 {d : Nat} {x1 : Int32} {x2 : Int32} {x3 : Int32} {x4 : Int32} {x5 : Int32} {o6 : Option Value} {o7 : Option Value} {S : fm_S} {r : Option Value × am_W} (nx : am_Ev d 80 109 [some (.ref 54), some (.int x1), some (.int x2), some (.int x3), some (.int x4), some (.int x5), o6, o7] [] (fm_mk S) r) : am_Ev d 80 31 [some (.ref 54), some (.int x1), some (.int x2), some (.int x3), some (.int x4), some (.int x5), o6, o7] [] (fm_mk S) r := by
  refine fs_goto (off := 78) (tgt := 109) (by decide +kernel) (by decide) ?_
  exact nx
theorem b80_34 {d : Nat} {x1 : Int32} {x2 : Int32} {x3 : Int32} {x4 : Int32} {x5 : Int32} {o6 : Option Value} {o7 : Option Value} {S : fm_S} {r : Option Value × am_W} (nx : am_Ev d 80 40 [some (.ref 54), some (.int x1), some (.int x2), some (.int x3), some (.int x4), some (.int x5), some (.int 0), some (.int 0)] [] (fm_mk S) r) : am_Ev d 80 34 [some (.ref 54), some (.int x1), some (.int x2), some (.int x3), some (.int x4), some (.int x5), o6, o7] [] (fm_mk S) r := by
  refine fs_iconst (n := 0) (v := 0) (by decide +kernel) (by decide) ?_
  refine fs_istore (j := 6) (L' := [some (.ref 54), some (.int x1), some (.int x2), some (.int x3), some (.int x4), some (.int x5), some (.int 0), o7]) (by decide +kernel) (Nat.le_of_ble_eq_true rfl) rfl ?_
  refine fs_iconst (n := 0) (v := 0) (by decide +kernel) (by decide) ?_
  refine fs_istore (j := 7) (L' := [some (.ref 54), some (.int x1), some (.int x2), some (.int x3), some (.int x4), some (.int x5), some (.int 0), some (.int 0)]) (by decide +kernel) (Nat.le_of_ble_eq_true rfl) rfl ?_
  exact nx
theorem b80_40 {d : Nat} {x1 : Int32} {x2 : Int32} {x3 : Int32} {x4 : Int32} {x5 : Int32} {x6 : Int32} {x7 : Int32} {S : fm_S} {r : Option Value × am_W} (kt : x1 ≤ x7 → am_Ev d 80 72 [some (.ref 54), some (.int x1), some (.int x2), some (.int x3), some (.int x4), some (.int x5), some (.int x6), some (.int x7)] [] (fm_mk S) r) (kf : ¬ x1 ≤ x7 → am_Ev d 80 46 [some (.ref 54), some (.int x1), some (.int x2), some (.int x3), some (.int x4), some (.int x5), some (.int x6), some (.int x7)] [] (fm_mk S) r) : am_Ev d 80 40 [some (.ref 54), some (.int x1), some (.int x2), some (.int x3), some (.int x4), some (.int x5), some (.int x6), some (.int x7)] [] (fm_mk S) r := by
  refine fs_iload (j := 7) (by decide +kernel) rfl ?_
  refine fs_iloadn (j := 1) (by decide +kernel) rfl ?_
  exact fs_icge (off := 29) (tgt := 72) (by decide +kernel) (by decide) kt kf
theorem b80_46 {d : Nat} {x1 : Int32} {x2 : Int32} {x3 : Int32} {x4 : Int32} {x5 : Int32} {x6 : Int32} {x7 : Int32} {S : fm_S} {r : Option Value × am_W} (hi0 : vp_in x7 4) (hi1 : vp_in (S.1 63 x7.toNatClampNeg) 6) (nx : am_Ev d 80 40 [some (.ref 54), some (.int x1), some (.int x2), some (.int x3), some (.int x4), some (.int x5), some (.int (x6 + (S.1 10 ((S.1 63 x7.toNatClampNeg).toNatClampNeg)))), some (.int (x7 + 1))] [] (fm_mk S) r) : am_Ev d 80 46 [some (.ref 54), some (.int x1), some (.int x2), some (.int x3), some (.int x4), some (.int x5), some (.int x6), some (.int x7)] [] (fm_mk S) r := by
  refine fs_iload (j := 6) (by decide +kernel) rfl ?_
  refine fs_aloadn (j := 0) (by decide +kernel) rfl ?_
  refine fe_getR (idx := 41) (t := 1) (f := 2) (fk := 2) (fin := 1) (wp := 252) (x := 1) (by decide +kernel) (by decide +kernel) (by decide +kernel) (by decide +kernel) (by decide +kernel) ?_
  refine fe_getR (idx := 124) (t := 6) (f := 10) (fk := 2) (fin := 1) (wp := 186) (x := 10) (by decide +kernel) (by decide +kernel) (by decide +kernel) (by decide +kernel) (by decide +kernel) ?_
  refine fs_aloadn (j := 0) (by decide +kernel) rfl ?_
  refine fe_getR (idx := 29) (t := 1) (f := 5) (fk := 2) (fin := 1) (wp := 255) (x := 63) (by decide +kernel) (by decide +kernel) (by decide +kernel) (by decide +kernel) (by decide +kernel) ?_
  refine fs_iload (j := 7) (by decide +kernel) rfl ?_
  refine fx_iald (n := x7.toNatClampNeg) (len := 4) (by decide +kernel) (by decide +kernel) (by decide +kernel) hi0 rfl ?_
  refine fx_iald (n := (S.1 63 x7.toNatClampNeg).toNatClampNeg) (len := 6) (by decide +kernel) (by decide +kernel) (by decide +kernel) hi1 rfl ?_
  refine fs_iadd (by decide +kernel) ?_
  refine fs_istore (j := 6) (L' := [some (.ref 54), some (.int x1), some (.int x2), some (.int x3), some (.int x4), some (.int x5), some (.int (x6 + (S.1 10 ((S.1 63 x7.toNatClampNeg).toNatClampNeg)))), some (.int x7)]) (by decide +kernel) (Nat.le_of_ble_eq_true rfl) rfl ?_
  refine fs_iinc (j := 7) (n := 1) (v := 1) (L' := [some (.ref 54), some (.int x1), some (.int x2), some (.int x3), some (.int x4), some (.int x5), some (.int (x6 + (S.1 10 ((S.1 63 x7.toNatClampNeg).toNatClampNeg)))), some (.int (x7 + 1))]) (by decide +kernel) rfl (Nat.le_of_ble_eq_true rfl) (by decide) rfl ?_
  refine fs_goto (off := -29) (tgt := 40) (by decide +kernel) (by decide) ?_
  exact nx
theorem b80_72 {d : Nat} {x1 : Int32} {x2 : Int32} {x3 : Int32} {x4 : Int32} {x5 : Int32} {x6 : Int32} {x7 : Int32} {S : fm_S} {r : Option Value × am_W} (kt : x4 = 0 → am_Ev d 80 86 [some (.ref 54), some (.int x1), some (.int x2), some (.int x3), some (.int x4), some (.int x5), some (.int x6), some (.int x7)] [] (fm_mk S) r) (kf : ¬ x4 = 0 → am_Ev d 80 77 [some (.ref 54), some (.int x1), some (.int x2), some (.int x3), some (.int x4), some (.int x5), some (.int x6), some (.int x7)] [] (fm_mk S) r) : am_Ev d 80 72 [some (.ref 54), some (.int x1), some (.int x2), some (.int x3), some (.int x4), some (.int x5), some (.int x6), some (.int x7)] [] (fm_mk S) r := by
  refine fs_iload (j := 4) (by decide +kernel) rfl ?_
  exact fs_ifeq (off := 12) (tgt := 86) (by decide +kernel) (by decide) kt kf
theorem b80_77 {d : Nat} {x1 : Int32} {x2 : Int32} {x3 : Int32} {x4 : Int32} {x5 : Int32} {x6 : Int32} {x7 : Int32} {S : fm_S} {r : Option Value × am_W} (kt : (S.1 54 1) ≤ x6 → am_Ev d 80 109 [some (.ref 54), some (.int x1), some (.int x2), some (.int x3), some (.int x4), some (.int x5), some (.int x6), some (.int x7)] [] (fm_mk S) r) (kf : ¬ (S.1 54 1) ≤ x6 → am_Ev d 80 86 [some (.ref 54), some (.int x1), some (.int x2), some (.int x3), some (.int x4), some (.int x5), some (.int x6), some (.int x7)] [] (fm_mk S) r) : am_Ev d 80 77 [some (.ref 54), some (.int x1), some (.int x2), some (.int x3), some (.int x4), some (.int x5), some (.int x6), some (.int x7)] [] (fm_mk S) r := by
  refine fs_iload (j := 6) (by decide +kernel) rfl ?_
  refine fs_aloadn (j := 0) (by decide +kernel) rfl ?_
  refine fe_getI (idx := 108) (t := 1) (f := 1) (fk := 0) (fin := 0) (wp := 250) (by decide +kernel) (by decide +kernel) (by decide +kernel) (by decide +kernel) ?_
  exact fs_icge (off := 26) (tgt := 109) (by decide +kernel) (by decide) kt kf
theorem b80_86 {d : Nat} {x1 : Int32} {x2 : Int32} {x3 : Int32} {x4 : Int32} {x5 : Int32} {x6 : Int32} {x7 : Int32} {S : fm_S} {r : Option Value × am_W} (nx : am_Ev (d + 1) 80 109 [some (.ref 54), some (.int x1), some (.int x2), some (.int x3), some (.int 1), some (.int x5), some (.int x6), some (.int x7)] [] (fm_mk (fm_cp (fm_wI S 54 1 x6) 63 0 55 0 4)) r) : am_Ev (d + 1) 80 86 [some (.ref 54), some (.int x1), some (.int x2), some (.int x3), some (.int x4), some (.int x5), some (.int x6), some (.int x7)] [] (fm_mk S) r := by
  refine fs_iconst (n := 1) (v := 1) (by decide +kernel) (by decide) ?_
  refine fs_istore (j := 4) (L' := [some (.ref 54), some (.int x1), some (.int x2), some (.int x3), some (.int 1), some (.int x5), some (.int x6), some (.int x7)]) (by decide +kernel) (Nat.le_of_ble_eq_true rfl) rfl ?_
  refine fs_aloadn (j := 0) (by decide +kernel) rfl ?_
  refine fs_iload (j := 6) (by decide +kernel) rfl ?_
  refine fe_putI (idx := 108) (t := 1) (f := 1) (wp := 250) (by decide +kernel) (by decide +kernel) (by decide +kernel) (by decide +kernel) ?_
  refine fs_aloadn (j := 0) (by decide +kernel) rfl ?_
  refine fe_getR (idx := 29) (t := 1) (f := 5) (fk := 2) (fin := 1) (wp := 255) (x := 63) (by decide +kernel) (by decide +kernel) (by decide +kernel) (by decide +kernel) (by decide +kernel) ?_
  refine fs_iconst (n := 0) (v := 0) (by decide +kernel) (by decide) ?_
  refine fs_aloadn (j := 0) (by decide +kernel) rfl ?_
  refine fe_getR (idx := 9) (t := 1) (f := 0) (fk := 2) (fin := 1) (wp := 248) (x := 55) (by decide +kernel) (by decide +kernel) (by decide +kernel) (by decide +kernel) (by decide +kernel) ?_
  refine fs_iconst (n := 0) (v := 0) (by decide +kernel) (by decide) ?_
  refine fs_iconst (n := 4) (v := 4) (by decide +kernel) (by decide) ?_
  refine fx_copy (idx := 127) (q := 717) (l0 := 4) (l1 := 4) (s0 := 0) (d0 := 0) (n0 := 4) (by decide +kernel) (by decide +kernel) (by decide +kernel) (by decide +kernel) (by decide +kernel) (by decide +kernel) (by decide) (by decide) (by decide) (by decide) (Nat.le_of_ble_eq_true rfl) ?_
  exact nx
theorem b80_109 {d : Nat} {x1 : Int32} {x2 : Int32} {x3 : Int32} {x4 : Int32} {x5 : Int32} {o6 : Option Value} {o7 : Option Value} {S : fm_S} {r : Option Value × am_W} (nx : am_Ev d 80 6 [some (.ref 54), some (.int x1), some (.int x2), some (.int x3), some (.int x4), some (.int (x5 + 1)), o6, o7] [] (fm_mk S) r) : am_Ev d 80 109 [some (.ref 54), some (.int x1), some (.int x2), some (.int x3), some (.int x4), some (.int x5), o6, o7] [] (fm_mk S) r := by
  refine fs_iinc (j := 5) (n := 1) (v := 1) (L' := [some (.ref 54), some (.int x1), some (.int x2), some (.int x3), some (.int x4), some (.int (x5 + 1)), o6, o7]) (by decide +kernel) rfl (Nat.le_of_ble_eq_true rfl) (by decide) rfl ?_
  refine fs_goto (off := -106) (tgt := 6) (by decide +kernel) (by decide) ?_
  exact nx
theorem b80_115 {d : Nat} {x1 : Int32} {x2 : Int32} {x3 : Int32} {x4 : Int32} {x5 : Int32} {o6 : Option Value} {o7 : Option Value} {S : fm_S}  (hz : x4 = 0 ∨ x4 = 1) : am_Ev d 80 115 [some (.ref 54), some (.int x1), some (.int x2), some (.int x3), some (.int x4), some (.int x5), o6, o7] [] (fm_mk S) (some (.int x4), fm_mk S) := by
  refine fs_iload (j := 4) (by decide +kernel) rfl ?_
  exact fe_retZ (by decide +kernel) (by decide +kernel) hz
-- KitchenSiege$Cook.lay(II)Z
theorem b81_0 {d : Nat} {x1 : Int32} {x2 : Int32} {o3 : Option Value} {o4 : Option Value} {o5 : Option Value} {o6 : Option Value} {S : fm_S} {r : Option Value × am_W} (nx : am_Ev d 81 10 [some (.ref 54), some (.int x1), some (.int x2), some (.int x1), some (.int 0), some (.int (x2 - 1)), o6] [] (fm_mk S) r) : am_Ev d 81 0 [some (.ref 54), some (.int x1), some (.int x2), o3, o4, o5, o6] [] (fm_mk S) r := by
  refine fs_iloadn (j := 1) (by decide +kernel) rfl ?_
  refine fs_istoren (j := 3) (L' := [some (.ref 54), some (.int x1), some (.int x2), some (.int x1), o4, o5, o6]) (by decide +kernel) (Nat.le_of_ble_eq_true rfl) rfl ?_
  refine fs_iconst (n := 0) (v := 0) (by decide +kernel) (by decide) ?_
  refine fs_istore (j := 4) (L' := [some (.ref 54), some (.int x1), some (.int x2), some (.int x1), some (.int 0), o5, o6]) (by decide +kernel) (Nat.le_of_ble_eq_true rfl) rfl ?_
  refine fs_iloadn (j := 2) (by decide +kernel) rfl ?_
  refine fs_iconst (n := 1) (v := 1) (by decide +kernel) (by decide) ?_
  refine fs_isub (by decide +kernel) ?_
  refine fs_istore (j := 5) (L' := [some (.ref 54), some (.int x1), some (.int x2), some (.int x1), some (.int 0), some (.int (x2 - 1)), o6]) (by decide +kernel) (Nat.le_of_ble_eq_true rfl) rfl ?_
  exact nx
theorem b81_10 {d : Nat} {x1 : Int32} {x2 : Int32} {x3 : Int32} {x4 : Int32} {x5 : Int32} {o6 : Option Value} {S : fm_S} {r : Option Value × am_W} (kt : x5 < 0 → am_Ev d 81 82 [some (.ref 54), some (.int x1), some (.int x2), some (.int x3), some (.int x4), some (.int x5), o6] [] (fm_mk S) r) (kf : ¬ x5 < 0 → am_Ev d 81 15 [some (.ref 54), some (.int x1), some (.int x2), some (.int x3), some (.int x4), some (.int x5), o6] [] (fm_mk S) r) : am_Ev d 81 10 [some (.ref 54), some (.int x1), some (.int x2), some (.int x3), some (.int x4), some (.int x5), o6] [] (fm_mk S) r := by
  refine fs_iload (j := 5) (by decide +kernel) rfl ?_
  exact fs_iflt (off := 70) (tgt := 82) (by decide +kernel) (by decide) kt kf
theorem b81_15 {d : Nat} {x1 : Int32} {x2 : Int32} {x3 : Int32} {x4 : Int32} {x5 : Int32} {o6 : Option Value} {S : fm_S} {r : Option Value × am_W} (kt : (S.1 1 7) ≤ 0 → am_Ev d 81 82 [some (.ref 54), some (.int x1), some (.int x2), some (.int x3), some (.int x4), some (.int x5), o6] [] (fm_mk S) r) (kf : ¬ (S.1 1 7) ≤ 0 → am_Ev d 81 25 [some (.ref 54), some (.int x1), some (.int x2), some (.int x3), some (.int x4), some (.int x5), o6] [] (fm_mk S) r) : am_Ev d 81 15 [some (.ref 54), some (.int x1), some (.int x2), some (.int x3), some (.int x4), some (.int x5), o6] [] (fm_mk S) r := by
  refine fs_aloadn (j := 0) (by decide +kernel) rfl ?_
  refine fe_getR (idx := 41) (t := 1) (f := 2) (fk := 2) (fin := 1) (wp := 252) (x := 1) (by decide +kernel) (by decide +kernel) (by decide +kernel) (by decide +kernel) (by decide +kernel) ?_
  refine fe_getI (idx := 111) (t := 6) (f := 7) (fk := 0) (fin := 0) (wp := 180) (by decide +kernel) (by decide +kernel) (by decide +kernel) (by decide +kernel) ?_
  exact fs_ifle (off := 60) (tgt := 82) (by decide +kernel) (by decide) kt kf
theorem b81_25 {d : Nat} {x1 : Int32} {x2 : Int32} {x3 : Int32} {x4 : Int32} {x5 : Int32} {o6 : Option Value} {v : Int32} {S1 : fm_S} {S : fm_S} {r : Option Value × am_W} (hd0 : ¬ (S.1 1 7) = 0) (hc : am_Sp d 19 [.int x4, .int (x3 - x3 / (S.1 1 7) * (S.1 1 7))] (fm_mk S) (some (.int v)) (fm_mk S1)) (nx : am_Ev (d + 1) 81 53 [some (.ref 54), some (.int x1), some (.int x2), some (.int (x3 / (S.1 1 7))), some (.int x4), some (.int x5), some (.int (x3 - x3 / (S.1 1 7) * (S.1 1 7)))] [.int v] (fm_mk S1) r) : am_Ev (d + 1) 81 25 [some (.ref 54), some (.int x1), some (.int x2), some (.int x3), some (.int x4), some (.int x5), o6] [] (fm_mk S) r := by
  refine fs_iloadn (j := 3) (by decide +kernel) rfl ?_
  refine fs_aloadn (j := 0) (by decide +kernel) rfl ?_
  refine fe_getR (idx := 41) (t := 1) (f := 2) (fk := 2) (fin := 1) (wp := 252) (x := 1) (by decide +kernel) (by decide +kernel) (by decide +kernel) (by decide +kernel) (by decide +kernel) ?_
  refine fe_getI (idx := 111) (t := 6) (f := 7) (fk := 0) (fin := 0) (wp := 180) (by decide +kernel) (by decide +kernel) (by decide +kernel) (by decide +kernel) ?_
  refine fe_irem (by decide +kernel) hd0 ?_
  refine fs_istore (j := 6) (L' := [some (.ref 54), some (.int x1), some (.int x2), some (.int x3), some (.int x4), some (.int x5), some (.int (x3 - x3 / (S.1 1 7) * (S.1 1 7)))]) (by decide +kernel) (Nat.le_of_ble_eq_true rfl) rfl ?_
  refine fs_iloadn (j := 3) (by decide +kernel) rfl ?_
  refine fs_aloadn (j := 0) (by decide +kernel) rfl ?_
  refine fe_getR (idx := 41) (t := 1) (f := 2) (fk := 2) (fin := 1) (wp := 252) (x := 1) (by decide +kernel) (by decide +kernel) (by decide +kernel) (by decide +kernel) (by decide +kernel) ?_
  refine fe_getI (idx := 111) (t := 6) (f := 7) (fk := 0) (fin := 0) (wp := 180) (by decide +kernel) (by decide +kernel) (by decide +kernel) (by decide +kernel) ?_
  refine fe_idiv (by decide +kernel) hd0 ?_
  refine fs_istoren (j := 3) (L' := [some (.ref 54), some (.int x1), some (.int x2), some (.int (x3 / (S.1 1 7))), some (.int x4), some (.int x5), some (.int (x3 - x3 / (S.1 1 7) * (S.1 1 7)))]) (by decide +kernel) (Nat.le_of_ble_eq_true rfl) rfl ?_
  refine fs_iload (j := 4) (by decide +kernel) rfl ?_
  refine fs_iload (j := 6) (by decide +kernel) rfl ?_
  exact fe_callS (idx := 72) (kd := 4) (n := 2) (wp := 647) (q := (399, 0)) (as := [.int x4, .int (x3 - x3 / (S.1 1 7) * (S.1 1 7))]) (rs := []) (by decide +kernel) (by decide +kernel) (by decide +kernel) (by decide) rfl (Nat.le_of_ble_eq_true rfl) rfl hc nx
theorem b81_53 {d : Nat} {x1 : Int32} {x2 : Int32} {x3 : Int32} {x4 : Int32} {x5 : Int32} {x6 : Int32} {sx0 : Int32} {S : fm_S} {r : Option Value × am_W} (kt : sx0 = 0 → am_Ev d 81 58 [some (.ref 54), some (.int x1), some (.int x2), some (.int x3), some (.int x4), some (.int x5), some (.int x6)] [] (fm_mk S) r) (kf : ¬ sx0 = 0 → am_Ev d 81 56 [some (.ref 54), some (.int x1), some (.int x2), some (.int x3), some (.int x4), some (.int x5), some (.int x6)] [] (fm_mk S) r) : am_Ev d 81 53 [some (.ref 54), some (.int x1), some (.int x2), some (.int x3), some (.int x4), some (.int x5), some (.int x6)] [.int sx0] (fm_mk S) r := by
  exact fs_ifeq (off := 5) (tgt := 58) (by decide +kernel) (by decide) kt kf
theorem b81_56 {d : Nat} {x1 : Int32} {x2 : Int32} {x3 : Int32} {x4 : Int32} {x5 : Int32} {x6 : Int32} {S : fm_S}  : am_Ev d 81 56 [some (.ref 54), some (.int x1), some (.int x2), some (.int x3), some (.int x4), some (.int x5), some (.int x6)] [] (fm_mk S) (some (.int 0), fm_mk S) := by
  refine fs_iconst (n := 0) (v := 0) (by decide +kernel) (by decide) ?_
  exact fe_retZ (by decide +kernel) (by decide +kernel) (by decide)
theorem b81_58 {d : Nat} {x1 : Int32} {x2 : Int32} {x3 : Int32} {x4 : Int32} {x5 : Int32} {x6 : Int32} {S : fm_S} {r : Option Value × am_W} (hi0 : vp_in x5 4) (nx : am_Ev d 81 10 [some (.ref 54), some (.int x1), some (.int x2), some (.int x3), some (.int (x4 ||| (1 <<< (x6 &&& 31)))), some (.int (x5 + (-1))), some (.int x6)] [] (fm_mk (fm_wI S 63 x5.toNatClampNeg x6)) r) : am_Ev d 81 58 [some (.ref 54), some (.int x1), some (.int x2), some (.int x3), some (.int x4), some (.int x5), some (.int x6)] [] (fm_mk S) r := by
  refine fs_iload (j := 4) (by decide +kernel) rfl ?_
  refine fs_iconst (n := 1) (v := 1) (by decide +kernel) (by decide) ?_
  refine fs_iload (j := 6) (by decide +kernel) rfl ?_
  refine fs_ishl (by decide +kernel) ?_
  refine fs_ior (by decide +kernel) ?_
  refine fs_istore (j := 4) (L' := [some (.ref 54), some (.int x1), some (.int x2), some (.int x3), some (.int (x4 ||| (1 <<< (x6 &&& 31)))), some (.int x5), some (.int x6)]) (by decide +kernel) (Nat.le_of_ble_eq_true rfl) rfl ?_
  refine fs_aloadn (j := 0) (by decide +kernel) rfl ?_
  refine fe_getR (idx := 29) (t := 1) (f := 5) (fk := 2) (fin := 1) (wp := 255) (x := 63) (by decide +kernel) (by decide +kernel) (by decide +kernel) (by decide +kernel) (by decide +kernel) ?_
  refine fs_iload (j := 5) (by decide +kernel) rfl ?_
  refine fs_iload (j := 6) (by decide +kernel) rfl ?_
  refine fx_iast (n := x5.toNatClampNeg) (len := 4) (by decide +kernel) (by decide +kernel) (by decide +kernel) hi0 rfl ?_
  refine fs_iinc (j := 5) (n := -1) (v := (-1)) (L' := [some (.ref 54), some (.int x1), some (.int x2), some (.int x3), some (.int (x4 ||| (1 <<< (x6 &&& 31)))), some (.int (x5 + (-1))), some (.int x6)]) (by decide +kernel) rfl (Nat.le_of_ble_eq_true rfl) (by decide) rfl ?_
  refine fs_goto (off := -69) (tgt := 10) (by decide +kernel) (by decide) ?_
  exact nx
theorem b81_82 {d : Nat} {x1 : Int32} {x2 : Int32} {x3 : Int32} {x4 : Int32} {x5 : Int32} {o6 : Option Value} {S : fm_S}  : am_Ev d 81 82 [some (.ref 54), some (.int x1), some (.int x2), some (.int x3), some (.int x4), some (.int x5), o6] [] (fm_mk S) (some (.int 1), fm_mk S) := by
  refine fs_iconst (n := 1) (v := 1) (by decide +kernel) (by decide) ?_
  exact fe_retZ (by decide +kernel) (by decide +kernel) (by decide)
-- KitchenSiege$Cook.opensLast(II)Z
theorem b82_0 {d : Nat} {x1 : Int32} {x2 : Int32} {o3 : Option Value} {o4 : Option Value} {o5 : Option Value} {o6 : Option Value} {o7 : Option Value} {o8 : Option Value} {o9 : Option Value} {o10 : Option Value} {S : fm_S} {r : Option Value × am_W} (hi0 : vp_in x1 8) (nx : am_Ev d 82 33 [some (.ref 54), some (.int x1), some (.int x2), some (.int (S.1 19 x1.toNatClampNeg)), some (.int (S.1 20 x1.toNatClampNeg)), some (.int 0), some (.int 0), o7, o8, o9, o10] [] (fm_mk S) r) : am_Ev d 82 0 [some (.ref 54), some (.int x1), some (.int x2), o3, o4, o5, o6, o7, o8, o9, o10] [] (fm_mk S) r := by
  refine fs_aloadn (j := 0) (by decide +kernel) rfl ?_
  refine fe_getR (idx := 41) (t := 1) (f := 2) (fk := 2) (fin := 1) (wp := 252) (x := 1) (by decide +kernel) (by decide +kernel) (by decide +kernel) (by decide +kernel) (by decide +kernel) ?_
  refine fe_getR (idx := 101) (t := 6) (f := 12) (fk := 2) (fin := 1) (wp := 190) (x := 17) (by decide +kernel) (by decide +kernel) (by decide +kernel) (by decide +kernel) (by decide +kernel) ?_
  refine fe_getR (idx := 133) (t := 2) (f := 2) (fk := 2) (fin := 1) (wp := 131) (x := 19) (by decide +kernel) (by decide +kernel) (by decide +kernel) (by decide +kernel) (by decide +kernel) ?_
  refine fs_iloadn (j := 1) (by decide +kernel) rfl ?_
  refine fx_iald (n := x1.toNatClampNeg) (len := 8) (by decide +kernel) (by decide +kernel) (by decide +kernel) hi0 rfl ?_
  refine fs_istoren (j := 3) (L' := [some (.ref 54), some (.int x1), some (.int x2), some (.int (S.1 19 x1.toNatClampNeg)), o4, o5, o6, o7, o8, o9, o10]) (by decide +kernel) (Nat.le_of_ble_eq_true rfl) rfl ?_
  refine fs_aloadn (j := 0) (by decide +kernel) rfl ?_
  refine fe_getR (idx := 41) (t := 1) (f := 2) (fk := 2) (fin := 1) (wp := 252) (x := 1) (by decide +kernel) (by decide +kernel) (by decide +kernel) (by decide +kernel) (by decide +kernel) ?_
  refine fe_getR (idx := 101) (t := 6) (f := 12) (fk := 2) (fin := 1) (wp := 190) (x := 17) (by decide +kernel) (by decide +kernel) (by decide +kernel) (by decide +kernel) (by decide +kernel) ?_
  refine fe_getR (idx := 136) (t := 2) (f := 3) (fk := 2) (fin := 1) (wp := 135) (x := 20) (by decide +kernel) (by decide +kernel) (by decide +kernel) (by decide +kernel) (by decide +kernel) ?_
  refine fs_iloadn (j := 1) (by decide +kernel) rfl ?_
  refine fx_iald (n := x1.toNatClampNeg) (len := 8) (by decide +kernel) (by decide +kernel) (by decide +kernel) hi0 rfl ?_
  refine fs_istore (j := 4) (L' := [some (.ref 54), some (.int x1), some (.int x2), some (.int (S.1 19 x1.toNatClampNeg)), some (.int (S.1 20 x1.toNatClampNeg)), o5, o6, o7, o8, o9, o10]) (by decide +kernel) (Nat.le_of_ble_eq_true rfl) rfl ?_
  refine fs_iconst (n := 0) (v := 0) (by decide +kernel) (by decide) ?_
  refine fs_istore (j := 5) (L' := [some (.ref 54), some (.int x1), some (.int x2), some (.int (S.1 19 x1.toNatClampNeg)), some (.int (S.1 20 x1.toNatClampNeg)), some (.int 0), o6, o7, o8, o9, o10]) (by decide +kernel) (Nat.le_of_ble_eq_true rfl) rfl ?_
  refine fs_iconst (n := 0) (v := 0) (by decide +kernel) (by decide) ?_
  refine fs_istore (j := 6) (L' := [some (.ref 54), some (.int x1), some (.int x2), some (.int (S.1 19 x1.toNatClampNeg)), some (.int (S.1 20 x1.toNatClampNeg)), some (.int 0), some (.int 0), o7, o8, o9, o10]) (by decide +kernel) (Nat.le_of_ble_eq_true rfl) rfl ?_
  exact nx
theorem b82_33 {d : Nat} {x1 : Int32} {x2 : Int32} {x3 : Int32} {x4 : Int32} {x5 : Int32} {x6 : Int32} {o7 : Option Value} {o8 : Option Value} {o9 : Option Value} {o10 : Option Value} {S : fm_S} {r : Option Value × am_W} (kt : x2 ≤ x6 → am_Ev d 82 150 [some (.ref 54), some (.int x1), some (.int x2), some (.int x3), some (.int x4), some (.int x5), some (.int x6), o7, o8, o9, o10] [] (fm_mk S) r) (kf : ¬ x2 ≤ x6 → am_Ev d 82 39 [some (.ref 54), some (.int x1), some (.int x2), some (.int x3), some (.int x4), some (.int x5), some (.int x6), o7, o8, o9, o10] [] (fm_mk S) r) : am_Ev d 82 33 [some (.ref 54), some (.int x1), some (.int x2), some (.int x3), some (.int x4), some (.int x5), some (.int x6), o7, o8, o9, o10] [] (fm_mk S) r := by
  refine fs_iload (j := 6) (by decide +kernel) rfl ?_
  refine fs_iloadn (j := 2) (by decide +kernel) rfl ?_
  exact fs_icge (off := 114) (tgt := 150) (by decide +kernel) (by decide) kt kf
theorem b82_39 {d : Nat} {x1 : Int32} {x2 : Int32} {x3 : Int32} {x4 : Int32} {x5 : Int32} {x6 : Int32} {o7 : Option Value} {o8 : Option Value} {o9 : Option Value} {o10 : Option Value} {S : fm_S} {r : Option Value × am_W} (hi0 : vp_in x6 4) (hi1 : vp_in (S.1 63 x6.toNatClampNeg) 6) (hi2 : vp_in (((S.1 63 x6.toNatClampNeg) * 4) + x6) 24) (kt : ¬ (S.1 8 ((S.1 63 x6.toNatClampNeg).toNatClampNeg)) = x3 → am_Ev d 82 85 [some (.ref 54), some (.int x1), some (.int x2), some (.int x3), some (.int x4), some (.int x5), some (.int x6), some (.int (S.1 63 x6.toNatClampNeg)), some (.int (S.1 8 ((S.1 63 x6.toNatClampNeg).toNatClampNeg))), some (.int (S.1 64 ((((S.1 63 x6.toNatClampNeg) * 4) + x6).toNatClampNeg))), o10] [] (fm_mk S) r) (kf : (S.1 8 ((S.1 63 x6.toNatClampNeg).toNatClampNeg)) = x3 → am_Ev d 82 80 [some (.ref 54), some (.int x1), some (.int x2), some (.int x3), some (.int x4), some (.int x5), some (.int x6), some (.int (S.1 63 x6.toNatClampNeg)), some (.int (S.1 8 ((S.1 63 x6.toNatClampNeg).toNatClampNeg))), some (.int (S.1 64 ((((S.1 63 x6.toNatClampNeg) * 4) + x6).toNatClampNeg))), o10] [] (fm_mk S) r) : am_Ev d 82 39 [some (.ref 54), some (.int x1), some (.int x2), some (.int x3), some (.int x4), some (.int x5), some (.int x6), o7, o8, o9, o10] [] (fm_mk S) r := by
  refine fs_aloadn (j := 0) (by decide +kernel) rfl ?_
  refine fe_getR (idx := 29) (t := 1) (f := 5) (fk := 2) (fin := 1) (wp := 255) (x := 63) (by decide +kernel) (by decide +kernel) (by decide +kernel) (by decide +kernel) (by decide +kernel) ?_
  refine fs_iload (j := 6) (by decide +kernel) rfl ?_
  refine fx_iald (n := x6.toNatClampNeg) (len := 4) (by decide +kernel) (by decide +kernel) (by decide +kernel) hi0 rfl ?_
  refine fs_istore (j := 7) (L' := [some (.ref 54), some (.int x1), some (.int x2), some (.int x3), some (.int x4), some (.int x5), some (.int x6), some (.int (S.1 63 x6.toNatClampNeg)), o8, o9, o10]) (by decide +kernel) (Nat.le_of_ble_eq_true rfl) rfl ?_
  refine fs_aloadn (j := 0) (by decide +kernel) rfl ?_
  refine fe_getR (idx := 41) (t := 1) (f := 2) (fk := 2) (fin := 1) (wp := 252) (x := 1) (by decide +kernel) (by decide +kernel) (by decide +kernel) (by decide +kernel) (by decide +kernel) ?_
  refine fe_getR (idx := 62) (t := 6) (f := 8) (fk := 2) (fin := 1) (wp := 182) (x := 8) (by decide +kernel) (by decide +kernel) (by decide +kernel) (by decide +kernel) (by decide +kernel) ?_
  refine fs_iload (j := 7) (by decide +kernel) rfl ?_
  refine fx_iald (n := (S.1 63 x6.toNatClampNeg).toNatClampNeg) (len := 6) (by decide +kernel) (by decide +kernel) (by decide +kernel) hi1 rfl ?_
  refine fs_istore (j := 8) (L' := [some (.ref 54), some (.int x1), some (.int x2), some (.int x3), some (.int x4), some (.int x5), some (.int x6), some (.int (S.1 63 x6.toNatClampNeg)), some (.int (S.1 8 ((S.1 63 x6.toNatClampNeg).toNatClampNeg))), o9, o10]) (by decide +kernel) (Nat.le_of_ble_eq_true rfl) rfl ?_
  refine fs_aloadn (j := 0) (by decide +kernel) rfl ?_
  refine fe_getR (idx := 32) (t := 1) (f := 6) (fk := 2) (fin := 1) (wp := 256) (x := 64) (by decide +kernel) (by decide +kernel) (by decide +kernel) (by decide +kernel) (by decide +kernel) ?_
  refine fs_iload (j := 7) (by decide +kernel) rfl ?_
  refine fs_iconst (n := 4) (v := 4) (by decide +kernel) (by decide) ?_
  refine fs_imul (by decide +kernel) ?_
  refine fs_iload (j := 6) (by decide +kernel) rfl ?_
  refine fs_iadd (by decide +kernel) ?_
  refine fx_iald (n := (((S.1 63 x6.toNatClampNeg) * 4) + x6).toNatClampNeg) (len := 24) (by decide +kernel) (by decide +kernel) (by decide +kernel) hi2 rfl ?_
  refine fs_istore (j := 9) (L' := [some (.ref 54), some (.int x1), some (.int x2), some (.int x3), some (.int x4), some (.int x5), some (.int x6), some (.int (S.1 63 x6.toNatClampNeg)), some (.int (S.1 8 ((S.1 63 x6.toNatClampNeg).toNatClampNeg))), some (.int (S.1 64 ((((S.1 63 x6.toNatClampNeg) * 4) + x6).toNatClampNeg))), o10]) (by decide +kernel) (Nat.le_of_ble_eq_true rfl) rfl ?_
  refine fs_iload (j := 8) (by decide +kernel) rfl ?_
  refine fs_iloadn (j := 3) (by decide +kernel) rfl ?_
  exact fs_icne (off := 8) (tgt := 85) (by decide +kernel) (by decide) kt kf
theorem b82_80 {d : Nat} {x1 : Int32} {x2 : Int32} {x3 : Int32} {x4 : Int32} {x5 : Int32} {x6 : Int32} {x7 : Int32} {x8 : Int32} {x9 : Int32} {o10 : Option Value} {S : fm_S} {r : Option Value × am_W} (nx : am_Ev d 82 86 [some (.ref 54), some (.int x1), some (.int x2), some (.int x3), some (.int x4), some (.int x5), some (.int x6), some (.int x7), some (.int x8), some (.int x9), o10] [.int x4] (fm_mk S) r) : am_Ev d 82 80 [some (.ref 54), some (.int x1), some (.int x2), some (.int x3), some (.int x4), some (.int x5), some (.int x6), some (.int x7), some (.int x8), some (.int x9), o10] [] (fm_mk S) r := by
  refine fs_iload (j := 4) (by decide +kernel) rfl ?_
  refine fs_goto (off := 4) (tgt := 86) (by decide +kernel) (by decide) ?_
  exact nx
theorem b82_85 {d : Nat} {x1 : Int32} {x2 : Int32} {x3 : Int32} {x4 : Int32} {x5 : Int32} {x6 : Int32} {x7 : Int32} {x8 : Int32} {x9 : Int32} {o10 : Option Value} {S : fm_S} {r : Option Value × am_W} (nx : am_Ev d 82 86 [some (.ref 54), some (.int x1), some (.int x2), some (.int x3), some (.int x4), some (.int x5), some (.int x6), some (.int x7), some (.int x8), some (.int x9), o10] [.int 0] (fm_mk S) r) : am_Ev d 82 85 [some (.ref 54), some (.int x1), some (.int x2), some (.int x3), some (.int x4), some (.int x5), some (.int x6), some (.int x7), some (.int x8), some (.int x9), o10] [] (fm_mk S) r := by
  refine fs_iconst (n := 0) (v := 0) (by decide +kernel) (by decide) ?_
  exact nx
theorem b82_86 {d : Nat} {x1 : Int32} {x2 : Int32} {x3 : Int32} {x4 : Int32} {x5 : Int32} {x6 : Int32} {x7 : Int32} {x8 : Int32} {x9 : Int32} {o10 : Option Value} {sx0 : Int32} {v : Int32} {S1 : fm_S} {S : fm_S} {r : Option Value × am_W} (hc : am_Sp d 64 [.ref 1, .int x1, .int x7, .int x9, .int ((S.1 17 0) + x6), .int sx0] (fm_mk S) (some (.int v)) (fm_mk S1)) (nx : am_Ev (d + 1) 82 115 [some (.ref 54), some (.int x1), some (.int x2), some (.int x3), some (.int x4), some (.int x5), some (.int x6), some (.int x7), some (.int x8), some (.int x9), some (.int sx0)] [.int v] (fm_mk S1) r) : am_Ev (d + 1) 82 86 [some (.ref 54), some (.int x1), some (.int x2), some (.int x3), some (.int x4), some (.int x5), some (.int x6), some (.int x7), some (.int x8), some (.int x9), o10] [.int sx0] (fm_mk S) r := by
  refine fs_istore (j := 10) (L' := [some (.ref 54), some (.int x1), some (.int x2), some (.int x3), some (.int x4), some (.int x5), some (.int x6), some (.int x7), some (.int x8), some (.int x9), some (.int sx0)]) (by decide +kernel) (Nat.le_of_ble_eq_true rfl) rfl ?_
  refine fs_aloadn (j := 0) (by decide +kernel) rfl ?_
  refine fe_getR (idx := 41) (t := 1) (f := 2) (fk := 2) (fin := 1) (wp := 252) (x := 1) (by decide +kernel) (by decide +kernel) (by decide +kernel) (by decide +kernel) (by decide +kernel) ?_
  refine fs_iloadn (j := 1) (by decide +kernel) rfl ?_
  refine fs_iload (j := 7) (by decide +kernel) rfl ?_
  refine fs_iload (j := 9) (by decide +kernel) rfl ?_
  refine fs_aloadn (j := 0) (by decide +kernel) rfl ?_
  refine fe_getR (idx := 41) (t := 1) (f := 2) (fk := 2) (fin := 1) (wp := 252) (x := 1) (by decide +kernel) (by decide +kernel) (by decide +kernel) (by decide +kernel) (by decide +kernel) ?_
  refine fe_getR (idx := 101) (t := 6) (f := 12) (fk := 2) (fin := 1) (wp := 190) (x := 17) (by decide +kernel) (by decide +kernel) (by decide +kernel) (by decide +kernel) (by decide +kernel) ?_
  refine fe_getI (idx := 48) (t := 2) (f := 0) (fk := 0) (fin := 0) (wp := 124) (by decide +kernel) (by decide +kernel) (by decide +kernel) (by decide +kernel) ?_
  refine fs_iload (j := 6) (by decide +kernel) rfl ?_
  refine fs_iadd (by decide +kernel) ?_
  refine fs_iload (j := 10) (by decide +kernel) rfl ?_
  exact fe_callV (idx := 97) (n := 5) (wp := 640) (q := (641, 642)) (as := [.int x1, .int x7, .int x9, .int ((S.1 17 0) + x6), .int sx0]) (rs := []) (by decide +kernel) (by decide +kernel) (by decide +kernel) (by decide +kernel) rfl (Nat.le_of_ble_eq_true rfl) rfl hc nx
theorem b82_115 {d : Nat} {x1 : Int32} {x2 : Int32} {x3 : Int32} {x4 : Int32} {x5 : Int32} {x6 : Int32} {x7 : Int32} {x8 : Int32} {x9 : Int32} {x10 : Int32} {sx0 : Int32} {S : fm_S} {r : Option Value × am_W} (kt : x9 ≤ 0 → am_Ev d 82 127 [some (.ref 54), some (.int x1), some (.int x2), some (.int x3), some (.int x4), some (.int sx0), some (.int x6), some (.int x7), some (.int x8), some (.int x9), some (.int x10)] [] (fm_mk S) r) (kf : ¬ x9 ≤ 0 → am_Ev d 82 122 [some (.ref 54), some (.int x1), some (.int x2), some (.int x3), some (.int x4), some (.int sx0), some (.int x6), some (.int x7), some (.int x8), some (.int x9), some (.int x10)] [] (fm_mk S) r) : am_Ev d 82 115 [some (.ref 54), some (.int x1), some (.int x2), some (.int x3), some (.int x4), some (.int x5), some (.int x6), some (.int x7), some (.int x8), some (.int x9), some (.int x10)] [.int sx0] (fm_mk S) r := by
  refine fs_istore (j := 5) (L' := [some (.ref 54), some (.int x1), some (.int x2), some (.int x3), some (.int x4), some (.int sx0), some (.int x6), some (.int x7), some (.int x8), some (.int x9), some (.int x10)]) (by decide +kernel) (Nat.le_of_ble_eq_true rfl) rfl ?_
  refine fs_iload (j := 9) (by decide +kernel) rfl ?_
  exact fs_ifle (off := 8) (tgt := 127) (by decide +kernel) (by decide) kt kf
theorem b82_122 {d : Nat} {x1 : Int32} {x2 : Int32} {x3 : Int32} {x4 : Int32} {x5 : Int32} {x6 : Int32} {x7 : Int32} {x8 : Int32} {x9 : Int32} {x10 : Int32} {S : fm_S} {r : Option Value × am_W} (nx : am_Ev d 82 128 [some (.ref 54), some (.int x1), some (.int x2), some (.int x3), some (.int x4), some (.int x5), some (.int x6), some (.int x7), some (.int x8), some (.int x9), some (.int x10)] [.int x8] (fm_mk S) r) : am_Ev d 82 122 [some (.ref 54), some (.int x1), some (.int x2), some (.int x3), some (.int x4), some (.int x5), some (.int x6), some (.int x7), some (.int x8), some (.int x9), some (.int x10)] [] (fm_mk S) r := by
  refine fs_iload (j := 8) (by decide +kernel) rfl ?_
  refine fs_goto (off := 4) (tgt := 128) (by decide +kernel) (by decide) ?_
  exact nx
theorem b82_127 {d : Nat} {x1 : Int32} {x2 : Int32} {x3 : Int32} {x4 : Int32} {x5 : Int32} {x6 : Int32} {x7 : Int32} {x8 : Int32} {x9 : Int32} {x10 : Int32} {S : fm_S} {r : Option Value × am_W} (nx : am_Ev d 82 128 [some (.ref 54), some (.int x1), some (.int x2), some (.int x3), some (.int x4), some (.int x5), some (.int x6), some (.int x7), some (.int x8), some (.int x9), some (.int x10)] [.int (-1)] (fm_mk S) r) : am_Ev d 82 127 [some (.ref 54), some (.int x1), some (.int x2), some (.int x3), some (.int x4), some (.int x5), some (.int x6), some (.int x7), some (.int x8), some (.int x9), some (.int x10)] [] (fm_mk S) r := by
  refine fs_iconst (n := -1) (v := (-1)) (by decide +kernel) (by decide) ?_
  exact nx
theorem b82_128 {d : Nat} {x1 : Int32} {x2 : Int32} {x3 : Int32} {x4 : Int32} {x5 : Int32} {x6 : Int32} {x7 : Int32} {x8 : Int32} {x9 : Int32} {x10 : Int32} {sx0 : Int32} {S : fm_S} {r : Option Value × am_W} (kt : x9 ≤ 0 → am_Ev d 82 141 [some (.ref 54), some (.int x1), some (.int x2), some (.int sx0), some (.int x4), some (.int x5), some (.int x6), some (.int x7), some (.int x8), some (.int x9), some (.int x10)] [] (fm_mk S) r) (kf : ¬ x9 ≤ 0 → am_Ev d 82 134 [some (.ref 54), some (.int x1), some (.int x2), some (.int sx0), some (.int x4), some (.int x5), some (.int x6), some (.int x7), some (.int x8), some (.int x9), some (.int x10)] [] (fm_mk S) r) : am_Ev d 82 128 [some (.ref 54), some (.int x1), some (.int x2), some (.int x3), some (.int x4), some (.int x5), some (.int x6), some (.int x7), some (.int x8), some (.int x9), some (.int x10)] [.int sx0] (fm_mk S) r := by
  refine fs_istoren (j := 3) (L' := [some (.ref 54), some (.int x1), some (.int x2), some (.int sx0), some (.int x4), some (.int x5), some (.int x6), some (.int x7), some (.int x8), some (.int x9), some (.int x10)]) (by decide +kernel) (Nat.le_of_ble_eq_true rfl) rfl ?_
  refine fs_iload (j := 9) (by decide +kernel) rfl ?_
  exact fs_ifle (off := 10) (tgt := 141) (by decide +kernel) (by decide) kt kf
theorem b82_134 {d : Nat} {x1 : Int32} {x2 : Int32} {x3 : Int32} {x4 : Int32} {x5 : Int32} {x6 : Int32} {x7 : Int32} {x8 : Int32} {x9 : Int32} {x10 : Int32} {S : fm_S} {r : Option Value × am_W} (nx : am_Ev d 82 142 [some (.ref 54), some (.int x1), some (.int x2), some (.int x3), some (.int x4), some (.int x5), some (.int x6), some (.int x7), some (.int x8), some (.int x9), some (.int x10)] [.int (x10 + 1)] (fm_mk S) r) : am_Ev d 82 134 [some (.ref 54), some (.int x1), some (.int x2), some (.int x3), some (.int x4), some (.int x5), some (.int x6), some (.int x7), some (.int x8), some (.int x9), some (.int x10)] [] (fm_mk S) r := by
  refine fs_iload (j := 10) (by decide +kernel) rfl ?_
  refine fs_iconst (n := 1) (v := 1) (by decide +kernel) (by decide) ?_
  refine fs_iadd (by decide +kernel) ?_
  refine fs_goto (off := 4) (tgt := 142) (by decide +kernel) (by decide) ?_
  exact nx
theorem b82_141 {d : Nat} {x1 : Int32} {x2 : Int32} {x3 : Int32} {x4 : Int32} {x5 : Int32} {x6 : Int32} {x7 : Int32} {x8 : Int32} {x9 : Int32} {x10 : Int32} {S : fm_S} {r : Option Value × am_W} (nx : am_Ev d 82 142 [some (.ref 54), some (.int x1), some (.int x2), some (.int x3), some (.int x4), some (.int x5), some (.int x6), some (.int x7), some (.int x8), some (.int x9), some (.int x10)] [.int 0] (fm_mk S) r) : am_Ev d 82 141 [some (.ref 54), some (.int x1), some (.int x2), some (.int x3), some (.int x4), some (.int x5), some (.int x6), some (.int x7), some (.int x8), some (.int x9), some (.int x10)] [] (fm_mk S) r := by
  refine fs_iconst (n := 0) (v := 0) (by decide +kernel) (by decide) ?_
  exact nx
theorem b82_142 {d : Nat} {x1 : Int32} {x2 : Int32} {x3 : Int32} {x4 : Int32} {x5 : Int32} {x6 : Int32} {x7 : Int32} {x8 : Int32} {x9 : Int32} {x10 : Int32} {sx0 : Int32} {S : fm_S} {r : Option Value × am_W} (nx : am_Ev d 82 33 [some (.ref 54), some (.int x1), some (.int x2), some (.int x3), some (.int sx0), some (.int x5), some (.int (x6 + 1)), some (.int x7), some (.int x8), some (.int x9), some (.int x10)] [] (fm_mk S) r) : am_Ev d 82 142 [some (.ref 54), some (.int x1), some (.int x2), some (.int x3), some (.int x4), some (.int x5), some (.int x6), some (.int x7), some (.int x8), some (.int x9), some (.int x10)] [.int sx0] (fm_mk S) r := by
  refine fs_istore (j := 4) (L' := [some (.ref 54), some (.int x1), some (.int x2), some (.int x3), some (.int sx0), some (.int x5), some (.int x6), some (.int x7), some (.int x8), some (.int x9), some (.int x10)]) (by decide +kernel) (Nat.le_of_ble_eq_true rfl) rfl ?_
  refine fs_iinc (j := 6) (n := 1) (v := 1) (L' := [some (.ref 54), some (.int x1), some (.int x2), some (.int x3), some (.int sx0), some (.int x5), some (.int (x6 + 1)), some (.int x7), some (.int x8), some (.int x9), some (.int x10)]) (by decide +kernel) rfl (Nat.le_of_ble_eq_true rfl) (by decide) rfl ?_
  refine fs_goto (off := -114) (tgt := 33) (by decide +kernel) (by decide) ?_
  exact nx
theorem b82_150 {d : Nat} {x1 : Int32} {x2 : Int32} {x3 : Int32} {x4 : Int32} {x5 : Int32} {x6 : Int32} {o7 : Option Value} {o8 : Option Value} {o9 : Option Value} {o10 : Option Value} {S : fm_S} {r : Option Value × am_W} (kt : x5 < 10 → am_Ev d 82 161 [some (.ref 54), some (.int x1), some (.int x2), some (.int x3), some (.int x4), some (.int x5), some (.int x6), o7, o8, o9, o10] [] (fm_mk S) r) (kf : ¬ x5 < 10 → am_Ev d 82 157 [some (.ref 54), some (.int x1), some (.int x2), some (.int x3), some (.int x4), some (.int x5), some (.int x6), o7, o8, o9, o10] [] (fm_mk S) r) : am_Ev d 82 150 [some (.ref 54), some (.int x1), some (.int x2), some (.int x3), some (.int x4), some (.int x5), some (.int x6), o7, o8, o9, o10] [] (fm_mk S) r := by
  refine fs_iload (j := 5) (by decide +kernel) rfl ?_
  refine fs_bipush (n := 10) (v := 10) (by decide +kernel) (by decide) ?_
  exact fs_iclt (off := 7) (tgt := 161) (by decide +kernel) (by decide) kt kf
theorem b82_157 {d : Nat} {x1 : Int32} {x2 : Int32} {x3 : Int32} {x4 : Int32} {x5 : Int32} {x6 : Int32} {o7 : Option Value} {o8 : Option Value} {o9 : Option Value} {o10 : Option Value} {S : fm_S} {r : Option Value × am_W} (nx : am_Ev d 82 162 [some (.ref 54), some (.int x1), some (.int x2), some (.int x3), some (.int x4), some (.int x5), some (.int x6), o7, o8, o9, o10] [.int 1] (fm_mk S) r) : am_Ev d 82 157 [some (.ref 54), some (.int x1), some (.int x2), some (.int x3), some (.int x4), some (.int x5), some (.int x6), o7, o8, o9, o10] [] (fm_mk S) r := by
  refine fs_iconst (n := 1) (v := 1) (by decide +kernel) (by decide) ?_
  refine fs_goto (off := 4) (tgt := 162) (by decide +kernel) (by decide) ?_
  exact nx
theorem b82_161 {d : Nat} {x1 : Int32} {x2 : Int32} {x3 : Int32} {x4 : Int32} {x5 : Int32} {x6 : Int32} {o7 : Option Value} {o8 : Option Value} {o9 : Option Value} {o10 : Option Value} {S : fm_S} {r : Option Value × am_W} (nx : am_Ev d 82 162 [some (.ref 54), some (.int x1), some (.int x2), some (.int x3), some (.int x4), some (.int x5), some (.int x6), o7, o8, o9, o10] [.int 0] (fm_mk S) r) : am_Ev d 82 161 [some (.ref 54), some (.int x1), some (.int x2), some (.int x3), some (.int x4), some (.int x5), some (.int x6), o7, o8, o9, o10] [] (fm_mk S) r := by
  refine fs_iconst (n := 0) (v := 0) (by decide +kernel) (by decide) ?_
  exact nx
theorem b82_162 {d : Nat} {x1 : Int32} {x2 : Int32} {x3 : Int32} {x4 : Int32} {x5 : Int32} {x6 : Int32} {o7 : Option Value} {o8 : Option Value} {o9 : Option Value} {o10 : Option Value} {sx0 : Int32} {S : fm_S}  (hz : sx0 = 0 ∨ sx0 = 1) : am_Ev d 82 162 [some (.ref 54), some (.int x1), some (.int x2), some (.int x3), some (.int x4), some (.int x5), some (.int x6), o7, o8, o9, o10] [.int sx0] (fm_mk S) (some (.int sx0), fm_mk S) := by
  exact fe_retZ (by decide +kernel) (by decide +kernel) hz
-- KitchenSiege$Cook.neverOpened()I
theorem b84_0 {d : Nat} {o1 : Option Value} {o2 : Option Value} {v : Int32} {S1 : fm_S} {S : fm_S} {r : Option Value × am_W} (hc : am_Sp d 85 [.ref 1] (fm_mk S) (some (.int v)) (fm_mk S1)) (nx : am_Ev (d + 1) 84 7 [some (.ref 54), o1, o2] [.int v] (fm_mk S1) r) : am_Ev (d + 1) 84 0 [some (.ref 54), o1, o2] [] (fm_mk S) r := by
  refine fs_aloadn (j := 0) (by decide +kernel) rfl ?_
  refine fe_getR (idx := 41) (t := 1) (f := 2) (fk := 2) (fin := 1) (wp := 252) (x := 1) (by decide +kernel) (by decide +kernel) (by decide +kernel) (by decide +kernel) (by decide +kernel) ?_
  exact fe_callV (idx := 139) (n := 0) (wp := 726) (q := (727, 728)) (as := []) (rs := []) (by decide +kernel) (by decide +kernel) (by decide +kernel) (by decide +kernel) rfl (Nat.le_of_ble_eq_true rfl) rfl hc nx
theorem b84_7 {d : Nat} {o1 : Option Value} {o2 : Option Value} {sx0 : Int32} {S : fm_S} {r : Option Value × am_W} (nx : am_Ev d 84 10 [some (.ref 54), some (.int sx0), some (.int 0)] [] (fm_mk S) r) : am_Ev d 84 7 [some (.ref 54), o1, o2] [.int sx0] (fm_mk S) r := by
  refine fs_istoren (j := 1) (L' := [some (.ref 54), some (.int sx0), o2]) (by decide +kernel) (Nat.le_of_ble_eq_true rfl) rfl ?_
  refine fs_iconst (n := 0) (v := 0) (by decide +kernel) (by decide) ?_
  refine fs_istoren (j := 2) (L' := [some (.ref 54), some (.int sx0), some (.int 0)]) (by decide +kernel) (Nat.le_of_ble_eq_true rfl) rfl ?_
  exact nx
theorem b84_10 {d : Nat} {x1 : Int32} {x2 : Int32} {S : fm_S} {r : Option Value × am_W} (kt : (S.1 1 7) ≤ x2 → am_Ev d 84 39 [some (.ref 54), some (.int x1), some (.int x2)] [] (fm_mk S) r) (kf : ¬ (S.1 1 7) ≤ x2 → am_Ev d 84 21 [some (.ref 54), some (.int x1), some (.int x2)] [] (fm_mk S) r) : am_Ev d 84 10 [some (.ref 54), some (.int x1), some (.int x2)] [] (fm_mk S) r := by
  refine fs_iloadn (j := 2) (by decide +kernel) rfl ?_
  refine fs_aloadn (j := 0) (by decide +kernel) rfl ?_
  refine fe_getR (idx := 41) (t := 1) (f := 2) (fk := 2) (fin := 1) (wp := 252) (x := 1) (by decide +kernel) (by decide +kernel) (by decide +kernel) (by decide +kernel) (by decide +kernel) ?_
  refine fe_getI (idx := 111) (t := 6) (f := 7) (fk := 0) (fin := 0) (wp := 180) (by decide +kernel) (by decide +kernel) (by decide +kernel) (by decide +kernel) ?_
  exact fs_icge (off := 21) (tgt := 39) (by decide +kernel) (by decide) kt kf
theorem b84_21 {d : Nat} {x1 : Int32} {x2 : Int32} {v : Int32} {S1 : fm_S} {S : fm_S} {r : Option Value × am_W} (hc : am_Sp d 86 [.ref 54, .int x2, .int 28] (fm_mk S) (some (.int v)) (fm_mk S1)) (nx : am_Ev (d + 1) 84 29 [some (.ref 54), some (.int x1), some (.int x2)] [.int v, .int x1] (fm_mk S1) r) : am_Ev (d + 1) 84 21 [some (.ref 54), some (.int x1), some (.int x2)] [] (fm_mk S) r := by
  refine fs_iloadn (j := 1) (by decide +kernel) rfl ?_
  refine fs_aloadn (j := 0) (by decide +kernel) rfl ?_
  refine fs_iloadn (j := 2) (by decide +kernel) rfl ?_
  refine fs_bipush (n := 28) (v := 28) (by decide +kernel) (by decide) ?_
  exact fe_callV (idx := 143) (n := 2) (wp := 731) (q := (733, 25)) (as := [.int x2, .int 28]) (rs := [.int x1]) (by decide +kernel) (by decide +kernel) (by decide +kernel) (by decide +kernel) rfl (Nat.le_of_ble_eq_true rfl) rfl hc nx
theorem b84_29 {d : Nat} {x1 : Int32} {x2 : Int32} {sx0 : Int32} {sx1 : Int32} {S : fm_S} {r : Option Value × am_W} (nx : am_Ev d 84 10 [some (.ref 54), some (.int (sx0 &&& (sx1 ^^^ (-1)))), some (.int (x2 + 1))] [] (fm_mk S) r) : am_Ev d 84 29 [some (.ref 54), some (.int x1), some (.int x2)] [.int sx1, .int sx0] (fm_mk S) r := by
  refine fs_iconst (n := -1) (v := (-1)) (by decide +kernel) (by decide) ?_
  refine fs_ixor (by decide +kernel) ?_
  refine fs_iand (by decide +kernel) ?_
  refine fs_istoren (j := 1) (L' := [some (.ref 54), some (.int (sx0 &&& (sx1 ^^^ (-1)))), some (.int x2)]) (by decide +kernel) (Nat.le_of_ble_eq_true rfl) rfl ?_
  refine fs_iinc (j := 2) (n := 1) (v := 1) (L' := [some (.ref 54), some (.int (sx0 &&& (sx1 ^^^ (-1)))), some (.int (x2 + 1))]) (by decide +kernel) rfl (Nat.le_of_ble_eq_true rfl) (by decide) rfl ?_
  refine fs_goto (off := -26) (tgt := 10) (by decide +kernel) (by decide) ?_
  exact nx
theorem b84_39 {d : Nat} {x1 : Int32} {x2 : Int32} {S : fm_S}  : am_Ev d 84 39 [some (.ref 54), some (.int x1), some (.int x2)] [] (fm_mk S) (some (.int x1), fm_mk S) := by
  refine fs_iloadn (j := 1) (by decide +kernel) rfl ?_
  exact fe_retI (by decide +kernel) (by decide +kernel)
-- KitchenSiege$Cook.openedAlone(II)I
theorem b86_0 {d : Nat} {x1 : Int32} {x2 : Int32} {o3 : Option Value} {o4 : Option Value} {o5 : Option Value} {S : fm_S} {r : Option Value × am_W} (nx : am_Ev d 86 5 [some (.ref 54), some (.int x1), some (.int x2), some (.int 0), some (.int 0), o5] [] (fm_mk S) r) : am_Ev d 86 0 [some (.ref 54), some (.int x1), some (.int x2), o3, o4, o5] [] (fm_mk S) r := by
  refine fs_iconst (n := 0) (v := 0) (by decide +kernel) (by decide) ?_
  refine fs_istoren (j := 3) (L' := [some (.ref 54), some (.int x1), some (.int x2), some (.int 0), o4, o5]) (by decide +kernel) (Nat.le_of_ble_eq_true rfl) rfl ?_
  refine fs_iconst (n := 0) (v := 0) (by decide +kernel) (by decide) ?_
  refine fs_istore (j := 4) (L' := [some (.ref 54), some (.int x1), some (.int x2), some (.int 0), some (.int 0), o5]) (by decide +kernel) (Nat.le_of_ble_eq_true rfl) rfl ?_
  exact nx
theorem b86_5 {d : Nat} {x1 : Int32} {x2 : Int32} {x3 : Int32} {x4 : Int32} {o5 : Option Value} {S : fm_S} {r : Option Value × am_W} (kt : 4 ≤ x4 → am_Ev d 86 86 [some (.ref 54), some (.int x1), some (.int x2), some (.int x3), some (.int x4), o5] [] (fm_mk S) r) (kf : ¬ 4 ≤ x4 → am_Ev d 86 11 [some (.ref 54), some (.int x1), some (.int x2), some (.int x3), some (.int x4), o5] [] (fm_mk S) r) : am_Ev d 86 5 [some (.ref 54), some (.int x1), some (.int x2), some (.int x3), some (.int x4), o5] [] (fm_mk S) r := by
  refine fs_iload (j := 4) (by decide +kernel) rfl ?_
  refine fs_iconst (n := 4) (v := 4) (by decide +kernel) (by decide) ?_
  exact fs_icge (off := 78) (tgt := 86) (by decide +kernel) (by decide) kt kf
theorem b86_11 {d : Nat} {x1 : Int32} {x2 : Int32} {x3 : Int32} {x4 : Int32} {o5 : Option Value} {v : Int32} {S1 : fm_S} {S : fm_S} {r : Option Value × am_W} (hc : am_Sp d 54 [.ref 1, .int ((S.1 17 0) + x4)] (fm_mk S) (some (.int v)) (fm_mk S1)) (nx : am_Ev (d + 1) 86 40 [some (.ref 54), some (.int x1), some (.int x2), some (.int x3), some (.int x4), o5] [.int v, .int x1, .ref 1, .ref 56] (fm_mk S1) r) : am_Ev (d + 1) 86 11 [some (.ref 54), some (.int x1), some (.int x2), some (.int x3), some (.int x4), o5] [] (fm_mk S) r := by
  refine fs_aloadn (j := 0) (by decide +kernel) rfl ?_
  refine fe_getR (idx := 18) (t := 1) (f := 3) (fk := 2) (fin := 1) (wp := 253) (x := 56) (by decide +kernel) (by decide +kernel) (by decide +kernel) (by decide +kernel) (by decide +kernel) ?_
  refine fs_aloadn (j := 0) (by decide +kernel) rfl ?_
  refine fe_getR (idx := 41) (t := 1) (f := 2) (fk := 2) (fin := 1) (wp := 252) (x := 1) (by decide +kernel) (by decide +kernel) (by decide +kernel) (by decide +kernel) (by decide +kernel) ?_
  refine fs_iloadn (j := 1) (by decide +kernel) rfl ?_
  refine fs_aloadn (j := 0) (by decide +kernel) rfl ?_
  refine fe_getR (idx := 41) (t := 1) (f := 2) (fk := 2) (fin := 1) (wp := 252) (x := 1) (by decide +kernel) (by decide +kernel) (by decide +kernel) (by decide +kernel) (by decide +kernel) ?_
  refine fs_aloadn (j := 0) (by decide +kernel) rfl ?_
  refine fe_getR (idx := 41) (t := 1) (f := 2) (fk := 2) (fin := 1) (wp := 252) (x := 1) (by decide +kernel) (by decide +kernel) (by decide +kernel) (by decide +kernel) (by decide +kernel) ?_
  refine fe_getR (idx := 101) (t := 6) (f := 12) (fk := 2) (fin := 1) (wp := 190) (x := 17) (by decide +kernel) (by decide +kernel) (by decide +kernel) (by decide +kernel) (by decide +kernel) ?_
  refine fe_getI (idx := 48) (t := 2) (f := 0) (fk := 0) (fin := 0) (wp := 124) (by decide +kernel) (by decide +kernel) (by decide +kernel) (by decide +kernel) ?_
  refine fs_iload (j := 4) (by decide +kernel) rfl ?_
  refine fs_iadd (by decide +kernel) ?_
  exact fe_callV (idx := 52) (n := 1) (wp := 599) (q := (600, 601)) (as := [.int ((S.1 17 0) + x4)]) (rs := [.int x1, .ref 1, .ref 56]) (by decide +kernel) (by decide +kernel) (by decide +kernel) (by decide +kernel) rfl (Nat.le_of_ble_eq_true rfl) rfl hc nx
theorem b86_40 {d : Nat} {x1 : Int32} {x2 : Int32} {x3 : Int32} {x4 : Int32} {o5 : Option Value} {sx2 : Int32} {sx3 : Int32} {S1 : fm_S} {S : fm_S} {r : Option Value × am_W} (hc : am_Sp d 56 [.ref 56, .ref 1, .int sx2, .int sx3] (fm_mk S) (none) (fm_mk S1)) (nx : am_Ev (d + 1) 86 43 [some (.ref 54), some (.int x1), some (.int x2), some (.int x3), some (.int x4), o5] [] (fm_mk S1) r) : am_Ev (d + 1) 86 40 [some (.ref 54), some (.int x1), some (.int x2), some (.int x3), some (.int x4), o5] [.int sx3, .int sx2, .ref 1, .ref 56] (fm_mk S) r := by
  exact fe_callV (idx := 58) (n := 3) (wp := 606) (q := (607, 608)) (as := [.ref 1, .int sx2, .int sx3]) (rs := []) (by decide +kernel) (by decide +kernel) (by decide +kernel) (by decide +kernel) rfl (Nat.le_of_ble_eq_true rfl) rfl hc nx
theorem b86_43 {d : Nat} {x1 : Int32} {x2 : Int32} {x3 : Int32} {x4 : Int32} {o5 : Option Value} {S : fm_S} {r : Option Value × am_W} (nx : am_Ev d 86 47 [some (.ref 54), some (.int x1), some (.int x2), some (.int x3), some (.int x4), some (.int x4)] [] (fm_mk S) r) : am_Ev d 86 43 [some (.ref 54), some (.int x1), some (.int x2), some (.int x3), some (.int x4), o5] [] (fm_mk S) r := by
  refine fs_iload (j := 4) (by decide +kernel) rfl ?_
  refine fs_istore (j := 5) (L' := [some (.ref 54), some (.int x1), some (.int x2), some (.int x3), some (.int x4), some (.int x4)]) (by decide +kernel) (Nat.le_of_ble_eq_true rfl) rfl ?_
  exact nx
theorem b86_47 {d : Nat} {x1 : Int32} {x2 : Int32} {x3 : Int32} {x4 : Int32} {x5 : Int32} {S : fm_S} {r : Option Value × am_W} (kt : x2 ≤ x5 → am_Ev d 86 80 [some (.ref 54), some (.int x1), some (.int x2), some (.int x3), some (.int x4), some (.int x5)] [] (fm_mk S) r) (kf : ¬ x2 ≤ x5 → am_Ev d 86 53 [some (.ref 54), some (.int x1), some (.int x2), some (.int x3), some (.int x4), some (.int x5)] [] (fm_mk S) r) : am_Ev d 86 47 [some (.ref 54), some (.int x1), some (.int x2), some (.int x3), some (.int x4), some (.int x5)] [] (fm_mk S) r := by
  refine fs_iload (j := 5) (by decide +kernel) rfl ?_
  refine fs_iloadn (j := 2) (by decide +kernel) rfl ?_
  exact fs_icge (off := 30) (tgt := 80) (by decide +kernel) (by decide) kt kf
theorem b86_53 {d : Nat} {x1 : Int32} {x2 : Int32} {x3 : Int32} {x4 : Int32} {x5 : Int32} {v : Int32} {S1 : fm_S} {S : fm_S} {r : Option Value × am_W} (hc : am_Sp d 87 [.ref 54, .int x1, .int ((S.1 17 0) + x5)] (fm_mk S) (some (.int v)) (fm_mk S1)) (nx : am_Ev (d + 1) 86 72 [some (.ref 54), some (.int x1), some (.int x2), some (.int x3), some (.int x4), some (.int x5)] [.int v, .int x3] (fm_mk S1) r) : am_Ev (d + 1) 86 53 [some (.ref 54), some (.int x1), some (.int x2), some (.int x3), some (.int x4), some (.int x5)] [] (fm_mk S) r := by
  refine fs_iloadn (j := 3) (by decide +kernel) rfl ?_
  refine fs_aloadn (j := 0) (by decide +kernel) rfl ?_
  refine fs_iloadn (j := 1) (by decide +kernel) rfl ?_
  refine fs_aloadn (j := 0) (by decide +kernel) rfl ?_
  refine fe_getR (idx := 41) (t := 1) (f := 2) (fk := 2) (fin := 1) (wp := 252) (x := 1) (by decide +kernel) (by decide +kernel) (by decide +kernel) (by decide +kernel) (by decide +kernel) ?_
  refine fe_getR (idx := 101) (t := 6) (f := 12) (fk := 2) (fin := 1) (wp := 190) (x := 17) (by decide +kernel) (by decide +kernel) (by decide +kernel) (by decide +kernel) (by decide +kernel) ?_
  refine fe_getI (idx := 48) (t := 2) (f := 0) (fk := 0) (fin := 0) (wp := 124) (by decide +kernel) (by decide +kernel) (by decide +kernel) (by decide +kernel) ?_
  refine fs_iload (j := 5) (by decide +kernel) rfl ?_
  refine fs_iadd (by decide +kernel) ?_
  exact fe_callV (idx := 146) (n := 2) (wp := 735) (q := (737, 26)) (as := [.int x1, .int ((S.1 17 0) + x5)]) (rs := [.int x3]) (by decide +kernel) (by decide +kernel) (by decide +kernel) (by decide +kernel) rfl (Nat.le_of_ble_eq_true rfl) rfl hc nx
theorem b86_72 {d : Nat} {x1 : Int32} {x2 : Int32} {x3 : Int32} {x4 : Int32} {x5 : Int32} {sx0 : Int32} {sx1 : Int32} {S : fm_S} {r : Option Value × am_W} (nx : am_Ev d 86 47 [some (.ref 54), some (.int x1), some (.int x2), some (.int (sx0 ||| sx1)), some (.int x4), some (.int (x5 + 4))] [] (fm_mk S) r) : am_Ev d 86 72 [some (.ref 54), some (.int x1), some (.int x2), some (.int x3), some (.int x4), some (.int x5)] [.int sx1, .int sx0] (fm_mk S) r := by
  refine fs_ior (by decide +kernel) ?_
  refine fs_istoren (j := 3) (L' := [some (.ref 54), some (.int x1), some (.int x2), some (.int (sx0 ||| sx1)), some (.int x4), some (.int x5)]) (by decide +kernel) (Nat.le_of_ble_eq_true rfl) rfl ?_
  refine fs_iinc (j := 5) (n := 4) (v := 4) (L' := [some (.ref 54), some (.int x1), some (.int x2), some (.int (sx0 ||| sx1)), some (.int x4), some (.int (x5 + 4))]) (by decide +kernel) rfl (Nat.le_of_ble_eq_true rfl) (by decide) rfl ?_
  refine fs_goto (off := -30) (tgt := 47) (by decide +kernel) (by decide) ?_
  exact nx
theorem b86_80 {d : Nat} {x1 : Int32} {x2 : Int32} {x3 : Int32} {x4 : Int32} {x5 : Int32} {S : fm_S} {r : Option Value × am_W} (nx : am_Ev d 86 5 [some (.ref 54), some (.int x1), some (.int x2), some (.int x3), some (.int (x4 + 1)), some (.int x5)] [] (fm_mk S) r) : am_Ev d 86 80 [some (.ref 54), some (.int x1), some (.int x2), some (.int x3), some (.int x4), some (.int x5)] [] (fm_mk S) r := by
  refine fs_iinc (j := 4) (n := 1) (v := 1) (L' := [some (.ref 54), some (.int x1), some (.int x2), some (.int x3), some (.int (x4 + 1)), some (.int x5)]) (by decide +kernel) rfl (Nat.le_of_ble_eq_true rfl) (by decide) rfl ?_
  refine fs_goto (off := -78) (tgt := 5) (by decide +kernel) (by decide) ?_
  exact nx
theorem b86_86 {d : Nat} {x1 : Int32} {x2 : Int32} {x3 : Int32} {x4 : Int32} {o5 : Option Value} {S : fm_S}  : am_Ev d 86 86 [some (.ref 54), some (.int x1), some (.int x2), some (.int x3), some (.int x4), o5] [] (fm_mk S) (some (.int x3), fm_mk S) := by
  refine fs_iloadn (j := 3) (by decide +kernel) rfl ?_
  exact fe_retI (by decide +kernel) (by decide +kernel)
-- KitchenSiege$Cook.openedAloneOn(II)I
theorem b87_0 {d : Nat} {x1 : Int32} {x2 : Int32} {o3 : Option Value} {o4 : Option Value} {S : fm_S} {r : Option Value × am_W} (nx : am_Ev d 87 5 [some (.ref 54), some (.int x1), some (.int x2), some (.int 0), some (.int 0)] [] (fm_mk S) r) : am_Ev d 87 0 [some (.ref 54), some (.int x1), some (.int x2), o3, o4] [] (fm_mk S) r := by
  refine fs_iconst (n := 0) (v := 0) (by decide +kernel) (by decide) ?_
  refine fs_istoren (j := 3) (L' := [some (.ref 54), some (.int x1), some (.int x2), some (.int 0), o4]) (by decide +kernel) (Nat.le_of_ble_eq_true rfl) rfl ?_
  refine fs_iconst (n := 0) (v := 0) (by decide +kernel) (by decide) ?_
  refine fs_istore (j := 4) (L' := [some (.ref 54), some (.int x1), some (.int x2), some (.int 0), some (.int 0)]) (by decide +kernel) (Nat.le_of_ble_eq_true rfl) rfl ?_
  exact nx
theorem b87_5 {d : Nat} {x1 : Int32} {x2 : Int32} {x3 : Int32} {x4 : Int32} {S : fm_S} {r : Option Value × am_W} (kt : (S.1 1 0) ≤ x4 → am_Ev d 87 57 [some (.ref 54), some (.int x1), some (.int x2), some (.int x3), some (.int x4)] [] (fm_mk S) r) (kf : ¬ (S.1 1 0) ≤ x4 → am_Ev d 87 17 [some (.ref 54), some (.int x1), some (.int x2), some (.int x3), some (.int x4)] [] (fm_mk S) r) : am_Ev d 87 5 [some (.ref 54), some (.int x1), some (.int x2), some (.int x3), some (.int x4)] [] (fm_mk S) r := by
  refine fs_iload (j := 4) (by decide +kernel) rfl ?_
  refine fs_aloadn (j := 0) (by decide +kernel) rfl ?_
  refine fe_getR (idx := 41) (t := 1) (f := 2) (fk := 2) (fin := 1) (wp := 252) (x := 1) (by decide +kernel) (by decide +kernel) (by decide +kernel) (by decide +kernel) (by decide +kernel) ?_
  refine fe_getI (idx := 69) (t := 6) (f := 0) (fk := 0) (fin := 0) (wp := 158) (by decide +kernel) (by decide +kernel) (by decide +kernel) (by decide +kernel) ?_
  exact fs_icge (off := 43) (tgt := 57) (by decide +kernel) (by decide) kt kf
theorem b87_17 {d : Nat} {x1 : Int32} {x2 : Int32} {x3 : Int32} {x4 : Int32} {v : Int32} {S1 : fm_S} {S : fm_S} {r : Option Value × am_W} (hi0 : vp_in x4 8) (hc : am_Sp d 64 [.ref 1, .int x4, .int x1, .int (S.1 57 x4.toNatClampNeg), .int x2, .int 0] (fm_mk S) (some (.int v)) (fm_mk S1)) (nx : am_Ev (d + 1) 87 39 [some (.ref 54), some (.int x1), some (.int x2), some (.int x3), some (.int x4)] [.int v] (fm_mk S1) r) : am_Ev (d + 1) 87 17 [some (.ref 54), some (.int x1), some (.int x2), some (.int x3), some (.int x4)] [] (fm_mk S) r := by
  refine fs_aloadn (j := 0) (by decide +kernel) rfl ?_
  refine fe_getR (idx := 41) (t := 1) (f := 2) (fk := 2) (fin := 1) (wp := 252) (x := 1) (by decide +kernel) (by decide +kernel) (by decide +kernel) (by decide +kernel) (by decide +kernel) ?_
  refine fs_iload (j := 4) (by decide +kernel) rfl ?_
  refine fs_iloadn (j := 1) (by decide +kernel) rfl ?_
  refine fs_aloadn (j := 0) (by decide +kernel) rfl ?_
  refine fe_getR (idx := 18) (t := 1) (f := 3) (fk := 2) (fin := 1) (wp := 253) (x := 56) (by decide +kernel) (by decide +kernel) (by decide +kernel) (by decide +kernel) (by decide +kernel) ?_
  refine fe_getR (idx := 79) (t := 0) (f := 0) (fk := 2) (fin := 1) (wp := 239) (x := 57) (by decide +kernel) (by decide +kernel) (by decide +kernel) (by decide +kernel) (by decide +kernel) ?_
  refine fs_iload (j := 4) (by decide +kernel) rfl ?_
  refine fx_iald (n := x4.toNatClampNeg) (len := 8) (by decide +kernel) (by decide +kernel) (by decide +kernel) hi0 rfl ?_
  refine fs_iloadn (j := 2) (by decide +kernel) rfl ?_
  refine fs_iconst (n := 0) (v := 0) (by decide +kernel) (by decide) ?_
  exact fe_callV (idx := 97) (n := 5) (wp := 640) (q := (641, 642)) (as := [.int x4, .int x1, .int (S.1 57 x4.toNatClampNeg), .int x2, .int 0]) (rs := []) (by decide +kernel) (by decide +kernel) (by decide +kernel) (by decide +kernel) rfl (Nat.le_of_ble_eq_true rfl) rfl hc nx
theorem b87_39 {d : Nat} {x1 : Int32} {x2 : Int32} {x3 : Int32} {x4 : Int32} {sx0 : Int32} {S : fm_S} {r : Option Value × am_W} (kt : sx0 < 10 → am_Ev d 87 51 [some (.ref 54), some (.int x1), some (.int x2), some (.int x3), some (.int x4)] [] (fm_mk S) r) (kf : ¬ sx0 < 10 → am_Ev d 87 44 [some (.ref 54), some (.int x1), some (.int x2), some (.int x3), some (.int x4)] [] (fm_mk S) r) : am_Ev d 87 39 [some (.ref 54), some (.int x1), some (.int x2), some (.int x3), some (.int x4)] [.int sx0] (fm_mk S) r := by
  refine fs_bipush (n := 10) (v := 10) (by decide +kernel) (by decide) ?_
  exact fs_iclt (off := 10) (tgt := 51) (by decide +kernel) (by decide) kt kf
theorem b87_44 {d : Nat} {x1 : Int32} {x2 : Int32} {x3 : Int32} {x4 : Int32} {S : fm_S} {r : Option Value × am_W} (nx : am_Ev d 87 51 [some (.ref 54), some (.int x1), some (.int x2), some (.int (x3 ||| (1 <<< (x4 &&& 31)))), some (.int x4)] [] (fm_mk S) r) : am_Ev d 87 44 [some (.ref 54), some (.int x1), some (.int x2), some (.int x3), some (.int x4)] [] (fm_mk S) r := by
  refine fs_iloadn (j := 3) (by decide +kernel) rfl ?_
  refine fs_iconst (n := 1) (v := 1) (by decide +kernel) (by decide) ?_
  refine fs_iload (j := 4) (by decide +kernel) rfl ?_
  refine fs_ishl (by decide +kernel) ?_
  refine fs_ior (by decide +kernel) ?_
  refine fs_istoren (j := 3) (L' := [some (.ref 54), some (.int x1), some (.int x2), some (.int (x3 ||| (1 <<< (x4 &&& 31)))), some (.int x4)]) (by decide +kernel) (Nat.le_of_ble_eq_true rfl) rfl ?_
  exact nx
theorem b87_51 {d : Nat} {x1 : Int32} {x2 : Int32} {x3 : Int32} {x4 : Int32} {S : fm_S} {r : Option Value × am_W} (nx : am_Ev d 87 5 [some (.ref 54), some (.int x1), some (.int x2), some (.int x3), some (.int (x4 + 1))] [] (fm_mk S) r) : am_Ev d 87 51 [some (.ref 54), some (.int x1), some (.int x2), some (.int x3), some (.int x4)] [] (fm_mk S) r := by
  refine fs_iinc (j := 4) (n := 1) (v := 1) (L' := [some (.ref 54), some (.int x1), some (.int x2), some (.int x3), some (.int (x4 + 1))]) (by decide +kernel) rfl (Nat.le_of_ble_eq_true rfl) (by decide) rfl ?_
  refine fs_goto (off := -49) (tgt := 5) (by decide +kernel) (by decide) ?_
  exact nx
theorem b87_57 {d : Nat} {x1 : Int32} {x2 : Int32} {x3 : Int32} {x4 : Int32} {S : fm_S}  : am_Ev d 87 57 [some (.ref 54), some (.int x1), some (.int x2), some (.int x3), some (.int x4)] [] (fm_mk S) (some (.int x3), fm_mk S) := by
  refine fs_iloadn (j := 3) (by decide +kernel) rfl ?_
  exact fe_retI (by decide +kernel) (by decide +kernel)
-- KitchenSiege$Cook.leastSet()I
theorem b89_0 {d : Nat} {o1 : Option Value} {o2 : Option Value} {o3 : Option Value} {o4 : Option Value} {o5 : Option Value} {o6 : Option Value} {v : Int32} {S1 : fm_S} {S : fm_S} {r : Option Value × am_W} (hc : am_Sp d 85 [.ref 1] (fm_mk S) (some (.int v)) (fm_mk S1)) (nx : am_Ev (d + 1) 89 7 [some (.ref 54), o1, o2, o3, o4, o5, o6] [.int v] (fm_mk S1) r) : am_Ev (d + 1) 89 0 [some (.ref 54), o1, o2, o3, o4, o5, o6] [] (fm_mk S) r := by
  refine fs_aloadn (j := 0) (by decide +kernel) rfl ?_
  refine fe_getR (idx := 41) (t := 1) (f := 2) (fk := 2) (fin := 1) (wp := 252) (x := 1) (by decide +kernel) (by decide +kernel) (by decide +kernel) (by decide +kernel) (by decide +kernel) ?_
  exact fe_callV (idx := 139) (n := 0) (wp := 726) (q := (727, 728)) (as := []) (rs := []) (by decide +kernel) (by decide +kernel) (by decide +kernel) (by decide +kernel) rfl (Nat.le_of_ble_eq_true rfl) rfl hc nx
theorem b89_7 {d : Nat} {o1 : Option Value} {o2 : Option Value} {o3 : Option Value} {o4 : Option Value} {o5 : Option Value} {o6 : Option Value} {sx0 : Int32} {S : fm_S} {r : Option Value × am_W} (nx : am_Ev d 89 10 [some (.ref 54), some (.int sx0), some (.int 0), o3, o4, o5, o6] [] (fm_mk S) r) : am_Ev d 89 7 [some (.ref 54), o1, o2, o3, o4, o5, o6] [.int sx0] (fm_mk S) r := by
  refine fs_istoren (j := 1) (L' := [some (.ref 54), some (.int sx0), o2, o3, o4, o5, o6]) (by decide +kernel) (Nat.le_of_ble_eq_true rfl) rfl ?_
  refine fs_iconst (n := 0) (v := 0) (by decide +kernel) (by decide) ?_
  refine fs_istoren (j := 2) (L' := [some (.ref 54), some (.int sx0), some (.int 0), o3, o4, o5, o6]) (by decide +kernel) (Nat.le_of_ble_eq_true rfl) rfl ?_
  exact nx
theorem b89_10 {d : Nat} {x1 : Int32} {x2 : Int32} {o3 : Option Value} {o4 : Option Value} {o5 : Option Value} {o6 : Option Value} {S : fm_S} {r : Option Value × am_W} (kt : (S.1 1 7) ≤ x2 → am_Ev d 89 39 [some (.ref 54), some (.int x1), some (.int x2), o3, o4, o5, o6] [] (fm_mk S) r) (kf : ¬ (S.1 1 7) ≤ x2 → am_Ev d 89 21 [some (.ref 54), some (.int x1), some (.int x2), o3, o4, o5, o6] [] (fm_mk S) r) : am_Ev d 89 10 [some (.ref 54), some (.int x1), some (.int x2), o3, o4, o5, o6] [] (fm_mk S) r := by
  refine fs_iloadn (j := 2) (by decide +kernel) rfl ?_
  refine fs_aloadn (j := 0) (by decide +kernel) rfl ?_
  refine fe_getR (idx := 41) (t := 1) (f := 2) (fk := 2) (fin := 1) (wp := 252) (x := 1) (by decide +kernel) (by decide +kernel) (by decide +kernel) (by decide +kernel) (by decide +kernel) ?_
  refine fe_getI (idx := 111) (t := 6) (f := 7) (fk := 0) (fin := 0) (wp := 180) (by decide +kernel) (by decide +kernel) (by decide +kernel) (by decide +kernel) ?_
  exact fs_icge (off := 21) (tgt := 39) (by decide +kernel) (by decide) kt kf
theorem b89_21 {d : Nat} {x1 : Int32} {x2 : Int32} {o3 : Option Value} {o4 : Option Value} {o5 : Option Value} {o6 : Option Value} {v : Int32} {S1 : fm_S} {S : fm_S} {r : Option Value × am_W} (hc : am_Sp d 86 [.ref 54, .int x2, .int 4] (fm_mk S) (some (.int v)) (fm_mk S1)) (nx : am_Ev (d + 1) 89 32 [some (.ref 54), some (.int x1), some (.int x2), o3, o4, o5, o6] [.int v, .int x2, .ref 65] (fm_mk S1) r) : am_Ev (d + 1) 89 21 [some (.ref 54), some (.int x1), some (.int x2), o3, o4, o5, o6] [] (fm_mk S) r := by
  refine fs_aloadn (j := 0) (by decide +kernel) rfl ?_
  refine fe_getR (idx := 35) (t := 1) (f := 7) (fk := 2) (fin := 1) (wp := 257) (x := 65) (by decide +kernel) (by decide +kernel) (by decide +kernel) (by decide +kernel) (by decide +kernel) ?_
  refine fs_iloadn (j := 2) (by decide +kernel) rfl ?_
  refine fs_aloadn (j := 0) (by decide +kernel) rfl ?_
  refine fs_iloadn (j := 2) (by decide +kernel) rfl ?_
  refine fs_iconst (n := 4) (v := 4) (by decide +kernel) (by decide) ?_
  exact fe_callV (idx := 143) (n := 2) (wp := 731) (q := (733, 25)) (as := [.int x2, .int 4]) (rs := [.int x2, .ref 65]) (by decide +kernel) (by decide +kernel) (by decide +kernel) (by decide +kernel) rfl (Nat.le_of_ble_eq_true rfl) rfl hc nx
theorem b89_32 {d : Nat} {x1 : Int32} {x2 : Int32} {o3 : Option Value} {o4 : Option Value} {o5 : Option Value} {o6 : Option Value} {sx1 : Int32} {sx2 : Int32} {S : fm_S} {r : Option Value × am_W} (hi0 : vp_in sx1 6) (nx : am_Ev d 89 10 [some (.ref 54), some (.int x1), some (.int (x2 + 1)), o3, o4, o5, o6] [] (fm_mk (fm_wI S 65 sx1.toNatClampNeg sx2)) r) : am_Ev d 89 32 [some (.ref 54), some (.int x1), some (.int x2), o3, o4, o5, o6] [.int sx2, .int sx1, .ref 65] (fm_mk S) r := by
  refine fx_iast (n := sx1.toNatClampNeg) (len := 6) (by decide +kernel) (by decide +kernel) (by decide +kernel) hi0 rfl ?_
  refine fs_iinc (j := 2) (n := 1) (v := 1) (L' := [some (.ref 54), some (.int x1), some (.int (x2 + 1)), o3, o4, o5, o6]) (by decide +kernel) rfl (Nat.le_of_ble_eq_true rfl) (by decide) rfl ?_
  refine fs_goto (off := -26) (tgt := 10) (by decide +kernel) (by decide) ?_
  exact nx
theorem b89_39 {d : Nat} {x1 : Int32} {x2 : Int32} {o3 : Option Value} {o4 : Option Value} {o5 : Option Value} {o6 : Option Value} {S : fm_S} {r : Option Value × am_W} (nx : am_Ev d 89 46 [some (.ref 54), some (.int x1), some (.int (-1)), some (.int 0), some (.int 0), o5, o6] [] (fm_mk S) r) : am_Ev d 89 39 [some (.ref 54), some (.int x1), some (.int x2), o3, o4, o5, o6] [] (fm_mk S) r := by
  refine fs_iconst (n := -1) (v := (-1)) (by decide +kernel) (by decide) ?_
  refine fs_istoren (j := 2) (L' := [some (.ref 54), some (.int x1), some (.int (-1)), o3, o4, o5, o6]) (by decide +kernel) (Nat.le_of_ble_eq_true rfl) rfl ?_
  refine fs_iconst (n := 0) (v := 0) (by decide +kernel) (by decide) ?_
  refine fs_istoren (j := 3) (L' := [some (.ref 54), some (.int x1), some (.int (-1)), some (.int 0), o4, o5, o6]) (by decide +kernel) (Nat.le_of_ble_eq_true rfl) rfl ?_
  refine fs_iconst (n := 0) (v := 0) (by decide +kernel) (by decide) ?_
  refine fs_istore (j := 4) (L' := [some (.ref 54), some (.int x1), some (.int (-1)), some (.int 0), some (.int 0), o5, o6]) (by decide +kernel) (Nat.le_of_ble_eq_true rfl) rfl ?_
  exact nx
theorem b89_46 {d : Nat} {x1 : Int32} {x2 : Int32} {x3 : Int32} {x4 : Int32} {o5 : Option Value} {o6 : Option Value} {S : fm_S} {r : Option Value × am_W} (kt : (1 <<< ((S.1 1 7) &&& 31)) ≤ x4 → am_Ev d 89 137 [some (.ref 54), some (.int x1), some (.int x2), some (.int x3), some (.int x4), o5, o6] [] (fm_mk S) r) (kf : ¬ (1 <<< ((S.1 1 7) &&& 31)) ≤ x4 → am_Ev d 89 60 [some (.ref 54), some (.int x1), some (.int x2), some (.int x3), some (.int x4), o5, o6] [] (fm_mk S) r) : am_Ev d 89 46 [some (.ref 54), some (.int x1), some (.int x2), some (.int x3), some (.int x4), o5, o6] [] (fm_mk S) r := by
  refine fs_iload (j := 4) (by decide +kernel) rfl ?_
  refine fs_iconst (n := 1) (v := 1) (by decide +kernel) (by decide) ?_
  refine fs_aloadn (j := 0) (by decide +kernel) rfl ?_
  refine fe_getR (idx := 41) (t := 1) (f := 2) (fk := 2) (fin := 1) (wp := 252) (x := 1) (by decide +kernel) (by decide +kernel) (by decide +kernel) (by decide +kernel) (by decide +kernel) ?_
  refine fe_getI (idx := 111) (t := 6) (f := 7) (fk := 0) (fin := 0) (wp := 180) (by decide +kernel) (by decide +kernel) (by decide +kernel) (by decide +kernel) ?_
  refine fs_ishl (by decide +kernel) ?_
  exact fs_icge (off := 80) (tgt := 137) (by decide +kernel) (by decide) kt kf
theorem b89_60 {d : Nat} {x1 : Int32} {x2 : Int32} {x3 : Int32} {x4 : Int32} {o5 : Option Value} {o6 : Option Value} {v : Int32} {S1 : fm_S} {S : fm_S} {r : Option Value × am_W} (hc : am_Sp d 90 [.ref 54, .int x4] (fm_mk S) (some (.int v)) (fm_mk S1)) (nx : am_Ev (d + 1) 89 67 [some (.ref 54), some (.int x1), some (.int x2), some (.int x3), some (.int x4), o5, o6] [.int v, .int x1] (fm_mk S1) r) : am_Ev (d + 1) 89 60 [some (.ref 54), some (.int x1), some (.int x2), some (.int x3), some (.int x4), o5, o6] [] (fm_mk S) r := by
  refine fs_iloadn (j := 1) (by decide +kernel) rfl ?_
  refine fs_aloadn (j := 0) (by decide +kernel) rfl ?_
  refine fs_iload (j := 4) (by decide +kernel) rfl ?_
  exact fe_callV (idx := 149) (n := 1) (wp := 747) (q := (749, 27)) (as := [.int x4]) (rs := [.int x1]) (by decide +kernel) (by decide +kernel) (by decide +kernel) (by decide +kernel) rfl (Nat.le_of_ble_eq_true rfl) rfl hc nx
theorem b89_67 {d : Nat} {x1 : Int32} {x2 : Int32} {x3 : Int32} {x4 : Int32} {o5 : Option Value} {o6 : Option Value} {sx0 : Int32} {sx1 : Int32} {S : fm_S} {r : Option Value × am_W} (kt : (sx0 &&& (sx1 ^^^ (-1))) = 0 → am_Ev d 89 76 [some (.ref 54), some (.int x1), some (.int x2), some (.int x3), some (.int x4), o5, o6] [] (fm_mk S) r) (kf : ¬ (sx0 &&& (sx1 ^^^ (-1))) = 0 → am_Ev d 89 73 [some (.ref 54), some (.int x1), some (.int x2), some (.int x3), some (.int x4), o5, o6] [] (fm_mk S) r) : am_Ev d 89 67 [some (.ref 54), some (.int x1), some (.int x2), some (.int x3), some (.int x4), o5, o6] [.int sx1, .int sx0] (fm_mk S) r := by
  refine fs_iconst (n := -1) (v := (-1)) (by decide +kernel) (by decide) ?_
  refine fs_ixor (by decide +kernel) ?_
  refine fs_iand (by decide +kernel) ?_
  exact fs_ifeq (off := 6) (tgt := 76) (by decide +kernel) (by decide) kt kf
theorem b89_73 {d : Nat} {x1 : Int32} {x2 : Int32} {x3 : Int32} {x4 : Int32} {o5 : Option Value} {o6 : Option Value} {S : fm_S} {r : Option Value × am_W} (nx : am_Ev d 89 131 [some (.ref 54), some (.int x1), some (.int x2), some (.int x3), some (.int x4), o5, o6] [] (fm_mk S) r) : am_Ev d 89 73 [some (.ref 54), some (.int x1), some (.int x2), some (.int x3), some (.int x4), o5, o6] [] (fm_mk S) r := by
  refine fs_goto (off := 58) (tgt := 131) (by decide +kernel) (by decide) ?_
  exact nx
theorem b89_76 {d : Nat} {x1 : Int32} {x2 : Int32} {x3 : Int32} {x4 : Int32} {o5 : Option Value} {o6 : Option Value} {v : Int32} {S1 : fm_S} {S : fm_S} {r : Option Value × am_W} (hc : am_Sp d 91 [.ref 54, .int x4] (fm_mk S) (some (.int v)) (fm_mk S1)) (nx : am_Ev (d + 1) 89 82 [some (.ref 54), some (.int x1), some (.int x2), some (.int x3), some (.int x4), o5, o6] [.int v] (fm_mk S1) r) : am_Ev (d + 1) 89 76 [some (.ref 54), some (.int x1), some (.int x2), some (.int x3), some (.int x4), o5, o6] [] (fm_mk S) r := by
  refine fs_aloadn (j := 0) (by decide +kernel) rfl ?_
  refine fs_iload (j := 4) (by decide +kernel) rfl ?_
  exact fe_callV (idx := 152) (n := 1) (wp := 751) (q := (753, 28)) (as := [.int x4]) (rs := []) (by decide +kernel) (by decide +kernel) (by decide +kernel) (by decide +kernel) rfl (Nat.le_of_ble_eq_true rfl) rfl hc nx
theorem b89_82 {d : Nat} {x1 : Int32} {x2 : Int32} {x3 : Int32} {x4 : Int32} {o5 : Option Value} {o6 : Option Value} {sx0 : Int32} {v : Int32} {S1 : fm_S} {S : fm_S} {r : Option Value × am_W} (hc : am_Sp d 92 [.int x4] (fm_mk S) (some (.int v)) (fm_mk S1)) (nx : am_Ev (d + 1) 89 89 [some (.ref 54), some (.int x1), some (.int x2), some (.int x3), some (.int x4), some (.int sx0), o6] [.int v] (fm_mk S1) r) : am_Ev (d + 1) 89 82 [some (.ref 54), some (.int x1), some (.int x2), some (.int x3), some (.int x4), o5, o6] [.int sx0] (fm_mk S) r := by
  refine fs_istore (j := 5) (L' := [some (.ref 54), some (.int x1), some (.int x2), some (.int x3), some (.int x4), some (.int sx0), o6]) (by decide +kernel) (Nat.le_of_ble_eq_true rfl) rfl ?_
  refine fs_iload (j := 4) (by decide +kernel) rfl ?_
  exact fe_callS (idx := 155) (kd := 0) (n := 1) (wp := 755) (q := (756, 0)) (as := [.int x4]) (rs := []) (by decide +kernel) (by decide +kernel) (by decide +kernel) (by decide) rfl (Nat.le_of_ble_eq_true rfl) rfl hc nx
theorem b89_89 {d : Nat} {x1 : Int32} {x2 : Int32} {x3 : Int32} {x4 : Int32} {x5 : Int32} {o6 : Option Value} {sx0 : Int32} {v : Int32} {S1 : fm_S} {S : fm_S} {r : Option Value × am_W} (hc : am_Sp d 92 [.int x2] (fm_mk S) (some (.int v)) (fm_mk S1)) (nx : am_Ev (d + 1) 89 93 [some (.ref 54), some (.int x1), some (.int x2), some (.int x3), some (.int x4), some (.int x5), o6] [.int v, .int sx0] (fm_mk S1) r) : am_Ev (d + 1) 89 89 [some (.ref 54), some (.int x1), some (.int x2), some (.int x3), some (.int x4), some (.int x5), o6] [.int sx0] (fm_mk S) r := by
  refine fs_iloadn (j := 2) (by decide +kernel) rfl ?_
  exact fe_callS (idx := 155) (kd := 0) (n := 1) (wp := 755) (q := (756, 0)) (as := [.int x2]) (rs := [.int sx0]) (by decide +kernel) (by decide +kernel) (by decide +kernel) (by decide) rfl (Nat.le_of_ble_eq_true rfl) rfl hc nx
theorem b89_93 {d : Nat} {x1 : Int32} {x2 : Int32} {x3 : Int32} {x4 : Int32} {x5 : Int32} {o6 : Option Value} {sx0 : Int32} {sx1 : Int32} {S : fm_S} {r : Option Value × am_W} (kt : sx1 ≤ sx0 → am_Ev d 89 100 [some (.ref 54), some (.int x1), some (.int x2), some (.int x3), some (.int x4), some (.int x5), o6] [] (fm_mk S) r) (kf : ¬ sx1 ≤ sx0 → am_Ev d 89 96 [some (.ref 54), some (.int x1), some (.int x2), some (.int x3), some (.int x4), some (.int x5), o6] [] (fm_mk S) r) : am_Ev d 89 93 [some (.ref 54), some (.int x1), some (.int x2), some (.int x3), some (.int x4), some (.int x5), o6] [.int sx1, .int sx0] (fm_mk S) r := by
  exact fs_icge (off := 7) (tgt := 100) (by decide +kernel) (by decide) kt kf
theorem b89_96 {d : Nat} {x1 : Int32} {x2 : Int32} {x3 : Int32} {x4 : Int32} {x5 : Int32} {o6 : Option Value} {S : fm_S} {r : Option Value × am_W} (nx : am_Ev d 89 101 [some (.ref 54), some (.int x1), some (.int x2), some (.int x3), some (.int x4), some (.int x5), o6] [.int 1] (fm_mk S) r) : am_Ev d 89 96 [some (.ref 54), some (.int x1), some (.int x2), some (.int x3), some (.int x4), some (.int x5), o6] [] (fm_mk S) r := by
  refine fs_iconst (n := 1) (v := 1) (by decide +kernel) (by decide) ?_
  refine fs_goto (off := 4) (tgt := 101) (by decide +kernel) (by decide) ?_
  exact nx
theorem b89_100 {d : Nat} {x1 : Int32} {x2 : Int32} {x3 : Int32} {x4 : Int32} {x5 : Int32} {o6 : Option Value} {S : fm_S} {r : Option Value × am_W} (nx : am_Ev d 89 101 [some (.ref 54), some (.int x1), some (.int x2), some (.int x3), some (.int x4), some (.int x5), o6] [.int 0] (fm_mk S) r) : am_Ev d 89 100 [some (.ref 54), some (.int x1), some (.int x2), some (.int x3), some (.int x4), some (.int x5), o6] [] (fm_mk S) r := by
  refine fs_iconst (n := 0) (v := 0) (by decide +kernel) (by decide) ?_
  exact nx
theorem b89_101 {d : Nat} {x1 : Int32} {x2 : Int32} {x3 : Int32} {x4 : Int32} {x5 : Int32} {o6 : Option Value} {sx0 : Int32} {S : fm_S} {r : Option Value × am_W} (kt : x2 = (-1) → am_Ev d 89 125 [some (.ref 54), some (.int x1), some (.int x2), some (.int x3), some (.int x4), some (.int x5), some (.int sx0)] [] (fm_mk S) r) (kf : ¬ x2 = (-1) → am_Ev d 89 108 [some (.ref 54), some (.int x1), some (.int x2), some (.int x3), some (.int x4), some (.int x5), some (.int sx0)] [] (fm_mk S) r) : am_Ev d 89 101 [some (.ref 54), some (.int x1), some (.int x2), some (.int x3), some (.int x4), some (.int x5), o6] [.int sx0] (fm_mk S) r := by
  refine fs_istore (j := 6) (L' := [some (.ref 54), some (.int x1), some (.int x2), some (.int x3), some (.int x4), some (.int x5), some (.int sx0)]) (by decide +kernel) (Nat.le_of_ble_eq_true rfl) rfl ?_
  refine fs_iloadn (j := 2) (by decide +kernel) rfl ?_
  refine fs_iconst (n := -1) (v := (-1)) (by decide +kernel) (by decide) ?_
  exact fs_iceq (off := 20) (tgt := 125) (by decide +kernel) (by decide) kt kf
theorem b89_108 {d : Nat} {x1 : Int32} {x2 : Int32} {x3 : Int32} {x4 : Int32} {x5 : Int32} {x6 : Int32} {S : fm_S} {r : Option Value × am_W} (kt : x5 < x3 → am_Ev d 89 125 [some (.ref 54), some (.int x1), some (.int x2), some (.int x3), some (.int x4), some (.int x5), some (.int x6)] [] (fm_mk S) r) (kf : ¬ x5 < x3 → am_Ev d 89 114 [some (.ref 54), some (.int x1), some (.int x2), some (.int x3), some (.int x4), some (.int x5), some (.int x6)] [] (fm_mk S) r) : am_Ev d 89 108 [some (.ref 54), some (.int x1), some (.int x2), some (.int x3), some (.int x4), some (.int x5), some (.int x6)] [] (fm_mk S) r := by
  refine fs_iload (j := 5) (by decide +kernel) rfl ?_
  refine fs_iloadn (j := 3) (by decide +kernel) rfl ?_
  exact fs_iclt (off := 14) (tgt := 125) (by decide +kernel) (by decide) kt kf
theorem b89_114 {d : Nat} {x1 : Int32} {x2 : Int32} {x3 : Int32} {x4 : Int32} {x5 : Int32} {x6 : Int32} {S : fm_S} {r : Option Value × am_W} (kt : ¬ x5 = x3 → am_Ev d 89 131 [some (.ref 54), some (.int x1), some (.int x2), some (.int x3), some (.int x4), some (.int x5), some (.int x6)] [] (fm_mk S) r) (kf : x5 = x3 → am_Ev d 89 120 [some (.ref 54), some (.int x1), some (.int x2), some (.int x3), some (.int x4), some (.int x5), some (.int x6)] [] (fm_mk S) r) : am_Ev d 89 114 [some (.ref 54), some (.int x1), some (.int x2), some (.int x3), some (.int x4), some (.int x5), some (.int x6)] [] (fm_mk S) r := by
  refine fs_iload (j := 5) (by decide +kernel) rfl ?_
  refine fs_iloadn (j := 3) (by decide +kernel) rfl ?_
  exact fs_icne (off := 14) (tgt := 131) (by decide +kernel) (by decide) kt kf
theorem b89_120 {d : Nat} {x1 : Int32} {x2 : Int32} {x3 : Int32} {x4 : Int32} {x5 : Int32} {x6 : Int32} {S : fm_S} {r : Option Value × am_W} (kt : x6 = 0 → am_Ev d 89 131 [some (.ref 54), some (.int x1), some (.int x2), some (.int x3), some (.int x4), some (.int x5), some (.int x6)] [] (fm_mk S) r) (kf : ¬ x6 = 0 → am_Ev d 89 125 [some (.ref 54), some (.int x1), some (.int x2), some (.int x3), some (.int x4), some (.int x5), some (.int x6)] [] (fm_mk S) r) : am_Ev d 89 120 [some (.ref 54), some (.int x1), some (.int x2), some (.int x3), some (.int x4), some (.int x5), some (.int x6)] [] (fm_mk S) r := by
  refine fs_iload (j := 6) (by decide +kernel) rfl ?_
  exact fs_ifeq (off := 9) (tgt := 131) (by decide +kernel) (by decide) kt kf
theorem b89_125 {d : Nat} {x1 : Int32} {x2 : Int32} {x3 : Int32} {x4 : Int32} {x5 : Int32} {x6 : Int32} {S : fm_S} {r : Option Value × am_W} (nx : am_Ev d 89 131 [some (.ref 54), some (.int x1), some (.int x4), some (.int x5), some (.int x4), some (.int x5), some (.int x6)] [] (fm_mk S) r) : am_Ev d 89 125 [some (.ref 54), some (.int x1), some (.int x2), some (.int x3), some (.int x4), some (.int x5), some (.int x6)] [] (fm_mk S) r := by
  refine fs_iload (j := 4) (by decide +kernel) rfl ?_
  refine fs_istoren (j := 2) (L' := [some (.ref 54), some (.int x1), some (.int x4), some (.int x3), some (.int x4), some (.int x5), some (.int x6)]) (by decide +kernel) (Nat.le_of_ble_eq_true rfl) rfl ?_
  refine fs_iload (j := 5) (by decide +kernel) rfl ?_
  refine fs_istoren (j := 3) (L' := [some (.ref 54), some (.int x1), some (.int x4), some (.int x5), some (.int x4), some (.int x5), some (.int x6)]) (by decide +kernel) (Nat.le_of_ble_eq_true rfl) rfl ?_
  exact nx
theorem b89_131 {d : Nat} {x1 : Int32} {x2 : Int32} {x3 : Int32} {x4 : Int32} {o5 : Option Value} {o6 : Option Value} {S : fm_S} {r : Option Value × am_W} (nx : am_Ev d 89 46 [some (.ref 54), some (.int x1), some (.int x2), some (.int x3), some (.int (x4 + 1)), o5, o6] [] (fm_mk S) r) : am_Ev d 89 131 [some (.ref 54), some (.int x1), some (.int x2), some (.int x3), some (.int x4), o5, o6] [] (fm_mk S) r := by
  refine fs_iinc (j := 4) (n := 1) (v := 1) (L' := [some (.ref 54), some (.int x1), some (.int x2), some (.int x3), some (.int (x4 + 1)), o5, o6]) (by decide +kernel) rfl (Nat.le_of_ble_eq_true rfl) (by decide) rfl ?_
  refine fs_goto (off := -88) (tgt := 46) (by decide +kernel) (by decide) ?_
  exact nx
theorem b89_137 {d : Nat} {x1 : Int32} {x2 : Int32} {x3 : Int32} {x4 : Int32} {o5 : Option Value} {o6 : Option Value} {S : fm_S}  : am_Ev d 89 137 [some (.ref 54), some (.int x1), some (.int x2), some (.int x3), some (.int x4), o5, o6] [] (fm_mk S) (some (.int x2), fm_mk S) := by
  refine fs_iloadn (j := 2) (by decide +kernel) rfl ?_
  exact fe_retI (by decide +kernel) (by decide +kernel)
-- KitchenSiege$Cook.openedBy(I)I
theorem b90_0 {d : Nat} {x1 : Int32} {o2 : Option Value} {o3 : Option Value} {S : fm_S} {r : Option Value × am_W} (nx : am_Ev d 90 4 [some (.ref 54), some (.int x1), some (.int 0), some (.int 0)] [] (fm_mk S) r) : am_Ev d 90 0 [some (.ref 54), some (.int x1), o2, o3] [] (fm_mk S) r := by
  refine fs_iconst (n := 0) (v := 0) (by decide +kernel) (by decide) ?_
  refine fs_istoren (j := 2) (L' := [some (.ref 54), some (.int x1), some (.int 0), o3]) (by decide +kernel) (Nat.le_of_ble_eq_true rfl) rfl ?_
  refine fs_iconst (n := 0) (v := 0) (by decide +kernel) (by decide) ?_
  refine fs_istoren (j := 3) (L' := [some (.ref 54), some (.int x1), some (.int 0), some (.int 0)]) (by decide +kernel) (Nat.le_of_ble_eq_true rfl) rfl ?_
  exact nx
theorem b90_4 {d : Nat} {x1 : Int32} {x2 : Int32} {x3 : Int32} {S : fm_S} {r : Option Value × am_W} (kt : (S.1 1 7) ≤ x3 → am_Ev d 90 38 [some (.ref 54), some (.int x1), some (.int x2), some (.int x3)] [] (fm_mk S) r) (kf : ¬ (S.1 1 7) ≤ x3 → am_Ev d 90 15 [some (.ref 54), some (.int x1), some (.int x2), some (.int x3)] [] (fm_mk S) r) : am_Ev d 90 4 [some (.ref 54), some (.int x1), some (.int x2), some (.int x3)] [] (fm_mk S) r := by
  refine fs_iloadn (j := 3) (by decide +kernel) rfl ?_
  refine fs_aloadn (j := 0) (by decide +kernel) rfl ?_
  refine fe_getR (idx := 41) (t := 1) (f := 2) (fk := 2) (fin := 1) (wp := 252) (x := 1) (by decide +kernel) (by decide +kernel) (by decide +kernel) (by decide +kernel) (by decide +kernel) ?_
  refine fe_getI (idx := 111) (t := 6) (f := 7) (fk := 0) (fin := 0) (wp := 180) (by decide +kernel) (by decide +kernel) (by decide +kernel) (by decide +kernel) ?_
  exact fs_icge (off := 26) (tgt := 38) (by decide +kernel) (by decide) kt kf
theorem b90_15 {d : Nat} {x1 : Int32} {x2 : Int32} {x3 : Int32} {v : Int32} {S1 : fm_S} {S : fm_S} {r : Option Value × am_W} (hc : am_Sp d 19 [.int x1, .int x3] (fm_mk S) (some (.int v)) (fm_mk S1)) (nx : am_Ev (d + 1) 90 20 [some (.ref 54), some (.int x1), some (.int x2), some (.int x3)] [.int v] (fm_mk S1) r) : am_Ev (d + 1) 90 15 [some (.ref 54), some (.int x1), some (.int x2), some (.int x3)] [] (fm_mk S) r := by
  refine fs_iloadn (j := 1) (by decide +kernel) rfl ?_
  refine fs_iloadn (j := 3) (by decide +kernel) rfl ?_
  exact fe_callS (idx := 72) (kd := 4) (n := 2) (wp := 647) (q := (399, 0)) (as := [.int x1, .int x3]) (rs := []) (by decide +kernel) (by decide +kernel) (by decide +kernel) (by decide) rfl (Nat.le_of_ble_eq_true rfl) rfl hc nx
theorem b90_20 {d : Nat} {x1 : Int32} {x2 : Int32} {x3 : Int32} {sx0 : Int32} {S : fm_S} {r : Option Value × am_W} (kt : sx0 = 0 → am_Ev d 90 32 [some (.ref 54), some (.int x1), some (.int x2), some (.int x3)] [] (fm_mk S) r) (kf : ¬ sx0 = 0 → am_Ev d 90 23 [some (.ref 54), some (.int x1), some (.int x2), some (.int x3)] [] (fm_mk S) r) : am_Ev d 90 20 [some (.ref 54), some (.int x1), some (.int x2), some (.int x3)] [.int sx0] (fm_mk S) r := by
  exact fs_ifeq (off := 12) (tgt := 32) (by decide +kernel) (by decide) kt kf
theorem b90_23 {d : Nat} {x1 : Int32} {x2 : Int32} {x3 : Int32} {S : fm_S} {r : Option Value × am_W} (hi0 : vp_in x3 6) (nx : am_Ev d 90 32 [some (.ref 54), some (.int x1), some (.int (x2 ||| (S.1 65 x3.toNatClampNeg))), some (.int x3)] [] (fm_mk S) r) : am_Ev d 90 23 [some (.ref 54), some (.int x1), some (.int x2), some (.int x3)] [] (fm_mk S) r := by
  refine fs_iloadn (j := 2) (by decide +kernel) rfl ?_
  refine fs_aloadn (j := 0) (by decide +kernel) rfl ?_
  refine fe_getR (idx := 35) (t := 1) (f := 7) (fk := 2) (fin := 1) (wp := 257) (x := 65) (by decide +kernel) (by decide +kernel) (by decide +kernel) (by decide +kernel) (by decide +kernel) ?_
  refine fs_iloadn (j := 3) (by decide +kernel) rfl ?_
  refine fx_iald (n := x3.toNatClampNeg) (len := 6) (by decide +kernel) (by decide +kernel) (by decide +kernel) hi0 rfl ?_
  refine fs_ior (by decide +kernel) ?_
  refine fs_istoren (j := 2) (L' := [some (.ref 54), some (.int x1), some (.int (x2 ||| (S.1 65 x3.toNatClampNeg))), some (.int x3)]) (by decide +kernel) (Nat.le_of_ble_eq_true rfl) rfl ?_
  exact nx
theorem b90_32 {d : Nat} {x1 : Int32} {x2 : Int32} {x3 : Int32} {S : fm_S} {r : Option Value × am_W} (nx : am_Ev d 90 4 [some (.ref 54), some (.int x1), some (.int x2), some (.int (x3 + 1))] [] (fm_mk S) r) : am_Ev d 90 32 [some (.ref 54), some (.int x1), some (.int x2), some (.int x3)] [] (fm_mk S) r := by
  refine fs_iinc (j := 3) (n := 1) (v := 1) (L' := [some (.ref 54), some (.int x1), some (.int x2), some (.int (x3 + 1))]) (by decide +kernel) rfl (Nat.le_of_ble_eq_true rfl) (by decide) rfl ?_
  refine fs_goto (off := -31) (tgt := 4) (by decide +kernel) (by decide) ?_
  exact nx
theorem b90_38 {d : Nat} {x1 : Int32} {x2 : Int32} {x3 : Int32} {S : fm_S}  : am_Ev d 90 38 [some (.ref 54), some (.int x1), some (.int x2), some (.int x3)] [] (fm_mk S) (some (.int x2), fm_mk S) := by
  refine fs_iloadn (j := 2) (by decide +kernel) rfl ?_
  exact fe_retI (by decide +kernel) (by decide +kernel)
-- KitchenSiege$Cook.butterOf(I)I
theorem b91_0 {d : Nat} {x1 : Int32} {o2 : Option Value} {o3 : Option Value} {S : fm_S} {r : Option Value × am_W} (nx : am_Ev d 91 4 [some (.ref 54), some (.int x1), some (.int 0), some (.int 0)] [] (fm_mk S) r) : am_Ev d 91 0 [some (.ref 54), some (.int x1), o2, o3] [] (fm_mk S) r := by
  refine fs_iconst (n := 0) (v := 0) (by decide +kernel) (by decide) ?_
  refine fs_istoren (j := 2) (L' := [some (.ref 54), some (.int x1), some (.int 0), o3]) (by decide +kernel) (Nat.le_of_ble_eq_true rfl) rfl ?_
  refine fs_iconst (n := 0) (v := 0) (by decide +kernel) (by decide) ?_
  refine fs_istoren (j := 3) (L' := [some (.ref 54), some (.int x1), some (.int 0), some (.int 0)]) (by decide +kernel) (Nat.le_of_ble_eq_true rfl) rfl ?_
  exact nx
theorem b91_4 {d : Nat} {x1 : Int32} {x2 : Int32} {x3 : Int32} {S : fm_S} {r : Option Value × am_W} (kt : (S.1 1 7) ≤ x3 → am_Ev d 91 41 [some (.ref 54), some (.int x1), some (.int x2), some (.int x3)] [] (fm_mk S) r) (kf : ¬ (S.1 1 7) ≤ x3 → am_Ev d 91 15 [some (.ref 54), some (.int x1), some (.int x2), some (.int x3)] [] (fm_mk S) r) : am_Ev d 91 4 [some (.ref 54), some (.int x1), some (.int x2), some (.int x3)] [] (fm_mk S) r := by
  refine fs_iloadn (j := 3) (by decide +kernel) rfl ?_
  refine fs_aloadn (j := 0) (by decide +kernel) rfl ?_
  refine fe_getR (idx := 41) (t := 1) (f := 2) (fk := 2) (fin := 1) (wp := 252) (x := 1) (by decide +kernel) (by decide +kernel) (by decide +kernel) (by decide +kernel) (by decide +kernel) ?_
  refine fe_getI (idx := 111) (t := 6) (f := 7) (fk := 0) (fin := 0) (wp := 180) (by decide +kernel) (by decide +kernel) (by decide +kernel) (by decide +kernel) ?_
  exact fs_icge (off := 29) (tgt := 41) (by decide +kernel) (by decide) kt kf
theorem b91_15 {d : Nat} {x1 : Int32} {x2 : Int32} {x3 : Int32} {v : Int32} {S1 : fm_S} {S : fm_S} {r : Option Value × am_W} (hc : am_Sp d 19 [.int x1, .int x3] (fm_mk S) (some (.int v)) (fm_mk S1)) (nx : am_Ev (d + 1) 91 20 [some (.ref 54), some (.int x1), some (.int x2), some (.int x3)] [.int v] (fm_mk S1) r) : am_Ev (d + 1) 91 15 [some (.ref 54), some (.int x1), some (.int x2), some (.int x3)] [] (fm_mk S) r := by
  refine fs_iloadn (j := 1) (by decide +kernel) rfl ?_
  refine fs_iloadn (j := 3) (by decide +kernel) rfl ?_
  exact fe_callS (idx := 72) (kd := 4) (n := 2) (wp := 647) (q := (399, 0)) (as := [.int x1, .int x3]) (rs := []) (by decide +kernel) (by decide +kernel) (by decide +kernel) (by decide) rfl (Nat.le_of_ble_eq_true rfl) rfl hc nx
theorem b91_20 {d : Nat} {x1 : Int32} {x2 : Int32} {x3 : Int32} {sx0 : Int32} {S : fm_S} {r : Option Value × am_W} (kt : sx0 = 0 → am_Ev d 91 35 [some (.ref 54), some (.int x1), some (.int x2), some (.int x3)] [] (fm_mk S) r) (kf : ¬ sx0 = 0 → am_Ev d 91 23 [some (.ref 54), some (.int x1), some (.int x2), some (.int x3)] [] (fm_mk S) r) : am_Ev d 91 20 [some (.ref 54), some (.int x1), some (.int x2), some (.int x3)] [.int sx0] (fm_mk S) r := by
  exact fs_ifeq (off := 15) (tgt := 35) (by decide +kernel) (by decide) kt kf
theorem b91_23 {d : Nat} {x1 : Int32} {x2 : Int32} {x3 : Int32} {S : fm_S} {r : Option Value × am_W} (hi0 : vp_in x3 6) (nx : am_Ev d 91 35 [some (.ref 54), some (.int x1), some (.int (x2 + (S.1 10 x3.toNatClampNeg))), some (.int x3)] [] (fm_mk S) r) : am_Ev d 91 23 [some (.ref 54), some (.int x1), some (.int x2), some (.int x3)] [] (fm_mk S) r := by
  refine fs_iloadn (j := 2) (by decide +kernel) rfl ?_
  refine fs_aloadn (j := 0) (by decide +kernel) rfl ?_
  refine fe_getR (idx := 41) (t := 1) (f := 2) (fk := 2) (fin := 1) (wp := 252) (x := 1) (by decide +kernel) (by decide +kernel) (by decide +kernel) (by decide +kernel) (by decide +kernel) ?_
  refine fe_getR (idx := 124) (t := 6) (f := 10) (fk := 2) (fin := 1) (wp := 186) (x := 10) (by decide +kernel) (by decide +kernel) (by decide +kernel) (by decide +kernel) (by decide +kernel) ?_
  refine fs_iloadn (j := 3) (by decide +kernel) rfl ?_
  refine fx_iald (n := x3.toNatClampNeg) (len := 6) (by decide +kernel) (by decide +kernel) (by decide +kernel) hi0 rfl ?_
  refine fs_iadd (by decide +kernel) ?_
  refine fs_istoren (j := 2) (L' := [some (.ref 54), some (.int x1), some (.int (x2 + (S.1 10 x3.toNatClampNeg))), some (.int x3)]) (by decide +kernel) (Nat.le_of_ble_eq_true rfl) rfl ?_
  exact nx
theorem b91_35 {d : Nat} {x1 : Int32} {x2 : Int32} {x3 : Int32} {S : fm_S} {r : Option Value × am_W} (nx : am_Ev d 91 4 [some (.ref 54), some (.int x1), some (.int x2), some (.int (x3 + 1))] [] (fm_mk S) r) : am_Ev d 91 35 [some (.ref 54), some (.int x1), some (.int x2), some (.int x3)] [] (fm_mk S) r := by
  refine fs_iinc (j := 3) (n := 1) (v := 1) (L' := [some (.ref 54), some (.int x1), some (.int x2), some (.int (x3 + 1))]) (by decide +kernel) rfl (Nat.le_of_ble_eq_true rfl) (by decide) rfl ?_
  refine fs_goto (off := -34) (tgt := 4) (by decide +kernel) (by decide) ?_
  exact nx
theorem b91_41 {d : Nat} {x1 : Int32} {x2 : Int32} {x3 : Int32} {S : fm_S}  : am_Ev d 91 41 [some (.ref 54), some (.int x1), some (.int x2), some (.int x3)] [] (fm_mk S) (some (.int x2), fm_mk S) := by
  refine fs_iloadn (j := 2) (by decide +kernel) rfl ?_
  exact fe_retI (by decide +kernel) (by decide +kernel)
-- KitchenSiege$Cook.bestSheets(II)I
theorem b94_0 {d : Nat} {x1 : Int32} {x2 : Int32} {o3 : Option Value} {o4 : Option Value} {o5 : Option Value} {o6 : Option Value} {S : fm_S} {r : Option Value × am_W} (nx : am_Ev d 94 9 [some (.ref 54), some (.int x1), some (.int x2), some (.int (-1)), some (.int 9), some (.int 0), o6] [] (fm_mk S) r) : am_Ev d 94 0 [some (.ref 54), some (.int x1), some (.int x2), o3, o4, o5, o6] [] (fm_mk S) r := by
  refine fs_iconst (n := -1) (v := (-1)) (by decide +kernel) (by decide) ?_
  refine fs_istoren (j := 3) (L' := [some (.ref 54), some (.int x1), some (.int x2), some (.int (-1)), o4, o5, o6]) (by decide +kernel) (Nat.le_of_ble_eq_true rfl) rfl ?_
  refine fs_bipush (n := 9) (v := 9) (by decide +kernel) (by decide) ?_
  refine fs_istore (j := 4) (L' := [some (.ref 54), some (.int x1), some (.int x2), some (.int (-1)), some (.int 9), o5, o6]) (by decide +kernel) (Nat.le_of_ble_eq_true rfl) rfl ?_
  refine fs_iconst (n := 0) (v := 0) (by decide +kernel) (by decide) ?_
  refine fs_istore (j := 5) (L' := [some (.ref 54), some (.int x1), some (.int x2), some (.int (-1)), some (.int 9), some (.int 0), o6]) (by decide +kernel) (Nat.le_of_ble_eq_true rfl) rfl ?_
  exact nx
theorem b94_9 {d : Nat} {x1 : Int32} {x2 : Int32} {x3 : Int32} {x4 : Int32} {x5 : Int32} {o6 : Option Value} {S : fm_S} {r : Option Value × am_W} (kt : (S.1 1 0) ≤ x5 → am_Ev d 94 66 [some (.ref 54), some (.int x1), some (.int x2), some (.int x3), some (.int x4), some (.int x5), o6] [] (fm_mk S) r) (kf : ¬ (S.1 1 0) ≤ x5 → am_Ev d 94 21 [some (.ref 54), some (.int x1), some (.int x2), some (.int x3), some (.int x4), some (.int x5), o6] [] (fm_mk S) r) : am_Ev d 94 9 [some (.ref 54), some (.int x1), some (.int x2), some (.int x3), some (.int x4), some (.int x5), o6] [] (fm_mk S) r := by
  refine fs_iload (j := 5) (by decide +kernel) rfl ?_
  refine fs_aloadn (j := 0) (by decide +kernel) rfl ?_
  refine fe_getR (idx := 41) (t := 1) (f := 2) (fk := 2) (fin := 1) (wp := 252) (x := 1) (by decide +kernel) (by decide +kernel) (by decide +kernel) (by decide +kernel) (by decide +kernel) ?_
  refine fe_getI (idx := 69) (t := 6) (f := 0) (fk := 0) (fin := 0) (wp := 158) (by decide +kernel) (by decide +kernel) (by decide +kernel) (by decide +kernel) ?_
  exact fs_icge (off := 48) (tgt := 66) (by decide +kernel) (by decide) kt kf
theorem b94_21 {d : Nat} {x1 : Int32} {x2 : Int32} {x3 : Int32} {x4 : Int32} {x5 : Int32} {o6 : Option Value} {v : Int32} {S1 : fm_S} {S : fm_S} {r : Option Value × am_W} (hc : am_Sp d 61 [.ref 17, .int x5] (fm_mk S) (some (.int v)) (fm_mk S1)) (nx : am_Ev (d + 1) 94 33 [some (.ref 54), some (.int x1), some (.int x2), some (.int x3), some (.int x4), some (.int x5), o6] [.int v] (fm_mk S1) r) : am_Ev (d + 1) 94 21 [some (.ref 54), some (.int x1), some (.int x2), some (.int x3), some (.int x4), some (.int x5), o6] [] (fm_mk S) r := by
  refine fs_aloadn (j := 0) (by decide +kernel) rfl ?_
  refine fe_getR (idx := 41) (t := 1) (f := 2) (fk := 2) (fin := 1) (wp := 252) (x := 1) (by decide +kernel) (by decide +kernel) (by decide +kernel) (by decide +kernel) (by decide +kernel) ?_
  refine fe_getR (idx := 101) (t := 6) (f := 12) (fk := 2) (fin := 1) (wp := 190) (x := 17) (by decide +kernel) (by decide +kernel) (by decide +kernel) (by decide +kernel) (by decide +kernel) ?_
  refine fs_iload (j := 5) (by decide +kernel) rfl ?_
  exact fe_callV (idx := 86) (n := 1) (wp := 628) (q := (629, 630)) (as := [.int x5]) (rs := []) (by decide +kernel) (by decide +kernel) (by decide +kernel) (by decide +kernel) rfl (Nat.le_of_ble_eq_true rfl) rfl hc nx
theorem b94_33 {d : Nat} {x1 : Int32} {x2 : Int32} {x3 : Int32} {x4 : Int32} {x5 : Int32} {o6 : Option Value} {sx0 : Int32} {S : fm_S} {r : Option Value × am_W} (kt : sx0 = 0 → am_Ev d 94 60 [some (.ref 54), some (.int x1), some (.int x2), some (.int x3), some (.int x4), some (.int x5), o6] [] (fm_mk S) r) (kf : ¬ sx0 = 0 → am_Ev d 94 36 [some (.ref 54), some (.int x1), some (.int x2), some (.int x3), some (.int x4), some (.int x5), o6] [] (fm_mk S) r) : am_Ev d 94 33 [some (.ref 54), some (.int x1), some (.int x2), some (.int x3), some (.int x4), some (.int x5), o6] [.int sx0] (fm_mk S) r := by
  exact fs_ifeq (off := 27) (tgt := 60) (by decide +kernel) (by decide) kt kf
theorem b94_36 {d : Nat} {x1 : Int32} {x2 : Int32} {x3 : Int32} {x4 : Int32} {x5 : Int32} {o6 : Option Value} {v : Int32} {S1 : fm_S} {S : fm_S} {r : Option Value × am_W} (hc : am_Sp d 95 [.ref 54, .int x1, .int x5, .int x2] (fm_mk S) (some (.int v)) (fm_mk S1)) (nx : am_Ev (d + 1) 94 44 [some (.ref 54), some (.int x1), some (.int x2), some (.int x3), some (.int x4), some (.int x5), o6] [.int v] (fm_mk S1) r) : am_Ev (d + 1) 94 36 [some (.ref 54), some (.int x1), some (.int x2), some (.int x3), some (.int x4), some (.int x5), o6] [] (fm_mk S) r := by
  refine fs_aloadn (j := 0) (by decide +kernel) rfl ?_
  refine fs_iloadn (j := 1) (by decide +kernel) rfl ?_
  refine fs_iload (j := 5) (by decide +kernel) rfl ?_
  refine fs_iloadn (j := 2) (by decide +kernel) rfl ?_
  exact fe_callV (idx := 164) (n := 3) (wp := 769) (q := (770, 771)) (as := [.int x1, .int x5, .int x2]) (rs := []) (by decide +kernel) (by decide +kernel) (by decide +kernel) (by decide +kernel) rfl (Nat.le_of_ble_eq_true rfl) rfl hc nx
theorem b94_44 {d : Nat} {x1 : Int32} {x2 : Int32} {x3 : Int32} {x4 : Int32} {x5 : Int32} {o6 : Option Value} {sx0 : Int32} {S : fm_S} {r : Option Value × am_W} (kt : x4 ≤ sx0 → am_Ev d 94 60 [some (.ref 54), some (.int x1), some (.int x2), some (.int x3), some (.int x4), some (.int x5), some (.int sx0)] [] (fm_mk S) r) (kf : ¬ x4 ≤ sx0 → am_Ev d 94 53 [some (.ref 54), some (.int x1), some (.int x2), some (.int x3), some (.int x4), some (.int x5), some (.int sx0)] [] (fm_mk S) r) : am_Ev d 94 44 [some (.ref 54), some (.int x1), some (.int x2), some (.int x3), some (.int x4), some (.int x5), o6] [.int sx0] (fm_mk S) r := by
  refine fs_istore (j := 6) (L' := [some (.ref 54), some (.int x1), some (.int x2), some (.int x3), some (.int x4), some (.int x5), some (.int sx0)]) (by decide +kernel) (Nat.le_of_ble_eq_true rfl) rfl ?_
  refine fs_iload (j := 6) (by decide +kernel) rfl ?_
  refine fs_iload (j := 4) (by decide +kernel) rfl ?_
  exact fs_icge (off := 10) (tgt := 60) (by decide +kernel) (by decide) kt kf
theorem b94_53 {d : Nat} {x1 : Int32} {x2 : Int32} {x3 : Int32} {x4 : Int32} {x5 : Int32} {x6 : Int32} {S : fm_S} {r : Option Value × am_W} (nx : am_Ev d 94 60 [some (.ref 54), some (.int x1), some (.int x2), some (.int x5), some (.int x6), some (.int x5), some (.int x6)] [] (fm_mk S) r) : am_Ev d 94 53 [some (.ref 54), some (.int x1), some (.int x2), some (.int x3), some (.int x4), some (.int x5), some (.int x6)] [] (fm_mk S) r := by
  refine fs_iload (j := 5) (by decide +kernel) rfl ?_
  refine fs_istoren (j := 3) (L' := [some (.ref 54), some (.int x1), some (.int x2), some (.int x5), some (.int x4), some (.int x5), some (.int x6)]) (by decide +kernel) (Nat.le_of_ble_eq_true rfl) rfl ?_
  refine fs_iload (j := 6) (by decide +kernel) rfl ?_
  refine fs_istore (j := 4) (L' := [some (.ref 54), some (.int x1), some (.int x2), some (.int x5), some (.int x6), some (.int x5), some (.int x6)]) (by decide +kernel) (Nat.le_of_ble_eq_true rfl) rfl ?_
  exact nx
theorem b94_60 {d : Nat} {x1 : Int32} {x2 : Int32} {x3 : Int32} {x4 : Int32} {x5 : Int32} {o6 : Option Value} {S : fm_S} {r : Option Value × am_W} (nx : am_Ev d 94 9 [some (.ref 54), some (.int x1), some (.int x2), some (.int x3), some (.int x4), some (.int (x5 + 1)), o6] [] (fm_mk S) r) : am_Ev d 94 60 [some (.ref 54), some (.int x1), some (.int x2), some (.int x3), some (.int x4), some (.int x5), o6] [] (fm_mk S) r := by
  refine fs_iinc (j := 5) (n := 1) (v := 1) (L' := [some (.ref 54), some (.int x1), some (.int x2), some (.int x3), some (.int x4), some (.int (x5 + 1)), o6]) (by decide +kernel) rfl (Nat.le_of_ble_eq_true rfl) (by decide) rfl ?_
  refine fs_goto (off := -54) (tgt := 9) (by decide +kernel) (by decide) ?_
  exact nx
theorem b94_66 {d : Nat} {x1 : Int32} {x2 : Int32} {x3 : Int32} {x4 : Int32} {x5 : Int32} {o6 : Option Value} {S : fm_S}  : am_Ev d 94 66 [some (.ref 54), some (.int x1), some (.int x2), some (.int x3), some (.int x4), some (.int x5), o6] [] (fm_mk S) (some (.int x3), fm_mk S) := by
  refine fs_iloadn (j := 3) (by decide +kernel) rfl ?_
  exact fe_retI (by decide +kernel) (by decide +kernel)
-- KitchenSiege$Cook.opening(III)I
theorem b95_0 {d : Nat} {x1 : Int32} {x2 : Int32} {x3 : Int32} {S : fm_S} {r : Option Value × am_W} (kt : ¬ x1 = (-1) → am_Ev d 95 7 [some (.ref 54), some (.int x1), some (.int x2), some (.int x3)] [] (fm_mk S) r) (kf : x1 = (-1) → am_Ev d 95 5 [some (.ref 54), some (.int x1), some (.int x2), some (.int x3)] [] (fm_mk S) r) : am_Ev d 95 0 [some (.ref 54), some (.int x1), some (.int x2), some (.int x3)] [] (fm_mk S) r := by
  refine fs_iloadn (j := 1) (by decide +kernel) rfl ?_
  refine fs_iconst (n := -1) (v := (-1)) (by decide +kernel) (by decide) ?_
  exact fs_icne (off := 5) (tgt := 7) (by decide +kernel) (by decide) kt kf
theorem b95_5 {d : Nat} {x1 : Int32} {x2 : Int32} {x3 : Int32} {S : fm_S}  : am_Ev d 95 5 [some (.ref 54), some (.int x1), some (.int x2), some (.int x3)] [] (fm_mk S) (some (.int 0), fm_mk S) := by
  refine fs_iconst (n := 0) (v := 0) (by decide +kernel) (by decide) ?_
  exact fe_retI (by decide +kernel) (by decide +kernel)
theorem b95_7 {d : Nat} {x1 : Int32} {x2 : Int32} {x3 : Int32} {v : Int32} {S1 : fm_S} {S : fm_S} {r : Option Value × am_W} (hc : am_Sp d 54 [.ref 1, .int (S.1 17 0)] (fm_mk S) (some (.int v)) (fm_mk S1)) (nx : am_Ev (d + 1) 95 33 [some (.ref 54), some (.int x1), some (.int x2), some (.int x3)] [.int v, .int x1, .ref 1, .ref 56] (fm_mk S1) r) : am_Ev (d + 1) 95 7 [some (.ref 54), some (.int x1), some (.int x2), some (.int x3)] [] (fm_mk S) r := by
  refine fs_aloadn (j := 0) (by decide +kernel) rfl ?_
  refine fe_getR (idx := 18) (t := 1) (f := 3) (fk := 2) (fin := 1) (wp := 253) (x := 56) (by decide +kernel) (by decide +kernel) (by decide +kernel) (by decide +kernel) (by decide +kernel) ?_
  refine fs_aloadn (j := 0) (by decide +kernel) rfl ?_
  refine fe_getR (idx := 41) (t := 1) (f := 2) (fk := 2) (fin := 1) (wp := 252) (x := 1) (by decide +kernel) (by decide +kernel) (by decide +kernel) (by decide +kernel) (by decide +kernel) ?_
  refine fs_iloadn (j := 1) (by decide +kernel) rfl ?_
  refine fs_aloadn (j := 0) (by decide +kernel) rfl ?_
  refine fe_getR (idx := 41) (t := 1) (f := 2) (fk := 2) (fin := 1) (wp := 252) (x := 1) (by decide +kernel) (by decide +kernel) (by decide +kernel) (by decide +kernel) (by decide +kernel) ?_
  refine fs_aloadn (j := 0) (by decide +kernel) rfl ?_
  refine fe_getR (idx := 41) (t := 1) (f := 2) (fk := 2) (fin := 1) (wp := 252) (x := 1) (by decide +kernel) (by decide +kernel) (by decide +kernel) (by decide +kernel) (by decide +kernel) ?_
  refine fe_getR (idx := 101) (t := 6) (f := 12) (fk := 2) (fin := 1) (wp := 190) (x := 17) (by decide +kernel) (by decide +kernel) (by decide +kernel) (by decide +kernel) (by decide +kernel) ?_
  refine fe_getI (idx := 48) (t := 2) (f := 0) (fk := 0) (fin := 0) (wp := 124) (by decide +kernel) (by decide +kernel) (by decide +kernel) (by decide +kernel) ?_
  exact fe_callV (idx := 52) (n := 1) (wp := 599) (q := (600, 601)) (as := [.int (S.1 17 0)]) (rs := [.int x1, .ref 1, .ref 56]) (by decide +kernel) (by decide +kernel) (by decide +kernel) (by decide +kernel) rfl (Nat.le_of_ble_eq_true rfl) rfl hc nx
theorem b95_33 {d : Nat} {x1 : Int32} {x2 : Int32} {x3 : Int32} {sx2 : Int32} {sx3 : Int32} {S1 : fm_S} {S : fm_S} {r : Option Value × am_W} (hc : am_Sp d 57 [.ref 56, .ref 1, .int sx2, .int sx3, .int x2, .int x3] (fm_mk S) (none) (fm_mk S1)) (nx : am_Ev (d + 1) 95 38 [some (.ref 54), some (.int x1), some (.int x2), some (.int x3)] [] (fm_mk S1) r) : am_Ev (d + 1) 95 33 [some (.ref 54), some (.int x1), some (.int x2), some (.int x3)] [.int sx3, .int sx2, .ref 1, .ref 56] (fm_mk S) r := by
  refine fs_iloadn (j := 2) (by decide +kernel) rfl ?_
  refine fs_iloadn (j := 3) (by decide +kernel) rfl ?_
  exact fe_callV (idx := 160) (n := 5) (wp := 773) (q := (611, 612)) (as := [.ref 1, .int sx2, .int sx3, .int x2, .int x3]) (rs := []) (by decide +kernel) (by decide +kernel) (by decide +kernel) (by decide +kernel) rfl (Nat.le_of_ble_eq_true rfl) rfl hc nx
theorem b95_38 {d : Nat} {x1 : Int32} {x2 : Int32} {x3 : Int32} {v : Int32} {S1 : fm_S} {S : fm_S} {r : Option Value × am_W} (hc : am_Sp d 60 [.ref 54, .ref 17, .int x1] (fm_mk S) (some (.int v)) (fm_mk S1)) (nx : am_Ev (d + 1) 95 50 [some (.ref 54), some (.int x1), some (.int x2), some (.int x3)] [.int v] (fm_mk S1) r) : am_Ev (d + 1) 95 38 [some (.ref 54), some (.int x1), some (.int x2), some (.int x3)] [] (fm_mk S) r := by
  refine fs_aloadn (j := 0) (by decide +kernel) rfl ?_
  refine fs_aloadn (j := 0) (by decide +kernel) rfl ?_
  refine fe_getR (idx := 41) (t := 1) (f := 2) (fk := 2) (fin := 1) (wp := 252) (x := 1) (by decide +kernel) (by decide +kernel) (by decide +kernel) (by decide +kernel) (by decide +kernel) ?_
  refine fe_getR (idx := 101) (t := 6) (f := 12) (fk := 2) (fin := 1) (wp := 190) (x := 17) (by decide +kernel) (by decide +kernel) (by decide +kernel) (by decide +kernel) (by decide +kernel) ?_
  refine fs_iloadn (j := 1) (by decide +kernel) rfl ?_
  exact fe_callV (idx := 65) (n := 2) (wp := 624) (q := (626, 18)) (as := [.ref 17, .int x1]) (rs := []) (by decide +kernel) (by decide +kernel) (by decide +kernel) (by decide +kernel) rfl (Nat.le_of_ble_eq_true rfl) rfl hc nx
theorem b95_50 {d : Nat} {x1 : Int32} {x2 : Int32} {x3 : Int32} {sx0 : Int32} {v : Int32} {S1 : fm_S} {S : fm_S} {r : Option Value × am_W} (hc : am_Sp d 92 [.int sx0] (fm_mk S) (some (.int v)) (fm_mk S1)) (nx : am_Ev (d + 1) 95 53 [some (.ref 54), some (.int x1), some (.int x2), some (.int x3)] [.int v] (fm_mk S1) r) : am_Ev (d + 1) 95 50 [some (.ref 54), some (.int x1), some (.int x2), some (.int x3)] [.int sx0] (fm_mk S) r := by
  exact fe_callS (idx := 155) (kd := 0) (n := 1) (wp := 755) (q := (756, 0)) (as := [.int sx0]) (rs := []) (by decide +kernel) (by decide +kernel) (by decide +kernel) (by decide) rfl (Nat.le_of_ble_eq_true rfl) rfl hc nx
theorem b95_53 {d : Nat} {x1 : Int32} {x2 : Int32} {x3 : Int32} {sx0 : Int32} {S : fm_S}  : am_Ev d 95 53 [some (.ref 54), some (.int x1), some (.int x2), some (.int x3)] [.int sx0] (fm_mk S) (some (.int sx0), fm_mk S) := by
  exact fe_retI (by decide +kernel) (by decide +kernel)
-- KitchenSiege$Cook.restingPairs(I)I
theorem b97_0 {d : Nat} {x1 : Int32} {o2 : Option Value} {o3 : Option Value} {o4 : Option Value} {S : fm_S} {r : Option Value × am_W} (nx : am_Ev d 97 2 [some (.ref 54), some (.int x1), some (.int (-1)), o3, o4] [] (fm_mk S) r) : am_Ev d 97 0 [some (.ref 54), some (.int x1), o2, o3, o4] [] (fm_mk S) r := by
  refine fs_iconst (n := -1) (v := (-1)) (by decide +kernel) (by decide) ?_
  refine fs_istoren (j := 2) (L' := [some (.ref 54), some (.int x1), some (.int (-1)), o3, o4]) (by decide +kernel) (Nat.le_of_ble_eq_true rfl) rfl ?_
  exact nx
theorem b97_2 {d : Nat} {x1 : Int32} {x2 : Int32} {o3 : Option Value} {o4 : Option Value} {S : fm_S} {r : Option Value × am_W} (kt : (S.1 1 7) ≤ x2 → am_Ev d 97 55 [some (.ref 54), some (.int x1), some (.int x2), o3, o4] [] (fm_mk S) r) (kf : ¬ (S.1 1 7) ≤ x2 → am_Ev d 97 13 [some (.ref 54), some (.int x1), some (.int x2), o3, o4] [] (fm_mk S) r) : am_Ev d 97 2 [some (.ref 54), some (.int x1), some (.int x2), o3, o4] [] (fm_mk S) r := by
  refine fs_iloadn (j := 2) (by decide +kernel) rfl ?_
  refine fs_aloadn (j := 0) (by decide +kernel) rfl ?_
  refine fe_getR (idx := 41) (t := 1) (f := 2) (fk := 2) (fin := 1) (wp := 252) (x := 1) (by decide +kernel) (by decide +kernel) (by decide +kernel) (by decide +kernel) (by decide +kernel) ?_
  refine fe_getI (idx := 111) (t := 6) (f := 7) (fk := 0) (fin := 0) (wp := 180) (by decide +kernel) (by decide +kernel) (by decide +kernel) (by decide +kernel) ?_
  exact fs_icge (off := 45) (tgt := 55) (by decide +kernel) (by decide) kt kf
theorem b97_13 {d : Nat} {x1 : Int32} {x2 : Int32} {o3 : Option Value} {o4 : Option Value} {S : fm_S} {r : Option Value × am_W} (nx : am_Ev d 97 15 [some (.ref 54), some (.int x1), some (.int x2), some (.int (-1)), o4] [] (fm_mk S) r) : am_Ev d 97 13 [some (.ref 54), some (.int x1), some (.int x2), o3, o4] [] (fm_mk S) r := by
  refine fs_iconst (n := -1) (v := (-1)) (by decide +kernel) (by decide) ?_
  refine fs_istoren (j := 3) (L' := [some (.ref 54), some (.int x1), some (.int x2), some (.int (-1)), o4]) (by decide +kernel) (Nat.le_of_ble_eq_true rfl) rfl ?_
  exact nx
theorem b97_15 {d : Nat} {x1 : Int32} {x2 : Int32} {x3 : Int32} {o4 : Option Value} {S : fm_S} {r : Option Value × am_W} (kt : (S.1 1 0) ≤ x3 → am_Ev d 97 49 [some (.ref 54), some (.int x1), some (.int x2), some (.int x3), o4] [] (fm_mk S) r) (kf : ¬ (S.1 1 0) ≤ x3 → am_Ev d 97 26 [some (.ref 54), some (.int x1), some (.int x2), some (.int x3), o4] [] (fm_mk S) r) : am_Ev d 97 15 [some (.ref 54), some (.int x1), some (.int x2), some (.int x3), o4] [] (fm_mk S) r := by
  refine fs_iloadn (j := 3) (by decide +kernel) rfl ?_
  refine fs_aloadn (j := 0) (by decide +kernel) rfl ?_
  refine fe_getR (idx := 41) (t := 1) (f := 2) (fk := 2) (fin := 1) (wp := 252) (x := 1) (by decide +kernel) (by decide +kernel) (by decide +kernel) (by decide +kernel) (by decide +kernel) ?_
  refine fe_getI (idx := 69) (t := 6) (f := 0) (fk := 0) (fin := 0) (wp := 158) (by decide +kernel) (by decide +kernel) (by decide +kernel) (by decide +kernel) ?_
  exact fs_icge (off := 26) (tgt := 49) (by decide +kernel) (by decide) kt kf
theorem b97_26 {d : Nat} {x1 : Int32} {x2 : Int32} {x3 : Int32} {o4 : Option Value} {v : Int32} {S1 : fm_S} {S : fm_S} {r : Option Value × am_W} (hc : am_Sp d 98 [.int x2, .int x3] (fm_mk S) (some (.int v)) (fm_mk S1)) (nx : am_Ev (d + 1) 97 35 [some (.ref 54), some (.int x1), some (.int x2), some (.int x3), o4] [.int v, .ref 66] (fm_mk S1) r) : am_Ev (d + 1) 97 26 [some (.ref 54), some (.int x1), some (.int x2), some (.int x3), o4] [] (fm_mk S) r := by
  refine fs_aloadn (j := 0) (by decide +kernel) rfl ?_
  refine fe_getR (idx := 38) (t := 1) (f := 8) (fk := 2) (fin := 1) (wp := 258) (x := 66) (by decide +kernel) (by decide +kernel) (by decide +kernel) (by decide +kernel) (by decide +kernel) ?_
  refine fs_iloadn (j := 2) (by decide +kernel) rfl ?_
  refine fs_iloadn (j := 3) (by decide +kernel) rfl ?_
  exact fe_callS (idx := 168) (kd := 0) (n := 2) (wp := 783) (q := (784, 0)) (as := [.int x2, .int x3]) (rs := [.ref 66]) (by decide +kernel) (by decide +kernel) (by decide +kernel) (by decide) rfl (Nat.le_of_ble_eq_true rfl) rfl hc nx
theorem b97_35 {d : Nat} {x1 : Int32} {x2 : Int32} {x3 : Int32} {o4 : Option Value} {sx1 : Int32} {v : Int32} {S1 : fm_S} {S : fm_S} {r : Option Value × am_W} (hc : am_Sp d 95 [.ref 54, .int x2, .int x3, .int x1] (fm_mk S) (some (.int v)) (fm_mk S1)) (nx : am_Ev (d + 1) 97 42 [some (.ref 54), some (.int x1), some (.int x2), some (.int x3), o4] [.int v, .int sx1, .ref 66] (fm_mk S1) r) : am_Ev (d + 1) 97 35 [some (.ref 54), some (.int x1), some (.int x2), some (.int x3), o4] [.int sx1, .ref 66] (fm_mk S) r := by
  refine fs_aloadn (j := 0) (by decide +kernel) rfl ?_
  refine fs_iloadn (j := 2) (by decide +kernel) rfl ?_
  refine fs_iloadn (j := 3) (by decide +kernel) rfl ?_
  refine fs_iloadn (j := 1) (by decide +kernel) rfl ?_
  exact fe_callV (idx := 164) (n := 3) (wp := 769) (q := (770, 771)) (as := [.int x2, .int x3, .int x1]) (rs := [.int sx1, .ref 66]) (by decide +kernel) (by decide +kernel) (by decide +kernel) (by decide +kernel) rfl (Nat.le_of_ble_eq_true rfl) rfl hc nx
theorem b97_42 {d : Nat} {x1 : Int32} {x2 : Int32} {x3 : Int32} {o4 : Option Value} {sx1 : Int32} {sx2 : Int32} {S : fm_S} {r : Option Value × am_W} (hi0 : vp_in sx1 63) (nx : am_Ev d 97 15 [some (.ref 54), some (.int x1), some (.int x2), some (.int (x3 + 1)), o4] [] (fm_mk (fm_wI S 66 sx1.toNatClampNeg sx2)) r) : am_Ev d 97 42 [some (.ref 54), some (.int x1), some (.int x2), some (.int x3), o4] [.int sx2, .int sx1, .ref 66] (fm_mk S) r := by
  refine fx_iast (n := sx1.toNatClampNeg) (len := 63) (by decide +kernel) (by decide +kernel) (by decide +kernel) hi0 rfl ?_
  refine fs_iinc (j := 3) (n := 1) (v := 1) (L' := [some (.ref 54), some (.int x1), some (.int x2), some (.int (x3 + 1)), o4]) (by decide +kernel) rfl (Nat.le_of_ble_eq_true rfl) (by decide) rfl ?_
  refine fs_goto (off := -31) (tgt := 15) (by decide +kernel) (by decide) ?_
  exact nx
theorem b97_49 {d : Nat} {x1 : Int32} {x2 : Int32} {x3 : Int32} {o4 : Option Value} {S : fm_S} {r : Option Value × am_W} (nx : am_Ev d 97 2 [some (.ref 54), some (.int x1), some (.int (x2 + 1)), some (.int x3), o4] [] (fm_mk S) r) : am_Ev d 97 49 [some (.ref 54), some (.int x1), some (.int x2), some (.int x3), o4] [] (fm_mk S) r := by
  refine fs_iinc (j := 2) (n := 1) (v := 1) (L' := [some (.ref 54), some (.int x1), some (.int (x2 + 1)), some (.int x3), o4]) (by decide +kernel) rfl (Nat.le_of_ble_eq_true rfl) (by decide) rfl ?_
  refine fs_goto (off := -50) (tgt := 2) (by decide +kernel) (by decide) ?_
  exact nx
theorem b97_55 {d : Nat} {x1 : Int32} {x2 : Int32} {o3 : Option Value} {o4 : Option Value} {S : fm_S} {r : Option Value × am_W} (nx : am_Ev d 97 59 [some (.ref 54), some (.int x1), some (.int 0), some (.int (-1)), o4] [] (fm_mk S) r) : am_Ev d 97 55 [some (.ref 54), some (.int x1), some (.int x2), o3, o4] [] (fm_mk S) r := by
  refine fs_iconst (n := 0) (v := 0) (by decide +kernel) (by decide) ?_
  refine fs_istoren (j := 2) (L' := [some (.ref 54), some (.int x1), some (.int 0), o3, o4]) (by decide +kernel) (Nat.le_of_ble_eq_true rfl) rfl ?_
  refine fs_iconst (n := -1) (v := (-1)) (by decide +kernel) (by decide) ?_
  refine fs_istoren (j := 3) (L' := [some (.ref 54), some (.int x1), some (.int 0), some (.int (-1)), o4]) (by decide +kernel) (Nat.le_of_ble_eq_true rfl) rfl ?_
  exact nx
theorem b97_59 {d : Nat} {x1 : Int32} {x2 : Int32} {x3 : Int32} {o4 : Option Value} {S : fm_S} {r : Option Value × am_W} (kt : (S.1 1 7) ≤ x3 → am_Ev d 97 110 [some (.ref 54), some (.int x1), some (.int x2), some (.int x3), o4] [] (fm_mk S) r) (kf : ¬ (S.1 1 7) ≤ x3 → am_Ev d 97 70 [some (.ref 54), some (.int x1), some (.int x2), some (.int x3), o4] [] (fm_mk S) r) : am_Ev d 97 59 [some (.ref 54), some (.int x1), some (.int x2), some (.int x3), o4] [] (fm_mk S) r := by
  refine fs_iloadn (j := 3) (by decide +kernel) rfl ?_
  refine fs_aloadn (j := 0) (by decide +kernel) rfl ?_
  refine fe_getR (idx := 41) (t := 1) (f := 2) (fk := 2) (fin := 1) (wp := 252) (x := 1) (by decide +kernel) (by decide +kernel) (by decide +kernel) (by decide +kernel) (by decide +kernel) ?_
  refine fe_getI (idx := 111) (t := 6) (f := 7) (fk := 0) (fin := 0) (wp := 180) (by decide +kernel) (by decide +kernel) (by decide +kernel) (by decide +kernel) ?_
  exact fs_icge (off := 43) (tgt := 110) (by decide +kernel) (by decide) kt kf
theorem b97_70 {d : Nat} {x1 : Int32} {x2 : Int32} {x3 : Int32} {o4 : Option Value} {S : fm_S} {r : Option Value × am_W} (nx : am_Ev d 97 73 [some (.ref 54), some (.int x1), some (.int x2), some (.int x3), some (.int (-1))] [] (fm_mk S) r) : am_Ev d 97 70 [some (.ref 54), some (.int x1), some (.int x2), some (.int x3), o4] [] (fm_mk S) r := by
  refine fs_iconst (n := -1) (v := (-1)) (by decide +kernel) (by decide) ?_
  refine fs_istore (j := 4) (L' := [some (.ref 54), some (.int x1), some (.int x2), some (.int x3), some (.int (-1))]) (by decide +kernel) (Nat.le_of_ble_eq_true rfl) rfl ?_
  exact nx
theorem b97_73 {d : Nat} {x1 : Int32} {x2 : Int32} {x3 : Int32} {x4 : Int32} {S : fm_S} {r : Option Value × am_W} (kt : (S.1 1 0) ≤ x4 → am_Ev d 97 104 [some (.ref 54), some (.int x1), some (.int x2), some (.int x3), some (.int x4)] [] (fm_mk S) r) (kf : ¬ (S.1 1 0) ≤ x4 → am_Ev d 97 85 [some (.ref 54), some (.int x1), some (.int x2), some (.int x3), some (.int x4)] [] (fm_mk S) r) : am_Ev d 97 73 [some (.ref 54), some (.int x1), some (.int x2), some (.int x3), some (.int x4)] [] (fm_mk S) r := by
  refine fs_iload (j := 4) (by decide +kernel) rfl ?_
  refine fs_aloadn (j := 0) (by decide +kernel) rfl ?_
  refine fe_getR (idx := 41) (t := 1) (f := 2) (fk := 2) (fin := 1) (wp := 252) (x := 1) (by decide +kernel) (by decide +kernel) (by decide +kernel) (by decide +kernel) (by decide +kernel) ?_
  refine fe_getI (idx := 69) (t := 6) (f := 0) (fk := 0) (fin := 0) (wp := 158) (by decide +kernel) (by decide +kernel) (by decide +kernel) (by decide +kernel) ?_
  exact fs_icge (off := 22) (tgt := 104) (by decide +kernel) (by decide) kt kf
theorem b97_85 {d : Nat} {x1 : Int32} {x2 : Int32} {x3 : Int32} {x4 : Int32} {v : Int32} {S1 : fm_S} {S : fm_S} {r : Option Value × am_W} (hc : am_Sp d 99 [.ref 54, .int x3, .int x4] (fm_mk S) (some (.int v)) (fm_mk S1)) (nx : am_Ev (d + 1) 97 92 [some (.ref 54), some (.int x1), some (.int x2), some (.int x3), some (.int x4)] [.int v] (fm_mk S1) r) : am_Ev (d + 1) 97 85 [some (.ref 54), some (.int x1), some (.int x2), some (.int x3), some (.int x4)] [] (fm_mk S) r := by
  refine fs_aloadn (j := 0) (by decide +kernel) rfl ?_
  refine fs_iloadn (j := 3) (by decide +kernel) rfl ?_
  refine fs_iload (j := 4) (by decide +kernel) rfl ?_
  exact fe_callV (idx := 171) (n := 2) (wp := 786) (q := (788, 29)) (as := [.int x3, .int x4]) (rs := []) (by decide +kernel) (by decide +kernel) (by decide +kernel) (by decide +kernel) rfl (Nat.le_of_ble_eq_true rfl) rfl hc nx
theorem b97_92 {d : Nat} {x1 : Int32} {x2 : Int32} {x3 : Int32} {x4 : Int32} {sx0 : Int32} {S : fm_S} {r : Option Value × am_W} (kt : sx0 = 0 → am_Ev d 97 98 [some (.ref 54), some (.int x1), some (.int x2), some (.int x3), some (.int x4)] [] (fm_mk S) r) (kf : ¬ sx0 = 0 → am_Ev d 97 95 [some (.ref 54), some (.int x1), some (.int x2), some (.int x3), some (.int x4)] [] (fm_mk S) r) : am_Ev d 97 92 [some (.ref 54), some (.int x1), some (.int x2), some (.int x3), some (.int x4)] [.int sx0] (fm_mk S) r := by
  exact fs_ifeq (off := 6) (tgt := 98) (by decide +kernel) (by decide) kt kf
theorem b97_95 {d : Nat} {x1 : Int32} {x2 : Int32} {x3 : Int32} {x4 : Int32} {S : fm_S} {r : Option Value × am_W} (nx : am_Ev d 97 98 [some (.ref 54), some (.int x1), some (.int (x2 + 1)), some (.int x3), some (.int x4)] [] (fm_mk S) r) : am_Ev d 97 95 [some (.ref 54), some (.int x1), some (.int x2), some (.int x3), some (.int x4)] [] (fm_mk S) r := by
  refine fs_iinc (j := 2) (n := 1) (v := 1) (L' := [some (.ref 54), some (.int x1), some (.int (x2 + 1)), some (.int x3), some (.int x4)]) (by decide +kernel) rfl (Nat.le_of_ble_eq_true rfl) (by decide) rfl ?_
  exact nx
theorem b97_98 {d : Nat} {x1 : Int32} {x2 : Int32} {x3 : Int32} {x4 : Int32} {S : fm_S} {r : Option Value × am_W} (nx : am_Ev d 97 73 [some (.ref 54), some (.int x1), some (.int x2), some (.int x3), some (.int (x4 + 1))] [] (fm_mk S) r) : am_Ev d 97 98 [some (.ref 54), some (.int x1), some (.int x2), some (.int x3), some (.int x4)] [] (fm_mk S) r := by
  refine fs_iinc (j := 4) (n := 1) (v := 1) (L' := [some (.ref 54), some (.int x1), some (.int x2), some (.int x3), some (.int (x4 + 1))]) (by decide +kernel) rfl (Nat.le_of_ble_eq_true rfl) (by decide) rfl ?_
  refine fs_goto (off := -28) (tgt := 73) (by decide +kernel) (by decide) ?_
  exact nx
theorem b97_104 {d : Nat} {x1 : Int32} {x2 : Int32} {x3 : Int32} {x4 : Int32} {S : fm_S} {r : Option Value × am_W} (nx : am_Ev d 97 59 [some (.ref 54), some (.int x1), some (.int x2), some (.int (x3 + 1)), some (.int x4)] [] (fm_mk S) r) : am_Ev d 97 104 [some (.ref 54), some (.int x1), some (.int x2), some (.int x3), some (.int x4)] [] (fm_mk S) r := by
  refine fs_iinc (j := 3) (n := 1) (v := 1) (L' := [some (.ref 54), some (.int x1), some (.int x2), some (.int (x3 + 1)), some (.int x4)]) (by decide +kernel) rfl (Nat.le_of_ble_eq_true rfl) (by decide) rfl ?_
  refine fs_goto (off := -48) (tgt := 59) (by decide +kernel) (by decide) ?_
  exact nx
theorem b97_110 {d : Nat} {x1 : Int32} {x2 : Int32} {x3 : Int32} {o4 : Option Value} {S : fm_S}  : am_Ev d 97 110 [some (.ref 54), some (.int x1), some (.int x2), some (.int x3), o4] [] (fm_mk S) (some (.int x2), fm_mk S) := by
  refine fs_iloadn (j := 2) (by decide +kernel) rfl ?_
  exact fe_retI (by decide +kernel) (by decide +kernel)
-- KitchenSiege$Cook.pair(II)I
theorem b98_0 {d : Nat} {x0 : Int32} {x1 : Int32} {S : fm_S}  : am_Ev d 98 0 [some (.int x0), some (.int x1)] [] (fm_mk S) (some (.int ((((x0 + 1) * 9) + x1) + 1)), fm_mk S) := by
  refine fs_iloadn (j := 0) (by decide +kernel) rfl ?_
  refine fs_iconst (n := 1) (v := 1) (by decide +kernel) (by decide) ?_
  refine fs_iadd (by decide +kernel) ?_
  refine fs_bipush (n := 9) (v := 9) (by decide +kernel) (by decide) ?_
  refine fs_imul (by decide +kernel) ?_
  refine fs_iloadn (j := 1) (by decide +kernel) rfl ?_
  refine fs_iadd (by decide +kernel) ?_
  refine fs_iconst (n := 1) (v := 1) (by decide +kernel) (by decide) ?_
  refine fs_iadd (by decide +kernel) ?_
  exact fe_retI (by decide +kernel) (by decide +kernel)
-- KitchenSiege$Cook.rests(II)Z
theorem b99_0 {d : Nat} {x1 : Int32} {x2 : Int32} {o3 : Option Value} {o4 : Option Value} {v : Int32} {S1 : fm_S} {S : fm_S} {r : Option Value × am_W} (hc : am_Sp d 98 [.int x1, .int x2] (fm_mk S) (some (.int v)) (fm_mk S1)) (nx : am_Ev (d + 1) 99 9 [some (.ref 54), some (.int x1), some (.int x2), o3, o4] [.int v, .ref 66] (fm_mk S1) r) : am_Ev (d + 1) 99 0 [some (.ref 54), some (.int x1), some (.int x2), o3, o4] [] (fm_mk S) r := by
  refine fs_aloadn (j := 0) (by decide +kernel) rfl ?_
  refine fe_getR (idx := 38) (t := 1) (f := 8) (fk := 2) (fin := 1) (wp := 258) (x := 66) (by decide +kernel) (by decide +kernel) (by decide +kernel) (by decide +kernel) (by decide +kernel) ?_
  refine fs_iloadn (j := 1) (by decide +kernel) rfl ?_
  refine fs_iloadn (j := 2) (by decide +kernel) rfl ?_
  exact fe_callS (idx := 168) (kd := 0) (n := 2) (wp := 783) (q := (784, 0)) (as := [.int x1, .int x2]) (rs := [.ref 66]) (by decide +kernel) (by decide +kernel) (by decide +kernel) (by decide) rfl (Nat.le_of_ble_eq_true rfl) rfl hc nx
theorem b99_9 {d : Nat} {x1 : Int32} {x2 : Int32} {o3 : Option Value} {o4 : Option Value} {sx1 : Int32} {S : fm_S} {r : Option Value × am_W} (hi0 : vp_in sx1 63) (nx : am_Ev d 99 14 [some (.ref 54), some (.int x1), some (.int x2), some (.int (S.1 66 sx1.toNatClampNeg)), some (.int (-1))] [] (fm_mk S) r) : am_Ev d 99 9 [some (.ref 54), some (.int x1), some (.int x2), o3, o4] [.int sx1, .ref 66] (fm_mk S) r := by
  refine fx_iald (n := sx1.toNatClampNeg) (len := 63) (by decide +kernel) (by decide +kernel) (by decide +kernel) hi0 rfl ?_
  refine fs_istoren (j := 3) (L' := [some (.ref 54), some (.int x1), some (.int x2), some (.int (S.1 66 sx1.toNatClampNeg)), o4]) (by decide +kernel) (Nat.le_of_ble_eq_true rfl) rfl ?_
  refine fs_iconst (n := -1) (v := (-1)) (by decide +kernel) (by decide) ?_
  refine fs_istore (j := 4) (L' := [some (.ref 54), some (.int x1), some (.int x2), some (.int (S.1 66 sx1.toNatClampNeg)), some (.int (-1))]) (by decide +kernel) (Nat.le_of_ble_eq_true rfl) rfl ?_
  exact nx
theorem b99_14 {d : Nat} {x1 : Int32} {x2 : Int32} {x3 : Int32} {x4 : Int32} {S : fm_S} {r : Option Value × am_W} (kt : (S.1 1 7) ≤ x4 → am_Ev d 99 49 [some (.ref 54), some (.int x1), some (.int x2), some (.int x3), some (.int x4)] [] (fm_mk S) r) (kf : ¬ (S.1 1 7) ≤ x4 → am_Ev d 99 26 [some (.ref 54), some (.int x1), some (.int x2), some (.int x3), some (.int x4)] [] (fm_mk S) r) : am_Ev d 99 14 [some (.ref 54), some (.int x1), some (.int x2), some (.int x3), some (.int x4)] [] (fm_mk S) r := by
  refine fs_iload (j := 4) (by decide +kernel) rfl ?_
  refine fs_aloadn (j := 0) (by decide +kernel) rfl ?_
  refine fe_getR (idx := 41) (t := 1) (f := 2) (fk := 2) (fin := 1) (wp := 252) (x := 1) (by decide +kernel) (by decide +kernel) (by decide +kernel) (by decide +kernel) (by decide +kernel) ?_
  refine fe_getI (idx := 111) (t := 6) (f := 7) (fk := 0) (fin := 0) (wp := 180) (by decide +kernel) (by decide +kernel) (by decide +kernel) (by decide +kernel) ?_
  exact fs_icge (off := 26) (tgt := 49) (by decide +kernel) (by decide) kt kf
theorem b99_26 {d : Nat} {x1 : Int32} {x2 : Int32} {x3 : Int32} {x4 : Int32} {v : Int32} {S1 : fm_S} {S : fm_S} {r : Option Value × am_W} (hc : am_Sp d 98 [.int x4, .int x2] (fm_mk S) (some (.int v)) (fm_mk S1)) (nx : am_Ev (d + 1) 99 36 [some (.ref 54), some (.int x1), some (.int x2), some (.int x3), some (.int x4)] [.int v, .ref 66] (fm_mk S1) r) : am_Ev (d + 1) 99 26 [some (.ref 54), some (.int x1), some (.int x2), some (.int x3), some (.int x4)] [] (fm_mk S) r := by
  refine fs_aloadn (j := 0) (by decide +kernel) rfl ?_
  refine fe_getR (idx := 38) (t := 1) (f := 8) (fk := 2) (fin := 1) (wp := 258) (x := 66) (by decide +kernel) (by decide +kernel) (by decide +kernel) (by decide +kernel) (by decide +kernel) ?_
  refine fs_iload (j := 4) (by decide +kernel) rfl ?_
  refine fs_iloadn (j := 2) (by decide +kernel) rfl ?_
  exact fe_callS (idx := 168) (kd := 0) (n := 2) (wp := 783) (q := (784, 0)) (as := [.int x4, .int x2]) (rs := [.ref 66]) (by decide +kernel) (by decide +kernel) (by decide +kernel) (by decide) rfl (Nat.le_of_ble_eq_true rfl) rfl hc nx
theorem b99_36 {d : Nat} {x1 : Int32} {x2 : Int32} {x3 : Int32} {x4 : Int32} {sx1 : Int32} {S : fm_S} {r : Option Value × am_W} (hi0 : vp_in sx1 63) (kt : (S.1 66 sx1.toNatClampNeg) ≤ x3 → am_Ev d 99 43 [some (.ref 54), some (.int x1), some (.int x2), some (.int x3), some (.int x4)] [] (fm_mk S) r) (kf : ¬ (S.1 66 sx1.toNatClampNeg) ≤ x3 → am_Ev d 99 41 [some (.ref 54), some (.int x1), some (.int x2), some (.int x3), some (.int x4)] [] (fm_mk S) r) : am_Ev d 99 36 [some (.ref 54), some (.int x1), some (.int x2), some (.int x3), some (.int x4)] [.int sx1, .ref 66] (fm_mk S) r := by
  refine fx_iald (n := sx1.toNatClampNeg) (len := 63) (by decide +kernel) (by decide +kernel) (by decide +kernel) hi0 rfl ?_
  refine fs_iloadn (j := 3) (by decide +kernel) rfl ?_
  exact fs_icle (off := 5) (tgt := 43) (by decide +kernel) (by decide) kt kf
theorem b99_41 {d : Nat} {x1 : Int32} {x2 : Int32} {x3 : Int32} {x4 : Int32} {S : fm_S}  : am_Ev d 99 41 [some (.ref 54), some (.int x1), some (.int x2), some (.int x3), some (.int x4)] [] (fm_mk S) (some (.int 0), fm_mk S) := by
  refine fs_iconst (n := 0) (v := 0) (by decide +kernel) (by decide) ?_
  exact fe_retZ (by decide +kernel) (by decide +kernel) (by decide)
theorem b99_43 {d : Nat} {x1 : Int32} {x2 : Int32} {x3 : Int32} {x4 : Int32} {S : fm_S} {r : Option Value × am_W} (nx : am_Ev d 99 14 [some (.ref 54), some (.int x1), some (.int x2), some (.int x3), some (.int (x4 + 1))] [] (fm_mk S) r) : am_Ev d 99 43 [some (.ref 54), some (.int x1), some (.int x2), some (.int x3), some (.int x4)] [] (fm_mk S) r := by
  refine fs_iinc (j := 4) (n := 1) (v := 1) (L' := [some (.ref 54), some (.int x1), some (.int x2), some (.int x3), some (.int (x4 + 1))]) (by decide +kernel) rfl (Nat.le_of_ble_eq_true rfl) (by decide) rfl ?_
  refine fs_goto (off := -32) (tgt := 14) (by decide +kernel) (by decide) ?_
  exact nx
theorem b99_49 {d : Nat} {x1 : Int32} {x2 : Int32} {x3 : Int32} {x4 : Int32} {S : fm_S} {r : Option Value × am_W} (nx : am_Ev d 99 52 [some (.ref 54), some (.int x1), some (.int x2), some (.int x3), some (.int (-1))] [] (fm_mk S) r) : am_Ev d 99 49 [some (.ref 54), some (.int x1), some (.int x2), some (.int x3), some (.int x4)] [] (fm_mk S) r := by
  refine fs_iconst (n := -1) (v := (-1)) (by decide +kernel) (by decide) ?_
  refine fs_istore (j := 4) (L' := [some (.ref 54), some (.int x1), some (.int x2), some (.int x3), some (.int (-1))]) (by decide +kernel) (Nat.le_of_ble_eq_true rfl) rfl ?_
  exact nx
theorem b99_52 {d : Nat} {x1 : Int32} {x2 : Int32} {x3 : Int32} {x4 : Int32} {S : fm_S} {r : Option Value × am_W} (kt : (S.1 1 0) ≤ x4 → am_Ev d 99 87 [some (.ref 54), some (.int x1), some (.int x2), some (.int x3), some (.int x4)] [] (fm_mk S) r) (kf : ¬ (S.1 1 0) ≤ x4 → am_Ev d 99 64 [some (.ref 54), some (.int x1), some (.int x2), some (.int x3), some (.int x4)] [] (fm_mk S) r) : am_Ev d 99 52 [some (.ref 54), some (.int x1), some (.int x2), some (.int x3), some (.int x4)] [] (fm_mk S) r := by
  refine fs_iload (j := 4) (by decide +kernel) rfl ?_
  refine fs_aloadn (j := 0) (by decide +kernel) rfl ?_
  refine fe_getR (idx := 41) (t := 1) (f := 2) (fk := 2) (fin := 1) (wp := 252) (x := 1) (by decide +kernel) (by decide +kernel) (by decide +kernel) (by decide +kernel) (by decide +kernel) ?_
  refine fe_getI (idx := 69) (t := 6) (f := 0) (fk := 0) (fin := 0) (wp := 158) (by decide +kernel) (by decide +kernel) (by decide +kernel) (by decide +kernel) ?_
  exact fs_icge (off := 26) (tgt := 87) (by decide +kernel) (by decide) kt kf
theorem b99_64 {d : Nat} {x1 : Int32} {x2 : Int32} {x3 : Int32} {x4 : Int32} {v : Int32} {S1 : fm_S} {S : fm_S} {r : Option Value × am_W} (hc : am_Sp d 98 [.int x1, .int x4] (fm_mk S) (some (.int v)) (fm_mk S1)) (nx : am_Ev (d + 1) 99 74 [some (.ref 54), some (.int x1), some (.int x2), some (.int x3), some (.int x4)] [.int v, .ref 66] (fm_mk S1) r) : am_Ev (d + 1) 99 64 [some (.ref 54), some (.int x1), some (.int x2), some (.int x3), some (.int x4)] [] (fm_mk S) r := by
  refine fs_aloadn (j := 0) (by decide +kernel) rfl ?_
  refine fe_getR (idx := 38) (t := 1) (f := 8) (fk := 2) (fin := 1) (wp := 258) (x := 66) (by decide +kernel) (by decide +kernel) (by decide +kernel) (by decide +kernel) (by decide +kernel) ?_
  refine fs_iloadn (j := 1) (by decide +kernel) rfl ?_
  refine fs_iload (j := 4) (by decide +kernel) rfl ?_
  exact fe_callS (idx := 168) (kd := 0) (n := 2) (wp := 783) (q := (784, 0)) (as := [.int x1, .int x4]) (rs := [.ref 66]) (by decide +kernel) (by decide +kernel) (by decide +kernel) (by decide) rfl (Nat.le_of_ble_eq_true rfl) rfl hc nx
theorem b99_74 {d : Nat} {x1 : Int32} {x2 : Int32} {x3 : Int32} {x4 : Int32} {sx1 : Int32} {S : fm_S} {r : Option Value × am_W} (hi0 : vp_in sx1 63) (kt : x3 ≤ (S.1 66 sx1.toNatClampNeg) → am_Ev d 99 81 [some (.ref 54), some (.int x1), some (.int x2), some (.int x3), some (.int x4)] [] (fm_mk S) r) (kf : ¬ x3 ≤ (S.1 66 sx1.toNatClampNeg) → am_Ev d 99 79 [some (.ref 54), some (.int x1), some (.int x2), some (.int x3), some (.int x4)] [] (fm_mk S) r) : am_Ev d 99 74 [some (.ref 54), some (.int x1), some (.int x2), some (.int x3), some (.int x4)] [.int sx1, .ref 66] (fm_mk S) r := by
  refine fx_iald (n := sx1.toNatClampNeg) (len := 63) (by decide +kernel) (by decide +kernel) (by decide +kernel) hi0 rfl ?_
  refine fs_iloadn (j := 3) (by decide +kernel) rfl ?_
  exact fs_icge (off := 5) (tgt := 81) (by decide +kernel) (by decide) kt kf
theorem b99_79 {d : Nat} {x1 : Int32} {x2 : Int32} {x3 : Int32} {x4 : Int32} {S : fm_S}  : am_Ev d 99 79 [some (.ref 54), some (.int x1), some (.int x2), some (.int x3), some (.int x4)] [] (fm_mk S) (some (.int 0), fm_mk S) := by
  refine fs_iconst (n := 0) (v := 0) (by decide +kernel) (by decide) ?_
  exact fe_retZ (by decide +kernel) (by decide +kernel) (by decide)
theorem b99_81 {d : Nat} {x1 : Int32} {x2 : Int32} {x3 : Int32} {x4 : Int32} {S : fm_S} {r : Option Value × am_W} (nx : am_Ev d 99 52 [some (.ref 54), some (.int x1), some (.int x2), some (.int x3), some (.int (x4 + 1))] [] (fm_mk S) r) : am_Ev d 99 81 [some (.ref 54), some (.int x1), some (.int x2), some (.int x3), some (.int x4)] [] (fm_mk S) r := by
  refine fs_iinc (j := 4) (n := 1) (v := 1) (L' := [some (.ref 54), some (.int x1), some (.int x2), some (.int x3), some (.int (x4 + 1))]) (by decide +kernel) rfl (Nat.le_of_ble_eq_true rfl) (by decide) rfl ?_
  refine fs_goto (off := -32) (tgt := 52) (by decide +kernel) (by decide) ?_
  exact nx
theorem b99_87 {d : Nat} {x1 : Int32} {x2 : Int32} {x3 : Int32} {x4 : Int32} {S : fm_S}  : am_Ev d 99 87 [some (.ref 54), some (.int x1), some (.int x2), some (.int x3), some (.int x4)] [] (fm_mk S) (some (.int 1), fm_mk S) := by
  refine fs_iconst (n := 1) (v := 1) (by decide +kernel) (by decide) ?_
  exact fe_retZ (by decide +kernel) (by decide +kernel) (by decide)
-- KitchenSiege$Cook.openAfter(II)I
theorem b118_0 {d : Nat} {x1 : Int32} {x2 : Int32} {o3 : Option Value} {o4 : Option Value} {o5 : Option Value} {o6 : Option Value} {S1 : fm_S} {S : fm_S} {r : Option Value × am_W} (hc : am_Sp d 48 [.ref 59, .ref 17] (fm_mk S) (none) (fm_mk S1)) (nx : am_Ev (d + 1) 118 14 [some (.ref 54), some (.int x1), some (.int x2), o3, o4, o5, o6] [] (fm_mk S1) r) : am_Ev (d + 1) 118 0 [some (.ref 54), some (.int x1), some (.int x2), o3, o4, o5, o6] [] (fm_mk S) r := by
  refine fs_aloadn (j := 0) (by decide +kernel) rfl ?_
  refine fe_getR (idx := 25) (t := 1) (f := 4) (fk := 2) (fin := 1) (wp := 254) (x := 59) (by decide +kernel) (by decide +kernel) (by decide +kernel) (by decide +kernel) (by decide +kernel) ?_
  refine fs_aloadn (j := 0) (by decide +kernel) rfl ?_
  refine fe_getR (idx := 41) (t := 1) (f := 2) (fk := 2) (fin := 1) (wp := 252) (x := 1) (by decide +kernel) (by decide +kernel) (by decide +kernel) (by decide +kernel) (by decide +kernel) ?_
  refine fe_getR (idx := 101) (t := 6) (f := 12) (fk := 2) (fin := 1) (wp := 190) (x := 17) (by decide +kernel) (by decide +kernel) (by decide +kernel) (by decide +kernel) (by decide +kernel) ?_
  exact fe_callV (idx := 174) (n := 1) (wp := 866) (q := (574, 575)) (as := [.ref 17]) (rs := []) (by decide +kernel) (by decide +kernel) (by decide +kernel) (by decide +kernel) rfl (Nat.le_of_ble_eq_true rfl) rfl hc nx
theorem b118_14 {d : Nat} {x1 : Int32} {x2 : Int32} {o3 : Option Value} {o4 : Option Value} {o5 : Option Value} {o6 : Option Value} {S : fm_S} {r : Option Value × am_W} (nx : am_Ev d 118 20 [some (.ref 54), some (.int x1), some (.int x2), some (.long x1.toInt64), none, some (.int 0), o6] [] (fm_mk S) r) : am_Ev d 118 14 [some (.ref 54), some (.int x1), some (.int x2), o3, o4, o5, o6] [] (fm_mk S) r := by
  refine fs_iloadn (j := 1) (by decide +kernel) rfl ?_
  refine fs_i2l (by decide +kernel) ?_
  refine fs_lstoren (j := 3) (L' := [some (.ref 54), some (.int x1), some (.int x2), some (.long x1.toInt64), none, o5, o6]) (by decide +kernel) (Nat.le_of_ble_eq_true rfl) rfl ?_
  refine fs_iconst (n := 0) (v := 0) (by decide +kernel) (by decide) ?_
  refine fs_istore (j := 5) (L' := [some (.ref 54), some (.int x1), some (.int x2), some (.long x1.toInt64), none, some (.int 0), o6]) (by decide +kernel) (Nat.le_of_ble_eq_true rfl) rfl ?_
  exact nx
theorem b118_20 {d : Nat} {x1 : Int32} {x2 : Int32} {y3 : Int64} {x5 : Int32} {o6 : Option Value} {S : fm_S} {r : Option Value × am_W} (kt : x2 ≤ x5 → am_Ev d 118 85 [some (.ref 54), some (.int x1), some (.int x2), some (.long y3), none, some (.int x5), o6] [] (fm_mk S) r) (kf : ¬ x2 ≤ x5 → am_Ev d 118 26 [some (.ref 54), some (.int x1), some (.int x2), some (.long y3), none, some (.int x5), o6] [] (fm_mk S) r) : am_Ev d 118 20 [some (.ref 54), some (.int x1), some (.int x2), some (.long y3), none, some (.int x5), o6] [] (fm_mk S) r := by
  refine fs_iload (j := 5) (by decide +kernel) rfl ?_
  refine fs_iloadn (j := 2) (by decide +kernel) rfl ?_
  exact fs_icge (off := 62) (tgt := 85) (by decide +kernel) (by decide) kt kf
theorem b118_26 {d : Nat} {x1 : Int32} {x2 : Int32} {y3 : Int64} {x5 : Int32} {o6 : Option Value} {S : fm_S} {r : Option Value × am_W} (kt : (S.1 1 7) ≤ ((((((y3 * 1103515245) + 12345) - ((y3 * 1103515245) + 12345) / 2147483648 * 2147483648) / 65536) - ((((y3 * 1103515245) + 12345) - ((y3 * 1103515245) + 12345) / 2147483648 * 2147483648) / 65536) / 7 * 7).toInt32) → am_Ev d 118 74 [some (.ref 54), some (.int x1), some (.int x2), some (.long (((y3 * 1103515245) + 12345) - ((y3 * 1103515245) + 12345) / 2147483648 * 2147483648)), none, some (.int x5), some (.int ((((((y3 * 1103515245) + 12345) - ((y3 * 1103515245) + 12345) / 2147483648 * 2147483648) / 65536) - ((((y3 * 1103515245) + 12345) - ((y3 * 1103515245) + 12345) / 2147483648 * 2147483648) / 65536) / 7 * 7).toInt32))] [.ref 59, .ref 54] (fm_mk S) r) (kf : ¬ (S.1 1 7) ≤ ((((((y3 * 1103515245) + 12345) - ((y3 * 1103515245) + 12345) / 2147483648 * 2147483648) / 65536) - ((((y3 * 1103515245) + 12345) - ((y3 * 1103515245) + 12345) / 2147483648 * 2147483648) / 65536) / 7 * 7).toInt32) → am_Ev d 118 69 [some (.ref 54), some (.int x1), some (.int x2), some (.long (((y3 * 1103515245) + 12345) - ((y3 * 1103515245) + 12345) / 2147483648 * 2147483648)), none, some (.int x5), some (.int ((((((y3 * 1103515245) + 12345) - ((y3 * 1103515245) + 12345) / 2147483648 * 2147483648) / 65536) - ((((y3 * 1103515245) + 12345) - ((y3 * 1103515245) + 12345) / 2147483648 * 2147483648) / 65536) / 7 * 7).toInt32))] [.ref 59, .ref 54] (fm_mk S) r) : am_Ev d 118 26 [some (.ref 54), some (.int x1), some (.int x2), some (.long y3), none, some (.int x5), o6] [] (fm_mk S) r := by
  refine fs_lloadn (j := 3) (by decide +kernel) rfl ?_
  refine fs_ldc2 (idx := 178) (q := 867) (v := 1103515245) (by decide +kernel) (by decide +kernel) ?_
  refine fs_lmul (by decide +kernel) ?_
  refine fs_ldc2 (idx := 180) (q := 868) (v := 12345) (by decide +kernel) (by decide +kernel) ?_
  refine fs_ladd (by decide +kernel) ?_
  refine fs_ldc2 (idx := 182) (q := 869) (v := 2147483648) (by decide +kernel) (by decide +kernel) ?_
  refine fe_lrem (by decide +kernel) (by decide) ?_
  refine fs_lstoren (j := 3) (L' := [some (.ref 54), some (.int x1), some (.int x2), some (.long (((y3 * 1103515245) + 12345) - ((y3 * 1103515245) + 12345) / 2147483648 * 2147483648)), none, some (.int x5), o6]) (by decide +kernel) (Nat.le_of_ble_eq_true rfl) rfl ?_
  refine fs_lloadn (j := 3) (by decide +kernel) rfl ?_
  refine fs_ldc2 (idx := 184) (q := 870) (v := 65536) (by decide +kernel) (by decide +kernel) ?_
  refine fe_ldiv (by decide +kernel) (by decide) ?_
  refine fs_ldc2 (idx := 186) (q := 871) (v := 7) (by decide +kernel) (by decide +kernel) ?_
  refine fe_lrem (by decide +kernel) (by decide) ?_
  refine fs_l2i (by decide +kernel) ?_
  refine fs_istore (j := 6) (L' := [some (.ref 54), some (.int x1), some (.int x2), some (.long (((y3 * 1103515245) + 12345) - ((y3 * 1103515245) + 12345) / 2147483648 * 2147483648)), none, some (.int x5), some (.int ((((((y3 * 1103515245) + 12345) - ((y3 * 1103515245) + 12345) / 2147483648 * 2147483648) / 65536) - ((((y3 * 1103515245) + 12345) - ((y3 * 1103515245) + 12345) / 2147483648 * 2147483648) / 65536) / 7 * 7).toInt32))]) (by decide +kernel) (Nat.le_of_ble_eq_true rfl) rfl ?_
  refine fs_aloadn (j := 0) (by decide +kernel) rfl ?_
  refine fs_aloadn (j := 0) (by decide +kernel) rfl ?_
  refine fe_getR (idx := 25) (t := 1) (f := 4) (fk := 2) (fin := 1) (wp := 254) (x := 59) (by decide +kernel) (by decide +kernel) (by decide +kernel) (by decide +kernel) (by decide +kernel) ?_
  refine fs_iload (j := 6) (by decide +kernel) rfl ?_
  refine fs_aloadn (j := 0) (by decide +kernel) rfl ?_
  refine fe_getR (idx := 41) (t := 1) (f := 2) (fk := 2) (fin := 1) (wp := 252) (x := 1) (by decide +kernel) (by decide +kernel) (by decide +kernel) (by decide +kernel) (by decide +kernel) ?_
  refine fe_getI (idx := 111) (t := 6) (f := 7) (fk := 0) (fin := 0) (wp := 180) (by decide +kernel) (by decide +kernel) (by decide +kernel) (by decide +kernel) ?_
  exact fs_icge (off := 8) (tgt := 74) (by decide +kernel) (by decide) kt kf
theorem b118_69 {d : Nat} {x1 : Int32} {x2 : Int32} {y3 : Int64} {x5 : Int32} {x6 : Int32} {S : fm_S} {r : Option Value × am_W} (nx : am_Ev d 118 75 [some (.ref 54), some (.int x1), some (.int x2), some (.long y3), none, some (.int x5), some (.int x6)] [.int x6, .ref 59, .ref 54] (fm_mk S) r) : am_Ev d 118 69 [some (.ref 54), some (.int x1), some (.int x2), some (.long y3), none, some (.int x5), some (.int x6)] [.ref 59, .ref 54] (fm_mk S) r := by
  refine fs_iload (j := 6) (by decide +kernel) rfl ?_
  refine fs_goto (off := 4) (tgt := 75) (by decide +kernel) (by decide) ?_
  exact nx
theorem b118_74 {d : Nat} {x1 : Int32} {x2 : Int32} {y3 : Int64} {x5 : Int32} {x6 : Int32} {S : fm_S} {r : Option Value × am_W} (nx : am_Ev d 118 75 [some (.ref 54), some (.int x1), some (.int x2), some (.long y3), none, some (.int x5), some (.int x6)] [.int (-1), .ref 59, .ref 54] (fm_mk S) r) : am_Ev d 118 74 [some (.ref 54), some (.int x1), some (.int x2), some (.long y3), none, some (.int x5), some (.int x6)] [.ref 59, .ref 54] (fm_mk S) r := by
  refine fs_iconst (n := -1) (v := (-1)) (by decide +kernel) (by decide) ?_
  exact nx
theorem b118_75 {d : Nat} {x1 : Int32} {x2 : Int32} {y3 : Int64} {x5 : Int32} {x6 : Int32} {sx2 : Int32} {v : Int32} {S1 : fm_S} {S : fm_S} {r : Option Value × am_W} (hc : am_Sp d 52 [.ref 54, .ref 59, .int sx2] (fm_mk S) (some (.int v)) (fm_mk S1)) (nx : am_Ev (d + 1) 118 78 [some (.ref 54), some (.int x1), some (.int x2), some (.long y3), none, some (.int x5), some (.int x6)] [.int v] (fm_mk S1) r) : am_Ev (d + 1) 118 75 [some (.ref 54), some (.int x1), some (.int x2), some (.long y3), none, some (.int x5), some (.int x6)] [.int sx2, .ref 59, .ref 54] (fm_mk S) r := by
  exact fe_callV (idx := 188) (n := 2) (wp := 872) (q := (592, 593)) (as := [.ref 59, .int sx2]) (rs := []) (by decide +kernel) (by decide +kernel) (by decide +kernel) (by decide +kernel) rfl (Nat.le_of_ble_eq_true rfl) rfl hc nx
theorem b118_78 {d : Nat} {x1 : Int32} {x2 : Int32} {y3 : Int64} {x5 : Int32} {x6 : Int32} {sx0 : Int32} {S : fm_S} {r : Option Value × am_W} (nx : am_Ev d 118 20 [some (.ref 54), some (.int x1), some (.int x2), some (.long y3), none, some (.int (x5 + 1)), some (.int x6)] [] (fm_mk S) r) : am_Ev d 118 78 [some (.ref 54), some (.int x1), some (.int x2), some (.long y3), none, some (.int x5), some (.int x6)] [.int sx0] (fm_mk S) r := by
  refine fs_pop (by decide +kernel) rfl ?_
  refine fs_iinc (j := 5) (n := 1) (v := 1) (L' := [some (.ref 54), some (.int x1), some (.int x2), some (.long y3), none, some (.int (x5 + 1)), some (.int x6)]) (by decide +kernel) rfl (Nat.le_of_ble_eq_true rfl) (by decide) rfl ?_
  refine fs_goto (off := -62) (tgt := 20) (by decide +kernel) (by decide) ?_
  exact nx
theorem b118_85 {d : Nat} {x1 : Int32} {x2 : Int32} {y3 : Int64} {x5 : Int32} {o6 : Option Value} {v : Int32} {S1 : fm_S} {S : fm_S} {r : Option Value × am_W} (hc : am_Sp d 119 [.ref 59, .int (S.1 1 0)] (fm_mk S) (some (.int v)) (fm_mk S1)) (nx : am_Ev (d + 1) 118 99 [some (.ref 54), some (.int x1), some (.int x2), some (.long y3), none, some (.int x5), o6] [.int v] (fm_mk S1) r) : am_Ev (d + 1) 118 85 [some (.ref 54), some (.int x1), some (.int x2), some (.long y3), none, some (.int x5), o6] [] (fm_mk S) r := by
  refine fs_aloadn (j := 0) (by decide +kernel) rfl ?_
  refine fe_getR (idx := 25) (t := 1) (f := 4) (fk := 2) (fin := 1) (wp := 254) (x := 59) (by decide +kernel) (by decide +kernel) (by decide +kernel) (by decide +kernel) (by decide +kernel) ?_
  refine fs_aloadn (j := 0) (by decide +kernel) rfl ?_
  refine fe_getR (idx := 41) (t := 1) (f := 2) (fk := 2) (fin := 1) (wp := 252) (x := 1) (by decide +kernel) (by decide +kernel) (by decide +kernel) (by decide +kernel) (by decide +kernel) ?_
  refine fe_getI (idx := 69) (t := 6) (f := 0) (fk := 0) (fin := 0) (wp := 158) (by decide +kernel) (by decide +kernel) (by decide +kernel) (by decide +kernel) ?_
  exact fe_callV (idx := 191) (n := 1) (wp := 873) (q := (874, 875)) (as := [.int (S.1 1 0)]) (rs := []) (by decide +kernel) (by decide +kernel) (by decide +kernel) (by decide +kernel) rfl (Nat.le_of_ble_eq_true rfl) rfl hc nx
theorem b118_99 {d : Nat} {x1 : Int32} {x2 : Int32} {y3 : Int64} {x5 : Int32} {o6 : Option Value} {sx0 : Int32} {S : fm_S}  : am_Ev d 118 99 [some (.ref 54), some (.int x1), some (.int x2), some (.long y3), none, some (.int x5), o6] [.int sx0] (fm_mk S) (some (.int sx0), fm_mk S) := by
  exact fe_retI (by decide +kernel) (by decide +kernel)
