/-! basic blocks: printed by wip/whole/gen13.py -/
-- KitchenSiege$Reader.put(I)I
theorem b_Reader_put_0 {d : Nat} {x1 : Int32} {S : fm_S} {r : Option Value × am_W} (kt : (S.1 67 0) < 150 → am_Ev d k_Reader_put 12 [some (.ref 67), some (.int x1)] [] (fm_mk S) r) (kf : ¬ (S.1 67 0) < 150 → am_Ev d k_Reader_put 10 [some (.ref 67), some (.int x1)] [] (fm_mk S) r) : am_Ev d k_Reader_put 0 [some (.ref 67), some (.int x1)] [] (fm_mk S) r := by
  refine fs_aloadn (j := 0) (by decide +kernel) rfl ?_
  refine fe_getI (idx := 22) (t := 5) (f := 0) (fk := 0) (fin := 0) (wp := 285) (by decide +kernel) (by decide +kernel) (by decide +kernel) (by decide +kernel) ?_
  refine fs_sipush (n := 150) (v := 150) (by decide +kernel) (by decide) ?_
  exact fs_iclt (off := 5) (tgt := 12) (by decide +kernel) (by decide) kt kf
theorem b_Reader_put_10 {d : Nat} {x1 : Int32} {S : fm_S}  : am_Ev d k_Reader_put 10 [some (.ref 67), some (.int x1)] [] (fm_mk S) (some (.int (-1)), fm_mk S) := by
  refine fs_iconst (n := -1) (v := (-1)) (by decide +kernel) (by decide) ?_
  exact fe_retI (by decide +kernel) (by decide +kernel)
theorem b_Reader_put_12 {d : Nat} {x1 : Int32} {S : fm_S}  (hi0 : vp_in (S.1 67 0) 150) : am_Ev d k_Reader_put 12 [some (.ref 67), some (.int x1)] [] (fm_mk S) (some (.int ((fm_wI (fm_wI S 121 ((S.1 67 0).toNatClampNeg) x1) 67 0 (((fm_wI S 121 ((S.1 67 0).toNatClampNeg) x1).1 67 0) + 1)).1 67 0)), fm_mk (fm_wI (fm_wI S 121 ((S.1 67 0).toNatClampNeg) x1) 67 0 (((fm_wI S 121 ((S.1 67 0).toNatClampNeg) x1).1 67 0) + 1))) := by
  refine fs_aloadn (j := 0) (by decide +kernel) rfl ?_
  refine fe_getR (idx := 18) (t := 5) (f := 3) (fk := 2) (fin := 1) (wp := 291) (x := 121) (by decide +kernel) (by decide +kernel) (by decide +kernel) (by decide +kernel) (by decide +kernel) ?_
  refine fs_aloadn (j := 0) (by decide +kernel) rfl ?_
  refine fe_getI (idx := 22) (t := 5) (f := 0) (fk := 0) (fin := 0) (wp := 285) (by decide +kernel) (by decide +kernel) (by decide +kernel) (by decide +kernel) ?_
  refine fs_iloadn (j := 1) (by decide +kernel) rfl ?_
  refine fx_iast (n := (S.1 67 0).toNatClampNeg) (len := 150) (by decide +kernel) (by decide +kernel) (by decide +kernel) hi0 rfl ?_
  refine fs_aloadn (j := 0) (by decide +kernel) rfl ?_
  refine fs_dup (by decide +kernel) rfl ?_
  refine fe_getI (idx := 22) (t := 5) (f := 0) (fk := 0) (fin := 0) (wp := 285) (by decide +kernel) (by decide +kernel) (by decide +kernel) (by decide +kernel) ?_
  refine fs_iconst (n := 1) (v := 1) (by decide +kernel) (by decide) ?_
  refine fs_iadd (by decide +kernel) ?_
  refine fe_putI (idx := 22) (t := 5) (f := 0) (wp := 285) (by decide +kernel) (by decide +kernel) (by decide +kernel) (by decide +kernel) ?_
  refine fs_aloadn (j := 0) (by decide +kernel) rfl ?_
  refine fe_getI (idx := 22) (t := 5) (f := 0) (fk := 0) (fin := 0) (wp := 285) (by decide +kernel) (by decide +kernel) (by decide +kernel) (by decide +kernel) ?_
  exact fe_retI (by decide +kernel) (by decide +kernel)
-- KitchenSiege$Reader.parse()I
theorem b_Reader_parse_0 {d : Nat} {o1 : Option Value} {S1 : fm_S} {S : fm_S} {r : Option Value × am_W} (hc : am_Sp d k_Town_begin [.ref 68] (fm_mk S) (none) (fm_mk S1)) (nx : am_Ev (d + 1) k_Reader_parse 7 [some (.ref 67), o1] [] (fm_mk S1) r) : am_Ev (d + 1) k_Reader_parse 0 [some (.ref 67), o1] [] (fm_mk S) r := by
  refine fs_aloadn (j := 0) (by decide +kernel) rfl ?_
  refine fe_getR (idx := 12) (t := 5) (f := 2) (fk := 2) (fin := 1) (wp := 289) (x := 68) (by decide +kernel) (by decide +kernel) (by decide +kernel) (by decide +kernel) (by decide +kernel) ?_
  exact fe_callV (t := 6) (idx := 26) (n := 0) (wp := 447) (q := (149, 150)) (as := []) (rs := []) (by decide +kernel) (by decide +kernel) (by decide +kernel) (by decide +kernel) rfl (Nat.le_of_ble_eq_true rfl) rfl hc nx
theorem b_Reader_parse_7 {d : Nat} {o1 : Option Value} {S1 : fm_S} {S : fm_S} {r : Option Value × am_W} (hc : am_Sp d k_Reader_take [.ref 67] (fm_mk (fm_wI (fm_wI (fm_wI S 67 1 0) 67 5 0) 67 4 (-1))) (none) (fm_mk S1)) (nx : am_Ev (d + 1) k_Reader_parse 26 [some (.ref 67), o1] [] (fm_mk S1) r) : am_Ev (d + 1) k_Reader_parse 7 [some (.ref 67), o1] [] (fm_mk S) r := by
  refine fs_aloadn (j := 0) (by decide +kernel) rfl ?_
  refine fs_iconst (n := 0) (v := 0) (by decide +kernel) (by decide) ?_
  refine fe_putI (idx := 29) (t := 5) (f := 1) (wp := 287) (by decide +kernel) (by decide +kernel) (by decide +kernel) (by decide +kernel) ?_
  refine fs_aloadn (j := 0) (by decide +kernel) rfl ?_
  refine fs_iconst (n := 0) (v := 0) (by decide +kernel) (by decide) ?_
  refine fe_putI (idx := 32) (t := 5) (f := 5) (wp := 293) (by decide +kernel) (by decide +kernel) (by decide +kernel) (by decide +kernel) ?_
  refine fs_aloadn (j := 0) (by decide +kernel) rfl ?_
  refine fs_iconst (n := -1) (v := (-1)) (by decide +kernel) (by decide) ?_
  refine fe_putI (idx := 35) (t := 5) (f := 4) (wp := 292) (by decide +kernel) (by decide +kernel) (by decide +kernel) (by decide +kernel) ?_
  refine fs_aloadn (j := 0) (by decide +kernel) rfl ?_
  exact fe_callV (t := 5) (idx := 38) (n := 0) (wp := 448) (q := (450, 4)) (as := []) (rs := []) (by decide +kernel) (by decide +kernel) (by decide +kernel) (by decide +kernel) rfl (Nat.le_of_ble_eq_true rfl) rfl hc nx
theorem b_Reader_parse_26 {d : Nat} {o1 : Option Value} {S : fm_S} {r : Option Value × am_W} (kt : ¬ (S.1 67 7) = 0 → am_Ev d k_Reader_parse 41 [some (.ref 67), o1] [] (fm_mk S) r) (kf : (S.1 67 7) = 0 → am_Ev d k_Reader_parse 33 [some (.ref 67), o1] [] (fm_mk S) r) : am_Ev d k_Reader_parse 26 [some (.ref 67), o1] [] (fm_mk S) r := by
  refine fs_aloadn (j := 0) (by decide +kernel) rfl ?_
  refine fe_getI (idx := 41) (t := 5) (f := 7) (fk := 0) (fin := 0) (wp := 295) (by decide +kernel) (by decide +kernel) (by decide +kernel) (by decide +kernel) ?_
  exact fs_ifne (off := 11) (tgt := 41) (by decide +kernel) (by decide) kt kf
theorem b_Reader_parse_33 {d : Nat} {o1 : Option Value} {S : fm_S} {r : Option Value × am_W} (nx : am_Ev d k_Reader_parse 41 [some (.ref 67), o1] [] (fm_mk (fm_wI S 67 4 (S.1 67 6))) r) : am_Ev d k_Reader_parse 33 [some (.ref 67), o1] [] (fm_mk S) r := by
  refine fs_aloadn (j := 0) (by decide +kernel) rfl ?_
  refine fs_aloadn (j := 0) (by decide +kernel) rfl ?_
  refine fe_getI (idx := 44) (t := 5) (f := 6) (fk := 0) (fin := 0) (wp := 294) (by decide +kernel) (by decide +kernel) (by decide +kernel) (by decide +kernel) ?_
  refine fe_putI (idx := 35) (t := 5) (f := 4) (wp := 292) (by decide +kernel) (by decide +kernel) (by decide +kernel) (by decide +kernel) ?_
  exact nx
theorem b_Reader_parse_41 {d : Nat} {o1 : Option Value} {S : fm_S} {r : Option Value × am_W} (nx : am_Ev d k_Reader_parse 43 [some (.ref 67), some (.int 0)] [] (fm_mk S) r) : am_Ev d k_Reader_parse 41 [some (.ref 67), o1] [] (fm_mk S) r := by
  refine fs_iconst (n := 0) (v := 0) (by decide +kernel) (by decide) ?_
  refine fs_istoren (j := 1) (L' := [some (.ref 67), some (.int 0)]) (by decide +kernel) (Nat.le_of_ble_eq_true rfl) rfl ?_
  exact nx
theorem b_Reader_parse_43 {d : Nat} {x1 : Int32} {S : fm_S} {r : Option Value × am_W} (kt : (S.1 67 7) = 0 → am_Ev d k_Reader_parse 79 [some (.ref 67), some (.int x1)] [] (fm_mk S) r) (kf : ¬ (S.1 67 7) = 0 → am_Ev d k_Reader_parse 50 [some (.ref 67), some (.int x1)] [] (fm_mk S) r) : am_Ev d k_Reader_parse 43 [some (.ref 67), some (.int x1)] [] (fm_mk S) r := by
  refine fs_aloadn (j := 0) (by decide +kernel) rfl ?_
  refine fe_getI (idx := 41) (t := 5) (f := 7) (fk := 0) (fin := 0) (wp := 295) (by decide +kernel) (by decide +kernel) (by decide +kernel) (by decide +kernel) ?_
  exact fs_ifeq (off := 32) (tgt := 79) (by decide +kernel) (by decide) kt kf
theorem b_Reader_parse_50 {d : Nat} {x1 : Int32} {S : fm_S} {r : Option Value × am_W} (kt : ¬ (S.1 67 4) = (-1) → am_Ev d k_Reader_parse 79 [some (.ref 67), some (.int x1)] [] (fm_mk S) r) (kf : (S.1 67 4) = (-1) → am_Ev d k_Reader_parse 58 [some (.ref 67), some (.int x1)] [] (fm_mk S) r) : am_Ev d k_Reader_parse 50 [some (.ref 67), some (.int x1)] [] (fm_mk S) r := by
  refine fs_aloadn (j := 0) (by decide +kernel) rfl ?_
  refine fe_getI (idx := 35) (t := 5) (f := 4) (fk := 0) (fin := 0) (wp := 292) (by decide +kernel) (by decide +kernel) (by decide +kernel) (by decide +kernel) ?_
  refine fs_iconst (n := -1) (v := (-1)) (by decide +kernel) (by decide) ?_
  exact fs_icne (off := 24) (tgt := 79) (by decide +kernel) (by decide) kt kf
theorem b_Reader_parse_58 {d : Nat} {x1 : Int32} {S : fm_S} {r : Option Value × am_W} (kt : 150 ≤ x1 → am_Ev d k_Reader_parse 79 [some (.ref 67), some (.int x1)] [] (fm_mk S) r) (kf : ¬ 150 ≤ x1 → am_Ev d k_Reader_parse 65 [some (.ref 67), some (.int x1)] [] (fm_mk S) r) : am_Ev d k_Reader_parse 58 [some (.ref 67), some (.int x1)] [] (fm_mk S) r := by
  refine fs_iloadn (j := 1) (by decide +kernel) rfl ?_
  refine fs_sipush (n := 150) (v := 150) (by decide +kernel) (by decide) ?_
  exact fs_icge (off := 17) (tgt := 79) (by decide +kernel) (by decide) kt kf
theorem b_Reader_parse_65 {d : Nat} {x1 : Int32} {S1 : fm_S} {S : fm_S} {r : Option Value × am_W} (hc : am_Sp d k_Reader_item [.ref 67] (fm_mk S) (none) (fm_mk S1)) (nx : am_Ev (d + 1) k_Reader_parse 69 [some (.ref 67), some (.int x1)] [] (fm_mk S1) r) : am_Ev (d + 1) k_Reader_parse 65 [some (.ref 67), some (.int x1)] [] (fm_mk S) r := by
  refine fs_aloadn (j := 0) (by decide +kernel) rfl ?_
  exact fe_callV (t := 5) (idx := 47) (n := 0) (wp := 458) (q := (460, 5)) (as := []) (rs := []) (by decide +kernel) (by decide +kernel) (by decide +kernel) (by decide +kernel) rfl (Nat.le_of_ble_eq_true rfl) rfl hc nx
theorem b_Reader_parse_69 {d : Nat} {x1 : Int32} {S1 : fm_S} {S : fm_S} {r : Option Value × am_W} (hc : am_Sp d k_Reader_take [.ref 67] (fm_mk S) (none) (fm_mk S1)) (nx : am_Ev (d + 1) k_Reader_parse 73 [some (.ref 67), some (.int x1)] [] (fm_mk S1) r) : am_Ev (d + 1) k_Reader_parse 69 [some (.ref 67), some (.int x1)] [] (fm_mk S) r := by
  refine fs_aloadn (j := 0) (by decide +kernel) rfl ?_
  exact fe_callV (t := 5) (idx := 38) (n := 0) (wp := 448) (q := (450, 4)) (as := []) (rs := []) (by decide +kernel) (by decide +kernel) (by decide +kernel) (by decide +kernel) rfl (Nat.le_of_ble_eq_true rfl) rfl hc nx
theorem b_Reader_parse_73 {d : Nat} {x1 : Int32} {S : fm_S} {r : Option Value × am_W} (nx : am_Ev d k_Reader_parse 43 [some (.ref 67), some (.int (x1 + 1))] [] (fm_mk S) r) : am_Ev d k_Reader_parse 73 [some (.ref 67), some (.int x1)] [] (fm_mk S) r := by
  refine fs_iinc (j := 1) (n := 1) (v := 1) (L' := [some (.ref 67), some (.int (x1 + 1))]) (by decide +kernel) rfl (Nat.le_of_ble_eq_true rfl) (by decide) rfl ?_
  refine fs_goto (off := -33) (tgt := 43) (by decide +kernel) (by decide) ?_
  exact nx
theorem b_Reader_parse_79 {d : Nat} {x1 : Int32} {S : fm_S}  : am_Ev d k_Reader_parse 79 [some (.ref 67), some (.int x1)] [] (fm_mk S) (some (.int (S.1 67 4)), fm_mk S) := by
  refine fs_aloadn (j := 0) (by decide +kernel) rfl ?_
  refine fe_getI (idx := 35) (t := 5) (f := 4) (fk := 0) (fin := 0) (wp := 292) (by decide +kernel) (by decide +kernel) (by decide +kernel) (by decide +kernel) ?_
  exact fe_retI (by decide +kernel) (by decide +kernel)
-- KitchenSiege$Reader.take()V
theorem b_Reader_take_0 {d : Nat} {S : fm_S} {r : Option Value × am_W} (kt : (S.1 67 0) ≤ (S.1 67 5) → am_Ev d k_Reader_take 38 [some (.ref 67)] [] (fm_mk S) r) (kf : ¬ (S.1 67 0) ≤ (S.1 67 5) → am_Ev d k_Reader_take 11 [some (.ref 67)] [] (fm_mk S) r) : am_Ev d k_Reader_take 0 [some (.ref 67)] [] (fm_mk S) r := by
  refine fs_aloadn (j := 0) (by decide +kernel) rfl ?_
  refine fe_getI (idx := 32) (t := 5) (f := 5) (fk := 0) (fin := 0) (wp := 293) (by decide +kernel) (by decide +kernel) (by decide +kernel) (by decide +kernel) ?_
  refine fs_aloadn (j := 0) (by decide +kernel) rfl ?_
  refine fe_getI (idx := 22) (t := 5) (f := 0) (fk := 0) (fin := 0) (wp := 285) (by decide +kernel) (by decide +kernel) (by decide +kernel) (by decide +kernel) ?_
  exact fs_icge (off := 30) (tgt := 38) (by decide +kernel) (by decide) kt kf
theorem b_Reader_take_11 {d : Nat} {S : fm_S} {r : Option Value × am_W} (hi0 : vp_in (S.1 67 5) 150) (kt : ¬ (S.1 121 ((S.1 67 5).toNatClampNeg)) = 32 → am_Ev d k_Reader_take 38 [some (.ref 67)] [] (fm_mk S) r) (kf : (S.1 121 ((S.1 67 5).toNatClampNeg)) = 32 → am_Ev d k_Reader_take 25 [some (.ref 67)] [] (fm_mk S) r) : am_Ev d k_Reader_take 11 [some (.ref 67)] [] (fm_mk S) r := by
  refine fs_aloadn (j := 0) (by decide +kernel) rfl ?_
  refine fe_getR (idx := 18) (t := 5) (f := 3) (fk := 2) (fin := 1) (wp := 291) (x := 121) (by decide +kernel) (by decide +kernel) (by decide +kernel) (by decide +kernel) (by decide +kernel) ?_
  refine fs_aloadn (j := 0) (by decide +kernel) rfl ?_
  refine fe_getI (idx := 32) (t := 5) (f := 5) (fk := 0) (fin := 0) (wp := 293) (by decide +kernel) (by decide +kernel) (by decide +kernel) (by decide +kernel) ?_
  refine fx_iald (n := (S.1 67 5).toNatClampNeg) (len := 150) (by decide +kernel) (by decide +kernel) (by decide +kernel) hi0 rfl ?_
  refine fs_bipush (n := 32) (v := 32) (by decide +kernel) (by decide) ?_
  exact fs_icne (off := 16) (tgt := 38) (by decide +kernel) (by decide) kt kf
theorem b_Reader_take_25 {d : Nat} {S : fm_S} {r : Option Value × am_W} (nx : am_Ev d k_Reader_take 0 [some (.ref 67)] [] (fm_mk (fm_wI S 67 5 ((S.1 67 5) + 1))) r) : am_Ev d k_Reader_take 25 [some (.ref 67)] [] (fm_mk S) r := by
  refine fs_aloadn (j := 0) (by decide +kernel) rfl ?_
  refine fs_dup (by decide +kernel) rfl ?_
  refine fe_getI (idx := 32) (t := 5) (f := 5) (fk := 0) (fin := 0) (wp := 293) (by decide +kernel) (by decide +kernel) (by decide +kernel) (by decide +kernel) ?_
  refine fs_iconst (n := 1) (v := 1) (by decide +kernel) (by decide) ?_
  refine fs_iadd (by decide +kernel) ?_
  refine fe_putI (idx := 32) (t := 5) (f := 5) (wp := 293) (by decide +kernel) (by decide +kernel) (by decide +kernel) (by decide +kernel) ?_
  refine fs_goto (off := -35) (tgt := 0) (by decide +kernel) (by decide) ?_
  exact nx
theorem b_Reader_take_38 {d : Nat} {S : fm_S} {r : Option Value × am_W} (kt : ((fm_wI S 67 6 (S.1 67 5)).1 67 5) < ((fm_wI S 67 6 (S.1 67 5)).1 67 0) → am_Ev d k_Reader_take 65 [some (.ref 67)] [] (fm_mk (fm_wI S 67 6 (S.1 67 5))) r) (kf : ¬ ((fm_wI S 67 6 (S.1 67 5)).1 67 5) < ((fm_wI S 67 6 (S.1 67 5)).1 67 0) → am_Ev d k_Reader_take 57 [some (.ref 67)] [] (fm_mk (fm_wI S 67 6 (S.1 67 5))) r) : am_Ev d k_Reader_take 38 [some (.ref 67)] [] (fm_mk S) r := by
  refine fs_aloadn (j := 0) (by decide +kernel) rfl ?_
  refine fs_aloadn (j := 0) (by decide +kernel) rfl ?_
  refine fe_getI (idx := 32) (t := 5) (f := 5) (fk := 0) (fin := 0) (wp := 293) (by decide +kernel) (by decide +kernel) (by decide +kernel) (by decide +kernel) ?_
  refine fe_putI (idx := 44) (t := 5) (f := 6) (wp := 294) (by decide +kernel) (by decide +kernel) (by decide +kernel) (by decide +kernel) ?_
  refine fs_aloadn (j := 0) (by decide +kernel) rfl ?_
  refine fe_getI (idx := 32) (t := 5) (f := 5) (fk := 0) (fin := 0) (wp := 293) (by decide +kernel) (by decide +kernel) (by decide +kernel) (by decide +kernel) ?_
  refine fs_aloadn (j := 0) (by decide +kernel) rfl ?_
  refine fe_getI (idx := 22) (t := 5) (f := 0) (fk := 0) (fin := 0) (wp := 285) (by decide +kernel) (by decide +kernel) (by decide +kernel) (by decide +kernel) ?_
  exact fs_iclt (off := 11) (tgt := 65) (by decide +kernel) (by decide) kt kf
theorem b_Reader_take_57 {d : Nat} {S : fm_S} {r : Option Value × am_W} (nx : am_Ev d k_Reader_take 278 [some (.ref 67)] [] (fm_mk (fm_wI S 67 7 0)) r) : am_Ev d k_Reader_take 57 [some (.ref 67)] [] (fm_mk S) r := by
  refine fs_aloadn (j := 0) (by decide +kernel) rfl ?_
  refine fs_iconst (n := 0) (v := 0) (by decide +kernel) (by decide) ?_
  refine fe_putI (idx := 41) (t := 5) (f := 7) (wp := 295) (by decide +kernel) (by decide +kernel) (by decide +kernel) (by decide +kernel) ?_
  refine fs_goto (off := 216) (tgt := 278) (by decide +kernel) (by decide) ?_
  exact nx
theorem b_Reader_take_65 {d : Nat} {v : Int32} {S1 : fm_S} {S : fm_S} {r : Option Value × am_W} (hi0 : vp_in (S.1 67 5) 150) (hc : am_Sp d k_Reader_isLetter [.int (S.1 121 ((S.1 67 5).toNatClampNeg))] (fm_mk S) (some (.int v)) (fm_mk S1)) (nx : am_Ev (d + 1) k_Reader_take 77 [some (.ref 67)] [.int v] (fm_mk S1) r) : am_Ev (d + 1) k_Reader_take 65 [some (.ref 67)] [] (fm_mk S) r := by
  refine fs_aloadn (j := 0) (by decide +kernel) rfl ?_
  refine fe_getR (idx := 18) (t := 5) (f := 3) (fk := 2) (fin := 1) (wp := 291) (x := 121) (by decide +kernel) (by decide +kernel) (by decide +kernel) (by decide +kernel) (by decide +kernel) ?_
  refine fs_aloadn (j := 0) (by decide +kernel) rfl ?_
  refine fe_getI (idx := 32) (t := 5) (f := 5) (fk := 0) (fin := 0) (wp := 293) (by decide +kernel) (by decide +kernel) (by decide +kernel) (by decide +kernel) ?_
  refine fx_iald (n := (S.1 67 5).toNatClampNeg) (len := 150) (by decide +kernel) (by decide +kernel) (by decide +kernel) hi0 rfl ?_
  exact fe_callS (idx := 111) (kd := 0) (n := 1) (wp := 452) (q := (453, 0)) (as := [.int (S.1 121 ((S.1 67 5).toNatClampNeg))]) (rs := []) (by decide +kernel) (by decide +kernel) (by decide +kernel) (by decide) rfl (Nat.le_of_ble_eq_true rfl) rfl hc nx
theorem b_Reader_take_77 {d : Nat} {sx0 : Int32} {S : fm_S} {r : Option Value × am_W} (kt : sx0 = 0 → am_Ev d k_Reader_take 124 [some (.ref 67)] [] (fm_mk S) r) (kf : ¬ sx0 = 0 → am_Ev d k_Reader_take 80 [some (.ref 67)] [] (fm_mk S) r) : am_Ev d k_Reader_take 77 [some (.ref 67)] [.int sx0] (fm_mk S) r := by
  exact fs_ifeq (off := 47) (tgt := 124) (by decide +kernel) (by decide) kt kf
theorem b_Reader_take_80 {d : Nat} {S : fm_S} {r : Option Value × am_W} (nx : am_Ev d k_Reader_take 85 [some (.ref 67)] [] (fm_mk (fm_wI S 67 7 1)) r) : am_Ev d k_Reader_take 80 [some (.ref 67)] [] (fm_mk S) r := by
  refine fs_aloadn (j := 0) (by decide +kernel) rfl ?_
  refine fs_iconst (n := 1) (v := 1) (by decide +kernel) (by decide) ?_
  refine fe_putI (idx := 41) (t := 5) (f := 7) (wp := 295) (by decide +kernel) (by decide +kernel) (by decide +kernel) (by decide +kernel) ?_
  exact nx
theorem b_Reader_take_85 {d : Nat} {S : fm_S} {r : Option Value × am_W} (kt : (S.1 67 0) ≤ (S.1 67 5) → am_Ev d k_Reader_take 278 [some (.ref 67)] [] (fm_mk S) r) (kf : ¬ (S.1 67 0) ≤ (S.1 67 5) → am_Ev d k_Reader_take 96 [some (.ref 67)] [] (fm_mk S) r) : am_Ev d k_Reader_take 85 [some (.ref 67)] [] (fm_mk S) r := by
  refine fs_aloadn (j := 0) (by decide +kernel) rfl ?_
  refine fe_getI (idx := 32) (t := 5) (f := 5) (fk := 0) (fin := 0) (wp := 293) (by decide +kernel) (by decide +kernel) (by decide +kernel) (by decide +kernel) ?_
  refine fs_aloadn (j := 0) (by decide +kernel) rfl ?_
  refine fe_getI (idx := 22) (t := 5) (f := 0) (fk := 0) (fin := 0) (wp := 285) (by decide +kernel) (by decide +kernel) (by decide +kernel) (by decide +kernel) ?_
  exact fs_icge (off := 185) (tgt := 278) (by decide +kernel) (by decide) kt kf
theorem b_Reader_take_96 {d : Nat} {v : Int32} {S1 : fm_S} {S : fm_S} {r : Option Value × am_W} (hi0 : vp_in (S.1 67 5) 150) (hc : am_Sp d k_Reader_isLetter [.int (S.1 121 ((S.1 67 5).toNatClampNeg))] (fm_mk S) (some (.int v)) (fm_mk S1)) (nx : am_Ev (d + 1) k_Reader_take 108 [some (.ref 67)] [.int v] (fm_mk S1) r) : am_Ev (d + 1) k_Reader_take 96 [some (.ref 67)] [] (fm_mk S) r := by
  refine fs_aloadn (j := 0) (by decide +kernel) rfl ?_
  refine fe_getR (idx := 18) (t := 5) (f := 3) (fk := 2) (fin := 1) (wp := 291) (x := 121) (by decide +kernel) (by decide +kernel) (by decide +kernel) (by decide +kernel) (by decide +kernel) ?_
  refine fs_aloadn (j := 0) (by decide +kernel) rfl ?_
  refine fe_getI (idx := 32) (t := 5) (f := 5) (fk := 0) (fin := 0) (wp := 293) (by decide +kernel) (by decide +kernel) (by decide +kernel) (by decide +kernel) ?_
  refine fx_iald (n := (S.1 67 5).toNatClampNeg) (len := 150) (by decide +kernel) (by decide +kernel) (by decide +kernel) hi0 rfl ?_
  exact fe_callS (idx := 111) (kd := 0) (n := 1) (wp := 452) (q := (453, 0)) (as := [.int (S.1 121 ((S.1 67 5).toNatClampNeg))]) (rs := []) (by decide +kernel) (by decide +kernel) (by decide +kernel) (by decide) rfl (Nat.le_of_ble_eq_true rfl) rfl hc nx
theorem b_Reader_take_108 {d : Nat} {sx0 : Int32} {S : fm_S} {r : Option Value × am_W} (kt : sx0 = 0 → am_Ev d k_Reader_take 278 [some (.ref 67)] [] (fm_mk S) r) (kf : ¬ sx0 = 0 → am_Ev d k_Reader_take 111 [some (.ref 67)] [] (fm_mk S) r) : am_Ev d k_Reader_take 108 [some (.ref 67)] [.int sx0] (fm_mk S) r := by
  exact fs_ifeq (off := 170) (tgt := 278) (by decide +kernel) (by decide) kt kf
theorem b_Reader_take_111 {d : Nat} {S : fm_S} {r : Option Value × am_W} (nx : am_Ev d k_Reader_take 85 [some (.ref 67)] [] (fm_mk (fm_wI S 67 5 ((S.1 67 5) + 1))) r) : am_Ev d k_Reader_take 111 [some (.ref 67)] [] (fm_mk S) r := by
  refine fs_aloadn (j := 0) (by decide +kernel) rfl ?_
  refine fs_dup (by decide +kernel) rfl ?_
  refine fe_getI (idx := 32) (t := 5) (f := 5) (fk := 0) (fin := 0) (wp := 293) (by decide +kernel) (by decide +kernel) (by decide +kernel) (by decide +kernel) ?_
  refine fs_iconst (n := 1) (v := 1) (by decide +kernel) (by decide) ?_
  refine fs_iadd (by decide +kernel) ?_
  refine fe_putI (idx := 32) (t := 5) (f := 5) (wp := 293) (by decide +kernel) (by decide +kernel) (by decide +kernel) (by decide +kernel) ?_
  refine fs_goto (off := -36) (tgt := 85) (by decide +kernel) (by decide) ?_
  exact nx
theorem b_Reader_take_124 {d : Nat} {v : Int32} {S1 : fm_S} {S : fm_S} {r : Option Value × am_W} (hi0 : vp_in (S.1 67 5) 150) (hc : am_Sp d k_Reader_isFigure [.int (S.1 121 ((S.1 67 5).toNatClampNeg))] (fm_mk S) (some (.int v)) (fm_mk S1)) (nx : am_Ev (d + 1) k_Reader_take 136 [some (.ref 67)] [.int v] (fm_mk S1) r) : am_Ev (d + 1) k_Reader_take 124 [some (.ref 67)] [] (fm_mk S) r := by
  refine fs_aloadn (j := 0) (by decide +kernel) rfl ?_
  refine fe_getR (idx := 18) (t := 5) (f := 3) (fk := 2) (fin := 1) (wp := 291) (x := 121) (by decide +kernel) (by decide +kernel) (by decide +kernel) (by decide +kernel) (by decide +kernel) ?_
  refine fs_aloadn (j := 0) (by decide +kernel) rfl ?_
  refine fe_getI (idx := 32) (t := 5) (f := 5) (fk := 0) (fin := 0) (wp := 293) (by decide +kernel) (by decide +kernel) (by decide +kernel) (by decide +kernel) ?_
  refine fx_iald (n := (S.1 67 5).toNatClampNeg) (len := 150) (by decide +kernel) (by decide +kernel) (by decide +kernel) hi0 rfl ?_
  exact fe_callS (idx := 114) (kd := 0) (n := 1) (wp := 455) (q := (456, 0)) (as := [.int (S.1 121 ((S.1 67 5).toNatClampNeg))]) (rs := []) (by decide +kernel) (by decide +kernel) (by decide +kernel) (by decide) rfl (Nat.le_of_ble_eq_true rfl) rfl hc nx
theorem b_Reader_take_136 {d : Nat} {sx0 : Int32} {S : fm_S} {r : Option Value × am_W} (kt : sx0 = 0 → am_Ev d k_Reader_take 245 [some (.ref 67)] [] (fm_mk S) r) (kf : ¬ sx0 = 0 → am_Ev d k_Reader_take 139 [some (.ref 67)] [] (fm_mk S) r) : am_Ev d k_Reader_take 136 [some (.ref 67)] [.int sx0] (fm_mk S) r := by
  exact fs_ifeq (off := 109) (tgt := 245) (by decide +kernel) (by decide) kt kf
theorem b_Reader_take_139 {d : Nat} {S : fm_S} {r : Option Value × am_W} (nx : am_Ev d k_Reader_take 144 [some (.ref 67)] [] (fm_mk (fm_wI S 67 8 0)) r) : am_Ev d k_Reader_take 139 [some (.ref 67)] [] (fm_mk S) r := by
  refine fs_aloadn (j := 0) (by decide +kernel) rfl ?_
  refine fs_iconst (n := 0) (v := 0) (by decide +kernel) (by decide) ?_
  refine fe_putI (idx := 104) (t := 5) (f := 8) (wp := 296) (by decide +kernel) (by decide +kernel) (by decide +kernel) (by decide +kernel) ?_
  exact nx
theorem b_Reader_take_144 {d : Nat} {S : fm_S} {r : Option Value × am_W} (kt : (S.1 67 0) ≤ (S.1 67 5) → am_Ev d k_Reader_take 220 [some (.ref 67)] [] (fm_mk S) r) (kf : ¬ (S.1 67 0) ≤ (S.1 67 5) → am_Ev d k_Reader_take 155 [some (.ref 67)] [] (fm_mk S) r) : am_Ev d k_Reader_take 144 [some (.ref 67)] [] (fm_mk S) r := by
  refine fs_aloadn (j := 0) (by decide +kernel) rfl ?_
  refine fe_getI (idx := 32) (t := 5) (f := 5) (fk := 0) (fin := 0) (wp := 293) (by decide +kernel) (by decide +kernel) (by decide +kernel) (by decide +kernel) ?_
  refine fs_aloadn (j := 0) (by decide +kernel) rfl ?_
  refine fe_getI (idx := 22) (t := 5) (f := 0) (fk := 0) (fin := 0) (wp := 285) (by decide +kernel) (by decide +kernel) (by decide +kernel) (by decide +kernel) ?_
  exact fs_icge (off := 68) (tgt := 220) (by decide +kernel) (by decide) kt kf
theorem b_Reader_take_155 {d : Nat} {v : Int32} {S1 : fm_S} {S : fm_S} {r : Option Value × am_W} (hi0 : vp_in (S.1 67 5) 150) (hc : am_Sp d k_Reader_isFigure [.int (S.1 121 ((S.1 67 5).toNatClampNeg))] (fm_mk S) (some (.int v)) (fm_mk S1)) (nx : am_Ev (d + 1) k_Reader_take 167 [some (.ref 67)] [.int v] (fm_mk S1) r) : am_Ev (d + 1) k_Reader_take 155 [some (.ref 67)] [] (fm_mk S) r := by
  refine fs_aloadn (j := 0) (by decide +kernel) rfl ?_
  refine fe_getR (idx := 18) (t := 5) (f := 3) (fk := 2) (fin := 1) (wp := 291) (x := 121) (by decide +kernel) (by decide +kernel) (by decide +kernel) (by decide +kernel) (by decide +kernel) ?_
  refine fs_aloadn (j := 0) (by decide +kernel) rfl ?_
  refine fe_getI (idx := 32) (t := 5) (f := 5) (fk := 0) (fin := 0) (wp := 293) (by decide +kernel) (by decide +kernel) (by decide +kernel) (by decide +kernel) ?_
  refine fx_iald (n := (S.1 67 5).toNatClampNeg) (len := 150) (by decide +kernel) (by decide +kernel) (by decide +kernel) hi0 rfl ?_
  exact fe_callS (idx := 114) (kd := 0) (n := 1) (wp := 455) (q := (456, 0)) (as := [.int (S.1 121 ((S.1 67 5).toNatClampNeg))]) (rs := []) (by decide +kernel) (by decide +kernel) (by decide +kernel) (by decide) rfl (Nat.le_of_ble_eq_true rfl) rfl hc nx
theorem b_Reader_take_167 {d : Nat} {sx0 : Int32} {S : fm_S} {r : Option Value × am_W} (kt : sx0 = 0 → am_Ev d k_Reader_take 220 [some (.ref 67)] [] (fm_mk S) r) (kf : ¬ sx0 = 0 → am_Ev d k_Reader_take 170 [some (.ref 67)] [] (fm_mk S) r) : am_Ev d k_Reader_take 167 [some (.ref 67)] [.int sx0] (fm_mk S) r := by
  exact fs_ifeq (off := 53) (tgt := 220) (by decide +kernel) (by decide) kt kf
theorem b_Reader_take_170 {d : Nat} {S : fm_S} {r : Option Value × am_W} (kt : 2 ≤ ((S.1 67 5) - (S.1 67 6)) → am_Ev d k_Reader_take 207 [some (.ref 67)] [] (fm_mk S) r) (kf : ¬ 2 ≤ ((S.1 67 5) - (S.1 67 6)) → am_Ev d k_Reader_take 183 [some (.ref 67)] [] (fm_mk S) r) : am_Ev d k_Reader_take 170 [some (.ref 67)] [] (fm_mk S) r := by
  refine fs_aloadn (j := 0) (by decide +kernel) rfl ?_
  refine fe_getI (idx := 32) (t := 5) (f := 5) (fk := 0) (fin := 0) (wp := 293) (by decide +kernel) (by decide +kernel) (by decide +kernel) (by decide +kernel) ?_
  refine fs_aloadn (j := 0) (by decide +kernel) rfl ?_
  refine fe_getI (idx := 44) (t := 5) (f := 6) (fk := 0) (fin := 0) (wp := 294) (by decide +kernel) (by decide +kernel) (by decide +kernel) (by decide +kernel) ?_
  refine fs_isub (by decide +kernel) ?_
  refine fs_iconst (n := 2) (v := 2) (by decide +kernel) (by decide) ?_
  exact fs_icge (off := 27) (tgt := 207) (by decide +kernel) (by decide) kt kf
theorem b_Reader_take_183 {d : Nat} {S : fm_S} {r : Option Value × am_W} (hi0 : vp_in (S.1 67 5) 150) (nx : am_Ev d k_Reader_take 207 [some (.ref 67)] [] (fm_mk (fm_wI S 67 8 (((10 * (S.1 67 8)) + (S.1 121 ((S.1 67 5).toNatClampNeg))) - 48))) r) : am_Ev d k_Reader_take 183 [some (.ref 67)] [] (fm_mk S) r := by
  refine fs_aloadn (j := 0) (by decide +kernel) rfl ?_
  refine fs_bipush (n := 10) (v := 10) (by decide +kernel) (by decide) ?_
  refine fs_aloadn (j := 0) (by decide +kernel) rfl ?_
  refine fe_getI (idx := 104) (t := 5) (f := 8) (fk := 0) (fin := 0) (wp := 296) (by decide +kernel) (by decide +kernel) (by decide +kernel) (by decide +kernel) ?_
  refine fs_imul (by decide +kernel) ?_
  refine fs_aloadn (j := 0) (by decide +kernel) rfl ?_
  refine fe_getR (idx := 18) (t := 5) (f := 3) (fk := 2) (fin := 1) (wp := 291) (x := 121) (by decide +kernel) (by decide +kernel) (by decide +kernel) (by decide +kernel) (by decide +kernel) ?_
  refine fs_aloadn (j := 0) (by decide +kernel) rfl ?_
  refine fe_getI (idx := 32) (t := 5) (f := 5) (fk := 0) (fin := 0) (wp := 293) (by decide +kernel) (by decide +kernel) (by decide +kernel) (by decide +kernel) ?_
  refine fx_iald (n := (S.1 67 5).toNatClampNeg) (len := 150) (by decide +kernel) (by decide +kernel) (by decide +kernel) hi0 rfl ?_
  refine fs_iadd (by decide +kernel) ?_
  refine fs_bipush (n := 48) (v := 48) (by decide +kernel) (by decide) ?_
  refine fs_isub (by decide +kernel) ?_
  refine fe_putI (idx := 104) (t := 5) (f := 8) (wp := 296) (by decide +kernel) (by decide +kernel) (by decide +kernel) (by decide +kernel) ?_
  exact nx
theorem b_Reader_take_207 {d : Nat} {S : fm_S} {r : Option Value × am_W} (nx : am_Ev d k_Reader_take 144 [some (.ref 67)] [] (fm_mk (fm_wI S 67 5 ((S.1 67 5) + 1))) r) : am_Ev d k_Reader_take 207 [some (.ref 67)] [] (fm_mk S) r := by
  refine fs_aloadn (j := 0) (by decide +kernel) rfl ?_
  refine fs_dup (by decide +kernel) rfl ?_
  refine fe_getI (idx := 32) (t := 5) (f := 5) (fk := 0) (fin := 0) (wp := 293) (by decide +kernel) (by decide +kernel) (by decide +kernel) (by decide +kernel) ?_
  refine fs_iconst (n := 1) (v := 1) (by decide +kernel) (by decide) ?_
  refine fs_iadd (by decide +kernel) ?_
  refine fe_putI (idx := 32) (t := 5) (f := 5) (wp := 293) (by decide +kernel) (by decide +kernel) (by decide +kernel) (by decide +kernel) ?_
  refine fs_goto (off := -73) (tgt := 144) (by decide +kernel) (by decide) ?_
  exact nx
theorem b_Reader_take_220 {d : Nat} {S : fm_S} {r : Option Value × am_W} (kt : ((S.1 67 5) - (S.1 67 6)) ≤ 2 → am_Ev d k_Reader_take 238 [some (.ref 67)] [.ref 67] (fm_mk S) r) (kf : ¬ ((S.1 67 5) - (S.1 67 6)) ≤ 2 → am_Ev d k_Reader_take 234 [some (.ref 67)] [.ref 67] (fm_mk S) r) : am_Ev d k_Reader_take 220 [some (.ref 67)] [] (fm_mk S) r := by
  refine fs_aloadn (j := 0) (by decide +kernel) rfl ?_
  refine fs_aloadn (j := 0) (by decide +kernel) rfl ?_
  refine fe_getI (idx := 32) (t := 5) (f := 5) (fk := 0) (fin := 0) (wp := 293) (by decide +kernel) (by decide +kernel) (by decide +kernel) (by decide +kernel) ?_
  refine fs_aloadn (j := 0) (by decide +kernel) rfl ?_
  refine fe_getI (idx := 44) (t := 5) (f := 6) (fk := 0) (fin := 0) (wp := 294) (by decide +kernel) (by decide +kernel) (by decide +kernel) (by decide +kernel) ?_
  refine fs_isub (by decide +kernel) ?_
  refine fs_iconst (n := 2) (v := 2) (by decide +kernel) (by decide) ?_
  exact fs_icle (off := 7) (tgt := 238) (by decide +kernel) (by decide) kt kf
theorem b_Reader_take_234 {d : Nat} {S : fm_S} {r : Option Value × am_W} (nx : am_Ev d k_Reader_take 239 [some (.ref 67)] [.int 4, .ref 67] (fm_mk S) r) : am_Ev d k_Reader_take 234 [some (.ref 67)] [.ref 67] (fm_mk S) r := by
  refine fs_iconst (n := 4) (v := 4) (by decide +kernel) (by decide) ?_
  refine fs_goto (off := 4) (tgt := 239) (by decide +kernel) (by decide) ?_
  exact nx
theorem b_Reader_take_238 {d : Nat} {S : fm_S} {r : Option Value × am_W} (nx : am_Ev d k_Reader_take 239 [some (.ref 67)] [.int 2, .ref 67] (fm_mk S) r) : am_Ev d k_Reader_take 238 [some (.ref 67)] [.ref 67] (fm_mk S) r := by
  refine fs_iconst (n := 2) (v := 2) (by decide +kernel) (by decide) ?_
  exact nx
theorem b_Reader_take_239 {d : Nat} {sx1 : Int32} {S : fm_S} {r : Option Value × am_W} (nx : am_Ev d k_Reader_take 278 [some (.ref 67)] [] (fm_mk (fm_wI S 67 7 sx1)) r) : am_Ev d k_Reader_take 239 [some (.ref 67)] [.int sx1, .ref 67] (fm_mk S) r := by
  refine fe_putI (idx := 41) (t := 5) (f := 7) (wp := 295) (by decide +kernel) (by decide +kernel) (by decide +kernel) (by decide +kernel) ?_
  refine fs_goto (off := 36) (tgt := 278) (by decide +kernel) (by decide) ?_
  exact nx
theorem b_Reader_take_245 {d : Nat} {S : fm_S} {r : Option Value × am_W} (hi0 : vp_in (S.1 67 5) 150) (kt : ¬ (S.1 121 ((S.1 67 5).toNatClampNeg)) = 59 → am_Ev d k_Reader_take 264 [some (.ref 67)] [.ref 67] (fm_mk S) r) (kf : (S.1 121 ((S.1 67 5).toNatClampNeg)) = 59 → am_Ev d k_Reader_take 260 [some (.ref 67)] [.ref 67] (fm_mk S) r) : am_Ev d k_Reader_take 245 [some (.ref 67)] [] (fm_mk S) r := by
  refine fs_aloadn (j := 0) (by decide +kernel) rfl ?_
  refine fs_aloadn (j := 0) (by decide +kernel) rfl ?_
  refine fe_getR (idx := 18) (t := 5) (f := 3) (fk := 2) (fin := 1) (wp := 291) (x := 121) (by decide +kernel) (by decide +kernel) (by decide +kernel) (by decide +kernel) (by decide +kernel) ?_
  refine fs_aloadn (j := 0) (by decide +kernel) rfl ?_
  refine fe_getI (idx := 32) (t := 5) (f := 5) (fk := 0) (fin := 0) (wp := 293) (by decide +kernel) (by decide +kernel) (by decide +kernel) (by decide +kernel) ?_
  refine fx_iald (n := (S.1 67 5).toNatClampNeg) (len := 150) (by decide +kernel) (by decide +kernel) (by decide +kernel) hi0 rfl ?_
  refine fs_bipush (n := 59) (v := 59) (by decide +kernel) (by decide) ?_
  exact fs_icne (off := 7) (tgt := 264) (by decide +kernel) (by decide) kt kf
theorem b_Reader_take_260 {d : Nat} {S : fm_S} {r : Option Value × am_W} (nx : am_Ev d k_Reader_take 265 [some (.ref 67)] [.int 3, .ref 67] (fm_mk S) r) : am_Ev d k_Reader_take 260 [some (.ref 67)] [.ref 67] (fm_mk S) r := by
  refine fs_iconst (n := 3) (v := 3) (by decide +kernel) (by decide) ?_
  refine fs_goto (off := 4) (tgt := 265) (by decide +kernel) (by decide) ?_
  exact nx
theorem b_Reader_take_264 {d : Nat} {S : fm_S} {r : Option Value × am_W} (nx : am_Ev d k_Reader_take 265 [some (.ref 67)] [.int 4, .ref 67] (fm_mk S) r) : am_Ev d k_Reader_take 264 [some (.ref 67)] [.ref 67] (fm_mk S) r := by
  refine fs_iconst (n := 4) (v := 4) (by decide +kernel) (by decide) ?_
  exact nx
theorem b_Reader_take_265 {d : Nat} {sx1 : Int32} {S : fm_S} {r : Option Value × am_W} (nx : am_Ev d k_Reader_take 278 [some (.ref 67)] [] (fm_mk (fm_wI (fm_wI S 67 7 sx1) 67 5 (((fm_wI S 67 7 sx1).1 67 5) + 1))) r) : am_Ev d k_Reader_take 265 [some (.ref 67)] [.int sx1, .ref 67] (fm_mk S) r := by
  refine fe_putI (idx := 41) (t := 5) (f := 7) (wp := 295) (by decide +kernel) (by decide +kernel) (by decide +kernel) (by decide +kernel) ?_
  refine fs_aloadn (j := 0) (by decide +kernel) rfl ?_
  refine fs_dup (by decide +kernel) rfl ?_
  refine fe_getI (idx := 32) (t := 5) (f := 5) (fk := 0) (fin := 0) (wp := 293) (by decide +kernel) (by decide +kernel) (by decide +kernel) (by decide +kernel) ?_
  refine fs_iconst (n := 1) (v := 1) (by decide +kernel) (by decide) ?_
  refine fs_iadd (by decide +kernel) ?_
  refine fe_putI (idx := 32) (t := 5) (f := 5) (wp := 293) (by decide +kernel) (by decide +kernel) (by decide +kernel) (by decide +kernel) ?_
  exact nx
theorem b_Reader_take_278 {d : Nat} {S : fm_S}  : am_Ev d k_Reader_take 278 [some (.ref 67)] [] (fm_mk S) (none, fm_mk S) := by
  exact fe_retV (by decide +kernel) (by decide +kernel)
-- KitchenSiege$Reader.isLetter(I)Z
theorem b_Reader_isLetter_0 {d : Nat} {x0 : Int32} {S : fm_S} {r : Option Value × am_W} (kt : x0 < 97 → am_Ev d k_Reader_isLetter 16 [some (.int x0)] [] (fm_mk S) r) (kf : ¬ x0 < 97 → am_Ev d k_Reader_isLetter 6 [some (.int x0)] [] (fm_mk S) r) : am_Ev d k_Reader_isLetter 0 [some (.int x0)] [] (fm_mk S) r := by
  refine fs_iloadn (j := 0) (by decide +kernel) rfl ?_
  refine fs_bipush (n := 97) (v := 97) (by decide +kernel) (by decide) ?_
  exact fs_iclt (off := 13) (tgt := 16) (by decide +kernel) (by decide) kt kf
theorem b_Reader_isLetter_6 {d : Nat} {x0 : Int32} {S : fm_S} {r : Option Value × am_W} (kt : 122 < x0 → am_Ev d k_Reader_isLetter 16 [some (.int x0)] [] (fm_mk S) r) (kf : ¬ 122 < x0 → am_Ev d k_Reader_isLetter 12 [some (.int x0)] [] (fm_mk S) r) : am_Ev d k_Reader_isLetter 6 [some (.int x0)] [] (fm_mk S) r := by
  refine fs_iloadn (j := 0) (by decide +kernel) rfl ?_
  refine fs_bipush (n := 122) (v := 122) (by decide +kernel) (by decide) ?_
  exact fs_icgt (off := 7) (tgt := 16) (by decide +kernel) (by decide) kt kf
theorem b_Reader_isLetter_12 {d : Nat} {x0 : Int32} {S : fm_S} {r : Option Value × am_W} (nx : am_Ev d k_Reader_isLetter 17 [some (.int x0)] [.int 1] (fm_mk S) r) : am_Ev d k_Reader_isLetter 12 [some (.int x0)] [] (fm_mk S) r := by
  refine fs_iconst (n := 1) (v := 1) (by decide +kernel) (by decide) ?_
  refine fs_goto (off := 4) (tgt := 17) (by decide +kernel) (by decide) ?_
  exact nx
theorem b_Reader_isLetter_16 {d : Nat} {x0 : Int32} {S : fm_S} {r : Option Value × am_W} (nx : am_Ev d k_Reader_isLetter 17 [some (.int x0)] [.int 0] (fm_mk S) r) : am_Ev d k_Reader_isLetter 16 [some (.int x0)] [] (fm_mk S) r := by
  refine fs_iconst (n := 0) (v := 0) (by decide +kernel) (by decide) ?_
  exact nx
theorem b_Reader_isLetter_17 {d : Nat} {x0 : Int32} {sx0 : Int32} {S : fm_S}  (hz : sx0 = 0 ∨ sx0 = 1) : am_Ev d k_Reader_isLetter 17 [some (.int x0)] [.int sx0] (fm_mk S) (some (.int sx0), fm_mk S) := by
  exact fe_retZ (by decide +kernel) (by decide +kernel) hz
-- KitchenSiege$Reader.isFigure(I)Z
theorem b_Reader_isFigure_0 {d : Nat} {x0 : Int32} {S : fm_S} {r : Option Value × am_W} (kt : x0 < 48 → am_Ev d k_Reader_isFigure 16 [some (.int x0)] [] (fm_mk S) r) (kf : ¬ x0 < 48 → am_Ev d k_Reader_isFigure 6 [some (.int x0)] [] (fm_mk S) r) : am_Ev d k_Reader_isFigure 0 [some (.int x0)] [] (fm_mk S) r := by
  refine fs_iloadn (j := 0) (by decide +kernel) rfl ?_
  refine fs_bipush (n := 48) (v := 48) (by decide +kernel) (by decide) ?_
  exact fs_iclt (off := 13) (tgt := 16) (by decide +kernel) (by decide) kt kf
theorem b_Reader_isFigure_6 {d : Nat} {x0 : Int32} {S : fm_S} {r : Option Value × am_W} (kt : 57 < x0 → am_Ev d k_Reader_isFigure 16 [some (.int x0)] [] (fm_mk S) r) (kf : ¬ 57 < x0 → am_Ev d k_Reader_isFigure 12 [some (.int x0)] [] (fm_mk S) r) : am_Ev d k_Reader_isFigure 6 [some (.int x0)] [] (fm_mk S) r := by
  refine fs_iloadn (j := 0) (by decide +kernel) rfl ?_
  refine fs_bipush (n := 57) (v := 57) (by decide +kernel) (by decide) ?_
  exact fs_icgt (off := 7) (tgt := 16) (by decide +kernel) (by decide) kt kf
theorem b_Reader_isFigure_12 {d : Nat} {x0 : Int32} {S : fm_S} {r : Option Value × am_W} (nx : am_Ev d k_Reader_isFigure 17 [some (.int x0)] [.int 1] (fm_mk S) r) : am_Ev d k_Reader_isFigure 12 [some (.int x0)] [] (fm_mk S) r := by
  refine fs_iconst (n := 1) (v := 1) (by decide +kernel) (by decide) ?_
  refine fs_goto (off := 4) (tgt := 17) (by decide +kernel) (by decide) ?_
  exact nx
theorem b_Reader_isFigure_16 {d : Nat} {x0 : Int32} {S : fm_S} {r : Option Value × am_W} (nx : am_Ev d k_Reader_isFigure 17 [some (.int x0)] [.int 0] (fm_mk S) r) : am_Ev d k_Reader_isFigure 16 [some (.int x0)] [] (fm_mk S) r := by
  refine fs_iconst (n := 0) (v := 0) (by decide +kernel) (by decide) ?_
  exact nx
theorem b_Reader_isFigure_17 {d : Nat} {x0 : Int32} {sx0 : Int32} {S : fm_S}  (hz : sx0 = 0 ∨ sx0 = 1) : am_Ev d k_Reader_isFigure 17 [some (.int x0)] [.int sx0] (fm_mk S) (some (.int sx0), fm_mk S) := by
  exact fe_retZ (by decide +kernel) (by decide +kernel) hz
-- KitchenSiege$Reader.item()V
theorem b_Reader_item_0 {d : Nat} {o1 : Option Value} {S : fm_S} {r : Option Value × am_W} (kt : ¬ (S.1 67 7) = 1 → am_Ev d k_Reader_item 15 [some (.ref 67), o1] [] (fm_mk S) r) (kf : (S.1 67 7) = 1 → am_Ev d k_Reader_item 8 [some (.ref 67), o1] [] (fm_mk S) r) : am_Ev d k_Reader_item 0 [some (.ref 67), o1] [] (fm_mk S) r := by
  refine fs_aloadn (j := 0) (by decide +kernel) rfl ?_
  refine fe_getI (idx := 41) (t := 5) (f := 7) (fk := 0) (fin := 0) (wp := 295) (by decide +kernel) (by decide +kernel) (by decide +kernel) (by decide +kernel) ?_
  refine fs_iconst (n := 1) (v := 1) (by decide +kernel) (by decide) ?_
  exact fs_icne (off := 10) (tgt := 15) (by decide +kernel) (by decide) kt kf
theorem b_Reader_item_8 {d : Nat} {o1 : Option Value} {v : Int32} {S1 : fm_S} {S : fm_S} {r : Option Value × am_W} (hc : am_Sp d k_Reader_word [.ref 67] (fm_mk S) (some (.int v)) (fm_mk S1)) (nx : am_Ev (d + 1) k_Reader_item 12 [some (.ref 67), o1] [.int v] (fm_mk S1) r) : am_Ev (d + 1) k_Reader_item 8 [some (.ref 67), o1] [] (fm_mk S) r := by
  refine fs_aloadn (j := 0) (by decide +kernel) rfl ?_
  exact fe_callV (t := 5) (idx := 50) (n := 0) (wp := 462) (q := (464, 6)) (as := []) (rs := []) (by decide +kernel) (by decide +kernel) (by decide +kernel) (by decide +kernel) rfl (Nat.le_of_ble_eq_true rfl) rfl hc nx
theorem b_Reader_item_12 {d : Nat} {o1 : Option Value} {sx0 : Int32} {S : fm_S} {r : Option Value × am_W} (nx : am_Ev d k_Reader_item 16 [some (.ref 67), o1] [.int sx0] (fm_mk S) r) : am_Ev d k_Reader_item 12 [some (.ref 67), o1] [.int sx0] (fm_mk S) r := by
  refine fs_goto (off := 4) (tgt := 16) (by decide +kernel) (by decide) ?_
  exact nx
theorem b_Reader_item_15 {d : Nat} {o1 : Option Value} {S : fm_S} {r : Option Value × am_W} (nx : am_Ev d k_Reader_item 16 [some (.ref 67), o1] [.int 0] (fm_mk S) r) : am_Ev d k_Reader_item 15 [some (.ref 67), o1] [] (fm_mk S) r := by
  refine fs_iconst (n := 0) (v := 0) (by decide +kernel) (by decide) ?_
  exact nx
theorem b_Reader_item_16 {d : Nat} {o1 : Option Value} {sx0 : Int32} {v : Int32} {S1 : fm_S} {S : fm_S} {r : Option Value × am_W} (hc : am_Sp d k_Reader_mayStand [.ref 67, .int sx0] (fm_mk S) (some (.int v)) (fm_mk S1)) (nx : am_Ev (d + 1) k_Reader_item 22 [some (.ref 67), some (.int sx0)] [.int v] (fm_mk S1) r) : am_Ev (d + 1) k_Reader_item 16 [some (.ref 67), o1] [.int sx0] (fm_mk S) r := by
  refine fs_istoren (j := 1) (L' := [some (.ref 67), some (.int sx0)]) (by decide +kernel) (Nat.le_of_ble_eq_true rfl) rfl ?_
  refine fs_aloadn (j := 0) (by decide +kernel) rfl ?_
  refine fs_iloadn (j := 1) (by decide +kernel) rfl ?_
  exact fe_callV (t := 5) (idx := 54) (n := 1) (wp := 524) (q := (526, 8)) (as := [.int sx0]) (rs := []) (by decide +kernel) (by decide +kernel) (by decide +kernel) (by decide +kernel) rfl (Nat.le_of_ble_eq_true rfl) rfl hc nx
theorem b_Reader_item_22 {d : Nat} {x1 : Int32} {sx0 : Int32} {S : fm_S} {r : Option Value × am_W} (kt : ¬ sx0 = 0 → am_Ev d k_Reader_item 34 [some (.ref 67), some (.int x1)] [] (fm_mk S) r) (kf : sx0 = 0 → am_Ev d k_Reader_item 25 [some (.ref 67), some (.int x1)] [] (fm_mk S) r) : am_Ev d k_Reader_item 22 [some (.ref 67), some (.int x1)] [.int sx0] (fm_mk S) r := by
  exact fs_ifne (off := 12) (tgt := 34) (by decide +kernel) (by decide) kt kf
theorem b_Reader_item_25 {d : Nat} {x1 : Int32} {S : fm_S}  : am_Ev d k_Reader_item 25 [some (.ref 67), some (.int x1)] [] (fm_mk S) (none, fm_mk (fm_wI S 67 4 (S.1 67 6))) := by
  refine fs_aloadn (j := 0) (by decide +kernel) rfl ?_
  refine fs_aloadn (j := 0) (by decide +kernel) rfl ?_
  refine fe_getI (idx := 44) (t := 5) (f := 6) (fk := 0) (fin := 0) (wp := 294) (by decide +kernel) (by decide +kernel) (by decide +kernel) (by decide +kernel) ?_
  refine fe_putI (idx := 35) (t := 5) (f := 4) (wp := 292) (by decide +kernel) (by decide +kernel) (by decide +kernel) (by decide +kernel) ?_
  exact fe_retV (by decide +kernel) (by decide +kernel)
theorem b_Reader_item_34 {d : Nat} {x1 : Int32} {S : fm_S} {r : Option Value × am_W} (k2 : x1 = 2 → am_Ev d k_Reader_item 68 [some (.ref 67), some (.int x1)] [] (fm_mk S) r) (k3 : x1 = 3 → am_Ev d k_Reader_item 75 [some (.ref 67), some (.int x1)] [] (fm_mk S) r) (k4 : x1 = 4 → am_Ev d k_Reader_item 82 [some (.ref 67), some (.int x1)] [] (fm_mk S) r) (k5 : x1 = 5 → am_Ev d k_Reader_item 89 [some (.ref 67), some (.int x1)] [] (fm_mk S) r) (k6 : x1 = 6 → am_Ev d k_Reader_item 96 [some (.ref 67), some (.int x1)] [] (fm_mk S) r) (kd : ¬ x1 = 2 → ¬ x1 = 3 → ¬ x1 = 4 → ¬ x1 = 5 → ¬ x1 = 6 → am_Ev d k_Reader_item 103 [some (.ref 67), some (.int x1)] [] (fm_mk S) r) : am_Ev d k_Reader_item 34 [some (.ref 67), some (.int x1)] [] (fm_mk S) r := by
  refine fs_iloadn (j := 1) (by decide +kernel) rfl ?_
  by_cases c2 : x1 = 2
  · exact fs_sw (i := .tableswitch 68 2 6 #[33, 40, 47, 54, 61]) (z := 33) (by decide +kernel) rfl (by rw [c2]; rfl) (k2 c2)
  by_cases c3 : x1 = 3
  · exact fs_sw (i := .tableswitch 68 2 6 #[33, 40, 47, 54, 61]) (z := 33) (by decide +kernel) rfl (by rw [c3]; rfl) (k3 c3)
  by_cases c4 : x1 = 4
  · exact fs_sw (i := .tableswitch 68 2 6 #[33, 40, 47, 54, 61]) (z := 33) (by decide +kernel) rfl (by rw [c4]; rfl) (k4 c4)
  by_cases c5 : x1 = 5
  · exact fs_sw (i := .tableswitch 68 2 6 #[33, 40, 47, 54, 61]) (z := 33) (by decide +kernel) rfl (by rw [c5]; rfl) (k5 c5)
  by_cases c6 : x1 = 6
  · exact fs_sw (i := .tableswitch 68 2 6 #[33, 40, 47, 54, 61]) (z := 33) (by decide +kernel) rfl (by rw [c6]; rfl) (k6 c6)
  have e2 : ¬ (x1).toInt = 2 := fun q => c2 (Int32.toInt_inj.mp (q.trans (by decide)))
  have e3 : ¬ (x1).toInt = 3 := fun q => c3 (Int32.toInt_inj.mp (q.trans (by decide)))
  have e4 : ¬ (x1).toInt = 4 := fun q => c4 (Int32.toInt_inj.mp (q.trans (by decide)))
  have e5 : ¬ (x1).toInt = 5 := fun q => c5 (Int32.toInt_inj.mp (q.trans (by decide)))
  have e6 : ¬ (x1).toInt = 6 := fun q => c6 (Int32.toInt_inj.mp (q.trans (by decide)))
  exact fs_tout (dflt := 68) (lo := 2) (hi := 6) (offs := #[33, 40, 47, 54, 61]) (z := 33) (by decide +kernel) (by omega) (by decide) (kd c2 c3 c4 c5 c6)
theorem b_Reader_item_68 {d : Nat} {x1 : Int32} {S1 : fm_S} {S : fm_S} {r : Option Value × am_W} (hc : am_Sp d k_Reader_streetItem [.ref 67] (fm_mk S) (none) (fm_mk S1)) (nx : am_Ev (d + 1) k_Reader_item 72 [some (.ref 67), some (.int x1)] [] (fm_mk S1) r) : am_Ev (d + 1) k_Reader_item 68 [some (.ref 67), some (.int x1)] [] (fm_mk S) r := by
  refine fs_aloadn (j := 0) (by decide +kernel) rfl ?_
  exact fe_callV (t := 5) (idx := 58) (n := 0) (wp := 528) (q := (530, 9)) (as := []) (rs := []) (by decide +kernel) (by decide +kernel) (by decide +kernel) (by decide +kernel) rfl (Nat.le_of_ble_eq_true rfl) rfl hc nx
theorem b_Reader_item_72 {d : Nat} {x1 : Int32} {S : fm_S} {r : Option Value × am_W} (nx : am_Ev d k_Reader_item 108 [some (.ref 67), some (.int x1)] [] (fm_mk S) r) : am_Ev d k_Reader_item 72 [some (.ref 67), some (.int x1)] [] (fm_mk S) r := by
  refine fs_goto (off := 36) (tgt := 108) (by decide +kernel) (by decide) ?_
  exact nx
theorem b_Reader_item_75 {d : Nat} {x1 : Int32} {S1 : fm_S} {S : fm_S} {r : Option Value × am_W} (hc : am_Sp d k_Reader_laneItem [.ref 67] (fm_mk S) (none) (fm_mk S1)) (nx : am_Ev (d + 1) k_Reader_item 79 [some (.ref 67), some (.int x1)] [] (fm_mk S1) r) : am_Ev (d + 1) k_Reader_item 75 [some (.ref 67), some (.int x1)] [] (fm_mk S) r := by
  refine fs_aloadn (j := 0) (by decide +kernel) rfl ?_
  exact fe_callV (t := 5) (idx := 61) (n := 0) (wp := 542) (q := (544, 12)) (as := []) (rs := []) (by decide +kernel) (by decide +kernel) (by decide +kernel) (by decide +kernel) rfl (Nat.le_of_ble_eq_true rfl) rfl hc nx
theorem b_Reader_item_79 {d : Nat} {x1 : Int32} {S : fm_S} {r : Option Value × am_W} (nx : am_Ev d k_Reader_item 108 [some (.ref 67), some (.int x1)] [] (fm_mk S) r) : am_Ev d k_Reader_item 79 [some (.ref 67), some (.int x1)] [] (fm_mk S) r := by
  refine fs_goto (off := 29) (tgt := 108) (by decide +kernel) (by decide) ?_
  exact nx
theorem b_Reader_item_82 {d : Nat} {x1 : Int32} {S1 : fm_S} {S : fm_S} {r : Option Value × am_W} (hc : am_Sp d k_Reader_gateItem [.ref 67] (fm_mk S) (none) (fm_mk S1)) (nx : am_Ev (d + 1) k_Reader_item 86 [some (.ref 67), some (.int x1)] [] (fm_mk S1) r) : am_Ev (d + 1) k_Reader_item 82 [some (.ref 67), some (.int x1)] [] (fm_mk S) r := by
  refine fs_aloadn (j := 0) (by decide +kernel) rfl ?_
  exact fe_callV (t := 5) (idx := 64) (n := 0) (wp := 547) (q := (549, 13)) (as := []) (rs := []) (by decide +kernel) (by decide +kernel) (by decide +kernel) (by decide +kernel) rfl (Nat.le_of_ble_eq_true rfl) rfl hc nx
theorem b_Reader_item_86 {d : Nat} {x1 : Int32} {S : fm_S} {r : Option Value × am_W} (nx : am_Ev d k_Reader_item 108 [some (.ref 67), some (.int x1)] [] (fm_mk S) r) : am_Ev d k_Reader_item 86 [some (.ref 67), some (.int x1)] [] (fm_mk S) r := by
  refine fs_goto (off := 22) (tgt := 108) (by decide +kernel) (by decide) ?_
  exact nx
theorem b_Reader_item_89 {d : Nat} {x1 : Int32} {S1 : fm_S} {S : fm_S} {r : Option Value × am_W} (hc : am_Sp d k_Reader_windItem [.ref 67] (fm_mk S) (none) (fm_mk S1)) (nx : am_Ev (d + 1) k_Reader_item 93 [some (.ref 67), some (.int x1)] [] (fm_mk S1) r) : am_Ev (d + 1) k_Reader_item 89 [some (.ref 67), some (.int x1)] [] (fm_mk S) r := by
  refine fs_aloadn (j := 0) (by decide +kernel) rfl ?_
  exact fe_callV (t := 5) (idx := 67) (n := 0) (wp := 551) (q := (553, 14)) (as := []) (rs := []) (by decide +kernel) (by decide +kernel) (by decide +kernel) (by decide +kernel) rfl (Nat.le_of_ble_eq_true rfl) rfl hc nx
theorem b_Reader_item_93 {d : Nat} {x1 : Int32} {S : fm_S} {r : Option Value × am_W} (nx : am_Ev d k_Reader_item 108 [some (.ref 67), some (.int x1)] [] (fm_mk S) r) : am_Ev d k_Reader_item 93 [some (.ref 67), some (.int x1)] [] (fm_mk S) r := by
  refine fs_goto (off := 15) (tgt := 108) (by decide +kernel) (by decide) ?_
  exact nx
theorem b_Reader_item_96 {d : Nat} {x1 : Int32} {S1 : fm_S} {S : fm_S} {r : Option Value × am_W} (hc : am_Sp d k_Reader_dishItem [.ref 67] (fm_mk S) (none) (fm_mk S1)) (nx : am_Ev (d + 1) k_Reader_item 100 [some (.ref 67), some (.int x1)] [] (fm_mk S1) r) : am_Ev (d + 1) k_Reader_item 96 [some (.ref 67), some (.int x1)] [] (fm_mk S) r := by
  refine fs_aloadn (j := 0) (by decide +kernel) rfl ?_
  exact fe_callV (t := 5) (idx := 70) (n := 0) (wp := 555) (q := (557, 15)) (as := []) (rs := []) (by decide +kernel) (by decide +kernel) (by decide +kernel) (by decide +kernel) rfl (Nat.le_of_ble_eq_true rfl) rfl hc nx
theorem b_Reader_item_100 {d : Nat} {x1 : Int32} {S : fm_S} {r : Option Value × am_W} (nx : am_Ev d k_Reader_item 108 [some (.ref 67), some (.int x1)] [] (fm_mk S) r) : am_Ev d k_Reader_item 100 [some (.ref 67), some (.int x1)] [] (fm_mk S) r := by
  refine fs_goto (off := 8) (tgt := 108) (by decide +kernel) (by decide) ?_
  exact nx
theorem b_Reader_item_103 {d : Nat} {x1 : Int32} {v : Int32} {S1 : fm_S} {S : fm_S} {r : Option Value × am_W} (hc : am_Sp d k_Reader_endItem [.ref 67] (fm_mk S) (some (.int v)) (fm_mk S1)) (nx : am_Ev (d + 1) k_Reader_item 107 [some (.ref 67), some (.int x1)] [.int v] (fm_mk S1) r) : am_Ev (d + 1) k_Reader_item 103 [some (.ref 67), some (.int x1)] [] (fm_mk S) r := by
  refine fs_aloadn (j := 0) (by decide +kernel) rfl ?_
  exact fe_callV (t := 5) (idx := 73) (n := 0) (wp := 537) (q := (539, 11)) (as := []) (rs := []) (by decide +kernel) (by decide +kernel) (by decide +kernel) (by decide +kernel) rfl (Nat.le_of_ble_eq_true rfl) rfl hc nx
theorem b_Reader_item_107 {d : Nat} {x1 : Int32} {sx0 : Int32} {S : fm_S} {r : Option Value × am_W} (nx : am_Ev d k_Reader_item 108 [some (.ref 67), some (.int x1)] [] (fm_mk S) r) : am_Ev d k_Reader_item 107 [some (.ref 67), some (.int x1)] [.int sx0] (fm_mk S) r := by
  refine fs_pop (by decide +kernel) rfl ?_
  exact nx
theorem b_Reader_item_108 {d : Nat} {x1 : Int32} {S : fm_S}  : am_Ev d k_Reader_item 108 [some (.ref 67), some (.int x1)] [] (fm_mk S) (none, fm_mk (fm_wI S 67 1 ((S.1 67 1) + 1))) := by
  refine fs_aloadn (j := 0) (by decide +kernel) rfl ?_
  refine fs_dup (by decide +kernel) rfl ?_
  refine fe_getI (idx := 29) (t := 5) (f := 1) (fk := 0) (fin := 0) (wp := 287) (by decide +kernel) (by decide +kernel) (by decide +kernel) (by decide +kernel) ?_
  refine fs_iconst (n := 1) (v := 1) (by decide +kernel) (by decide) ?_
  refine fs_iadd (by decide +kernel) ?_
  refine fe_putI (idx := 29) (t := 5) (f := 1) (wp := 287) (by decide +kernel) (by decide +kernel) (by decide +kernel) (by decide +kernel) ?_
  exact fe_retV (by decide +kernel) (by decide +kernel)
-- KitchenSiege$Reader.word()I
theorem b_Reader_word_0 {d : Nat} {v : Int32} {S1 : fm_S} {S : fm_S} {r : Option Value × am_W} (hc : am_Sp d k_Reader_spells [.ref 67, .retAddr 0] (fm_mk S) (some (.int v)) (fm_mk S1)) (nx : am_Ev (d + 1) k_Reader_word 6 [some (.ref 67)] [.int v] (fm_mk S1) r) : am_Ev (d + 1) k_Reader_word 0 [some (.ref 67)] [] (fm_mk S) r := by
  refine fs_aloadn (j := 0) (by decide +kernel) rfl ?_
  refine fs_ldcs (idx := 117) (q := 0) (x := ("town", 466)) (by decide +kernel) (by decide +kernel) (by decide +kernel) ?_
  exact fe_callV (t := 5) (idx := 119) (n := 1) (wp := 467) (q := (469, 7)) (as := [.retAddr 0]) (rs := []) (by decide +kernel) (by decide +kernel) (by decide +kernel) (by decide +kernel) rfl (Nat.le_of_ble_eq_true rfl) rfl hc nx
theorem b_Reader_word_6 {d : Nat} {sx0 : Int32} {S : fm_S} {r : Option Value × am_W} (kt : sx0 = 0 → am_Ev d k_Reader_word 11 [some (.ref 67)] [] (fm_mk S) r) (kf : ¬ sx0 = 0 → am_Ev d k_Reader_word 9 [some (.ref 67)] [] (fm_mk S) r) : am_Ev d k_Reader_word 6 [some (.ref 67)] [.int sx0] (fm_mk S) r := by
  exact fs_ifeq (off := 5) (tgt := 11) (by decide +kernel) (by decide) kt kf
theorem b_Reader_word_9 {d : Nat} {S : fm_S}  : am_Ev d k_Reader_word 9 [some (.ref 67)] [] (fm_mk S) (some (.int 1), fm_mk S) := by
  refine fs_iconst (n := 1) (v := 1) (by decide +kernel) (by decide) ?_
  exact fe_retI (by decide +kernel) (by decide +kernel)
theorem b_Reader_word_11 {d : Nat} {v : Int32} {S1 : fm_S} {S : fm_S} {r : Option Value × am_W} (hc : am_Sp d k_Reader_spells [.ref 67, .retAddr 1] (fm_mk S) (some (.int v)) (fm_mk S1)) (nx : am_Ev (d + 1) k_Reader_word 17 [some (.ref 67)] [.int v] (fm_mk S1) r) : am_Ev (d + 1) k_Reader_word 11 [some (.ref 67)] [] (fm_mk S) r := by
  refine fs_aloadn (j := 0) (by decide +kernel) rfl ?_
  refine fs_ldcs (idx := 123) (q := 1) (x := ("street", 519)) (by decide +kernel) (by decide +kernel) (by decide +kernel) ?_
  exact fe_callV (t := 5) (idx := 119) (n := 1) (wp := 467) (q := (469, 7)) (as := [.retAddr 1]) (rs := []) (by decide +kernel) (by decide +kernel) (by decide +kernel) (by decide +kernel) rfl (Nat.le_of_ble_eq_true rfl) rfl hc nx
theorem b_Reader_word_17 {d : Nat} {sx0 : Int32} {S : fm_S} {r : Option Value × am_W} (kt : sx0 = 0 → am_Ev d k_Reader_word 22 [some (.ref 67)] [] (fm_mk S) r) (kf : ¬ sx0 = 0 → am_Ev d k_Reader_word 20 [some (.ref 67)] [] (fm_mk S) r) : am_Ev d k_Reader_word 17 [some (.ref 67)] [.int sx0] (fm_mk S) r := by
  exact fs_ifeq (off := 5) (tgt := 22) (by decide +kernel) (by decide) kt kf
theorem b_Reader_word_20 {d : Nat} {S : fm_S}  : am_Ev d k_Reader_word 20 [some (.ref 67)] [] (fm_mk S) (some (.int 2), fm_mk S) := by
  refine fs_iconst (n := 2) (v := 2) (by decide +kernel) (by decide) ?_
  exact fe_retI (by decide +kernel) (by decide +kernel)
theorem b_Reader_word_22 {d : Nat} {v : Int32} {S1 : fm_S} {S : fm_S} {r : Option Value × am_W} (hc : am_Sp d k_Reader_spells [.ref 67, .retAddr 2] (fm_mk S) (some (.int v)) (fm_mk S1)) (nx : am_Ev (d + 1) k_Reader_word 28 [some (.ref 67)] [.int v] (fm_mk S1) r) : am_Ev (d + 1) k_Reader_word 22 [some (.ref 67)] [] (fm_mk S) r := by
  refine fs_aloadn (j := 0) (by decide +kernel) rfl ?_
  refine fs_ldcs (idx := 125) (q := 2) (x := ("lane", 520)) (by decide +kernel) (by decide +kernel) (by decide +kernel) ?_
  exact fe_callV (t := 5) (idx := 119) (n := 1) (wp := 467) (q := (469, 7)) (as := [.retAddr 2]) (rs := []) (by decide +kernel) (by decide +kernel) (by decide +kernel) (by decide +kernel) rfl (Nat.le_of_ble_eq_true rfl) rfl hc nx
theorem b_Reader_word_28 {d : Nat} {sx0 : Int32} {S : fm_S} {r : Option Value × am_W} (kt : sx0 = 0 → am_Ev d k_Reader_word 33 [some (.ref 67)] [] (fm_mk S) r) (kf : ¬ sx0 = 0 → am_Ev d k_Reader_word 31 [some (.ref 67)] [] (fm_mk S) r) : am_Ev d k_Reader_word 28 [some (.ref 67)] [.int sx0] (fm_mk S) r := by
  exact fs_ifeq (off := 5) (tgt := 33) (by decide +kernel) (by decide) kt kf
theorem b_Reader_word_31 {d : Nat} {S : fm_S}  : am_Ev d k_Reader_word 31 [some (.ref 67)] [] (fm_mk S) (some (.int 3), fm_mk S) := by
  refine fs_iconst (n := 3) (v := 3) (by decide +kernel) (by decide) ?_
  exact fe_retI (by decide +kernel) (by decide +kernel)
theorem b_Reader_word_33 {d : Nat} {v : Int32} {S1 : fm_S} {S : fm_S} {r : Option Value × am_W} (hc : am_Sp d k_Reader_spells [.ref 67, .retAddr 3] (fm_mk S) (some (.int v)) (fm_mk S1)) (nx : am_Ev (d + 1) k_Reader_word 39 [some (.ref 67)] [.int v] (fm_mk S1) r) : am_Ev (d + 1) k_Reader_word 33 [some (.ref 67)] [] (fm_mk S) r := by
  refine fs_aloadn (j := 0) (by decide +kernel) rfl ?_
  refine fs_ldcs (idx := 127) (q := 3) (x := ("gate", 521)) (by decide +kernel) (by decide +kernel) (by decide +kernel) ?_
  exact fe_callV (t := 5) (idx := 119) (n := 1) (wp := 467) (q := (469, 7)) (as := [.retAddr 3]) (rs := []) (by decide +kernel) (by decide +kernel) (by decide +kernel) (by decide +kernel) rfl (Nat.le_of_ble_eq_true rfl) rfl hc nx
theorem b_Reader_word_39 {d : Nat} {sx0 : Int32} {S : fm_S} {r : Option Value × am_W} (kt : sx0 = 0 → am_Ev d k_Reader_word 44 [some (.ref 67)] [] (fm_mk S) r) (kf : ¬ sx0 = 0 → am_Ev d k_Reader_word 42 [some (.ref 67)] [] (fm_mk S) r) : am_Ev d k_Reader_word 39 [some (.ref 67)] [.int sx0] (fm_mk S) r := by
  exact fs_ifeq (off := 5) (tgt := 44) (by decide +kernel) (by decide) kt kf
theorem b_Reader_word_42 {d : Nat} {S : fm_S}  : am_Ev d k_Reader_word 42 [some (.ref 67)] [] (fm_mk S) (some (.int 4), fm_mk S) := by
  refine fs_iconst (n := 4) (v := 4) (by decide +kernel) (by decide) ?_
  exact fe_retI (by decide +kernel) (by decide +kernel)
theorem b_Reader_word_44 {d : Nat} {v : Int32} {S1 : fm_S} {S : fm_S} {r : Option Value × am_W} (hc : am_Sp d k_Reader_spells [.ref 67, .retAddr 4] (fm_mk S) (some (.int v)) (fm_mk S1)) (nx : am_Ev (d + 1) k_Reader_word 50 [some (.ref 67)] [.int v] (fm_mk S1) r) : am_Ev (d + 1) k_Reader_word 44 [some (.ref 67)] [] (fm_mk S) r := by
  refine fs_aloadn (j := 0) (by decide +kernel) rfl ?_
  refine fs_ldcs (idx := 129) (q := 4) (x := ("wind", 522)) (by decide +kernel) (by decide +kernel) (by decide +kernel) ?_
  exact fe_callV (t := 5) (idx := 119) (n := 1) (wp := 467) (q := (469, 7)) (as := [.retAddr 4]) (rs := []) (by decide +kernel) (by decide +kernel) (by decide +kernel) (by decide +kernel) rfl (Nat.le_of_ble_eq_true rfl) rfl hc nx
theorem b_Reader_word_50 {d : Nat} {sx0 : Int32} {S : fm_S} {r : Option Value × am_W} (kt : sx0 = 0 → am_Ev d k_Reader_word 55 [some (.ref 67)] [] (fm_mk S) r) (kf : ¬ sx0 = 0 → am_Ev d k_Reader_word 53 [some (.ref 67)] [] (fm_mk S) r) : am_Ev d k_Reader_word 50 [some (.ref 67)] [.int sx0] (fm_mk S) r := by
  exact fs_ifeq (off := 5) (tgt := 55) (by decide +kernel) (by decide) kt kf
theorem b_Reader_word_53 {d : Nat} {S : fm_S}  : am_Ev d k_Reader_word 53 [some (.ref 67)] [] (fm_mk S) (some (.int 5), fm_mk S) := by
  refine fs_iconst (n := 5) (v := 5) (by decide +kernel) (by decide) ?_
  exact fe_retI (by decide +kernel) (by decide +kernel)
theorem b_Reader_word_55 {d : Nat} {v : Int32} {S1 : fm_S} {S : fm_S} {r : Option Value × am_W} (hc : am_Sp d k_Reader_spells [.ref 67, .retAddr 5] (fm_mk S) (some (.int v)) (fm_mk S1)) (nx : am_Ev (d + 1) k_Reader_word 61 [some (.ref 67)] [.int v] (fm_mk S1) r) : am_Ev (d + 1) k_Reader_word 55 [some (.ref 67)] [] (fm_mk S) r := by
  refine fs_aloadn (j := 0) (by decide +kernel) rfl ?_
  refine fs_ldcs (idx := 131) (q := 5) (x := ("dish", 523)) (by decide +kernel) (by decide +kernel) (by decide +kernel) ?_
  exact fe_callV (t := 5) (idx := 119) (n := 1) (wp := 467) (q := (469, 7)) (as := [.retAddr 5]) (rs := []) (by decide +kernel) (by decide +kernel) (by decide +kernel) (by decide +kernel) rfl (Nat.le_of_ble_eq_true rfl) rfl hc nx
theorem b_Reader_word_61 {d : Nat} {sx0 : Int32} {S : fm_S} {r : Option Value × am_W} (kt : sx0 = 0 → am_Ev d k_Reader_word 69 [some (.ref 67)] [] (fm_mk S) r) (kf : ¬ sx0 = 0 → am_Ev d k_Reader_word 64 [some (.ref 67)] [] (fm_mk S) r) : am_Ev d k_Reader_word 61 [some (.ref 67)] [.int sx0] (fm_mk S) r := by
  exact fs_ifeq (off := 8) (tgt := 69) (by decide +kernel) (by decide) kt kf
theorem b_Reader_word_64 {d : Nat} {S : fm_S} {r : Option Value × am_W} (nx : am_Ev d k_Reader_word 70 [some (.ref 67)] [.int 6] (fm_mk S) r) : am_Ev d k_Reader_word 64 [some (.ref 67)] [] (fm_mk S) r := by
  refine fs_bipush (n := 6) (v := 6) (by decide +kernel) (by decide) ?_
  refine fs_goto (off := 4) (tgt := 70) (by decide +kernel) (by decide) ?_
  exact nx
theorem b_Reader_word_69 {d : Nat} {S : fm_S} {r : Option Value × am_W} (nx : am_Ev d k_Reader_word 70 [some (.ref 67)] [.int 0] (fm_mk S) r) : am_Ev d k_Reader_word 69 [some (.ref 67)] [] (fm_mk S) r := by
  refine fs_iconst (n := 0) (v := 0) (by decide +kernel) (by decide) ?_
  exact nx
theorem b_Reader_word_70 {d : Nat} {sx0 : Int32} {S : fm_S}  : am_Ev d k_Reader_word 70 [some (.ref 67)] [.int sx0] (fm_mk S) (some (.int sx0), fm_mk S) := by
  exact fe_retI (by decide +kernel) (by decide +kernel)
-- KitchenSiege$Reader.spells(Ljava/lang/String;)Z
theorem b_Reader_spells_0 {d : Nat} {q1 : Nat} {o2 : Option Value} {ev : Int32} {S : fm_S} {r : Option Value × am_W} (hx0 : am_xe (am_kl k_Reader_spells) d (.invokevirtual 133) [.retAddr q1, .int ((S.1 67 5) - (S.1 67 6))] = some (.int ev :: [.int ((S.1 67 5) - (S.1 67 6))])) (nx : am_Ev d k_Reader_spells 13 [some (.ref 67), some (.retAddr q1), o2] [.int ev, .int ((S.1 67 5) - (S.1 67 6))] (fm_mk S) r) : am_Ev d k_Reader_spells 0 [some (.ref 67), some (.retAddr q1), o2] [] (fm_mk S) r := by
  refine fs_aloadn (j := 0) (by decide +kernel) rfl ?_
  refine fe_getI (idx := 32) (t := 5) (f := 5) (fk := 0) (fin := 0) (wp := 293) (by decide +kernel) (by decide +kernel) (by decide +kernel) (by decide +kernel) ?_
  refine fs_aloadn (j := 0) (by decide +kernel) rfl ?_
  refine fe_getI (idx := 44) (t := 5) (f := 6) (fk := 0) (fin := 0) (wp := 294) (by decide +kernel) (by decide +kernel) (by decide +kernel) (by decide +kernel) ?_
  refine fs_isub (by decide +kernel) ?_
  refine fs_aloads (j := 1) (by decide +kernel) rfl ?_
  refine ev_ext (by decide +kernel) rfl rfl (by rfl) hx0 ?_
  exact nx
theorem b_Reader_spells_13 {d : Nat} {q1 : Nat} {o2 : Option Value} {sx0 : Int32} {sx1 : Int32} {S : fm_S} {r : Option Value × am_W} (kt : sx0 = sx1 → am_Ev d k_Reader_spells 18 [some (.ref 67), some (.retAddr q1), o2] [] (fm_mk S) r) (kf : ¬ sx0 = sx1 → am_Ev d k_Reader_spells 16 [some (.ref 67), some (.retAddr q1), o2] [] (fm_mk S) r) : am_Ev d k_Reader_spells 13 [some (.ref 67), some (.retAddr q1), o2] [.int sx1, .int sx0] (fm_mk S) r := by
  exact fs_iceq (off := 5) (tgt := 18) (by decide +kernel) (by decide) kt kf
theorem b_Reader_spells_16 {d : Nat} {q1 : Nat} {o2 : Option Value} {S : fm_S}  : am_Ev d k_Reader_spells 16 [some (.ref 67), some (.retAddr q1), o2] [] (fm_mk S) (some (.int 0), fm_mk S) := by
  refine fs_iconst (n := 0) (v := 0) (by decide +kernel) (by decide) ?_
  exact fe_retZ (by decide +kernel) (by decide +kernel) (by decide)
theorem b_Reader_spells_18 {d : Nat} {q1 : Nat} {o2 : Option Value} {S : fm_S} {r : Option Value × am_W} (nx : am_Ev d k_Reader_spells 20 [some (.ref 67), some (.retAddr q1), some (.int 0)] [] (fm_mk S) r) : am_Ev d k_Reader_spells 18 [some (.ref 67), some (.retAddr q1), o2] [] (fm_mk S) r := by
  refine fs_iconst (n := 0) (v := 0) (by decide +kernel) (by decide) ?_
  refine fs_istoren (j := 2) (L' := [some (.ref 67), some (.retAddr q1), some (.int 0)]) (by decide +kernel) (Nat.le_of_ble_eq_true rfl) rfl ?_
  exact nx
theorem b_Reader_spells_20 {d : Nat} {q1 : Nat} {x2 : Int32} {ev : Int32} {S : fm_S} {r : Option Value × am_W} (hx0 : am_xe (am_kl k_Reader_spells) d (.invokevirtual 133) [.retAddr q1, .int x2] = some (.int ev :: [.int x2])) (nx : am_Ev d k_Reader_spells 25 [some (.ref 67), some (.retAddr q1), some (.int x2)] [.int ev, .int x2] (fm_mk S) r) : am_Ev d k_Reader_spells 20 [some (.ref 67), some (.retAddr q1), some (.int x2)] [] (fm_mk S) r := by
  refine fs_iloadn (j := 2) (by decide +kernel) rfl ?_
  refine fs_aloads (j := 1) (by decide +kernel) rfl ?_
  refine ev_ext (by decide +kernel) rfl rfl (by rfl) hx0 ?_
  exact nx
theorem b_Reader_spells_25 {d : Nat} {q1 : Nat} {x2 : Int32} {sx0 : Int32} {sx1 : Int32} {S : fm_S} {r : Option Value × am_W} (kt : sx1 ≤ sx0 → am_Ev d k_Reader_spells 55 [some (.ref 67), some (.retAddr q1), some (.int x2)] [] (fm_mk S) r) (kf : ¬ sx1 ≤ sx0 → am_Ev d k_Reader_spells 28 [some (.ref 67), some (.retAddr q1), some (.int x2)] [] (fm_mk S) r) : am_Ev d k_Reader_spells 25 [some (.ref 67), some (.retAddr q1), some (.int x2)] [.int sx1, .int sx0] (fm_mk S) r := by
  exact fs_icge (off := 30) (tgt := 55) (by decide +kernel) (by decide) kt kf
theorem b_Reader_spells_28 {d : Nat} {q1 : Nat} {x2 : Int32} {ev : Int32} {S : fm_S} {r : Option Value × am_W} (hi0 : vp_in ((S.1 67 6) + x2) 150) (hx1 : am_xe (am_kl k_Reader_spells) d (.invokevirtual 137) [.int x2, .retAddr q1, .int (S.1 121 (((S.1 67 6) + x2).toNatClampNeg))] = some (.int ev :: [.int (S.1 121 (((S.1 67 6) + x2).toNatClampNeg))])) (nx : am_Ev d k_Reader_spells 44 [some (.ref 67), some (.retAddr q1), some (.int x2)] [.int ev, .int (S.1 121 (((S.1 67 6) + x2).toNatClampNeg))] (fm_mk S) r) : am_Ev d k_Reader_spells 28 [some (.ref 67), some (.retAddr q1), some (.int x2)] [] (fm_mk S) r := by
  refine fs_aloadn (j := 0) (by decide +kernel) rfl ?_
  refine fe_getR (idx := 18) (t := 5) (f := 3) (fk := 2) (fin := 1) (wp := 291) (x := 121) (by decide +kernel) (by decide +kernel) (by decide +kernel) (by decide +kernel) (by decide +kernel) ?_
  refine fs_aloadn (j := 0) (by decide +kernel) rfl ?_
  refine fe_getI (idx := 44) (t := 5) (f := 6) (fk := 0) (fin := 0) (wp := 294) (by decide +kernel) (by decide +kernel) (by decide +kernel) (by decide +kernel) ?_
  refine fs_iloadn (j := 2) (by decide +kernel) rfl ?_
  refine fs_iadd (by decide +kernel) ?_
  refine fx_iald (n := ((S.1 67 6) + x2).toNatClampNeg) (len := 150) (by decide +kernel) (by decide +kernel) (by decide +kernel) hi0 rfl ?_
  refine fs_aloads (j := 1) (by decide +kernel) rfl ?_
  refine fs_iloadn (j := 2) (by decide +kernel) rfl ?_
  refine ev_ext (by decide +kernel) rfl rfl (by rfl) hx1 ?_
  exact nx
theorem b_Reader_spells_44 {d : Nat} {q1 : Nat} {x2 : Int32} {sx0 : Int32} {sx1 : Int32} {S : fm_S} {r : Option Value × am_W} (kt : sx0 = sx1 → am_Ev d k_Reader_spells 49 [some (.ref 67), some (.retAddr q1), some (.int x2)] [] (fm_mk S) r) (kf : ¬ sx0 = sx1 → am_Ev d k_Reader_spells 47 [some (.ref 67), some (.retAddr q1), some (.int x2)] [] (fm_mk S) r) : am_Ev d k_Reader_spells 44 [some (.ref 67), some (.retAddr q1), some (.int x2)] [.int sx1, .int sx0] (fm_mk S) r := by
  exact fs_iceq (off := 5) (tgt := 49) (by decide +kernel) (by decide) kt kf
theorem b_Reader_spells_47 {d : Nat} {q1 : Nat} {x2 : Int32} {S : fm_S}  : am_Ev d k_Reader_spells 47 [some (.ref 67), some (.retAddr q1), some (.int x2)] [] (fm_mk S) (some (.int 0), fm_mk S) := by
  refine fs_iconst (n := 0) (v := 0) (by decide +kernel) (by decide) ?_
  exact fe_retZ (by decide +kernel) (by decide +kernel) (by decide)
theorem b_Reader_spells_49 {d : Nat} {q1 : Nat} {x2 : Int32} {S : fm_S} {r : Option Value × am_W} (nx : am_Ev d k_Reader_spells 20 [some (.ref 67), some (.retAddr q1), some (.int (x2 + 1))] [] (fm_mk S) r) : am_Ev d k_Reader_spells 49 [some (.ref 67), some (.retAddr q1), some (.int x2)] [] (fm_mk S) r := by
  refine fs_iinc (j := 2) (n := 1) (v := 1) (L' := [some (.ref 67), some (.retAddr q1), some (.int (x2 + 1))]) (by decide +kernel) rfl (Nat.le_of_ble_eq_true rfl) (by decide) rfl ?_
  refine fs_goto (off := -32) (tgt := 20) (by decide +kernel) (by decide) ?_
  exact nx
theorem b_Reader_spells_55 {d : Nat} {q1 : Nat} {x2 : Int32} {S : fm_S}  : am_Ev d k_Reader_spells 55 [some (.ref 67), some (.retAddr q1), some (.int x2)] [] (fm_mk S) (some (.int 1), fm_mk S) := by
  refine fs_iconst (n := 1) (v := 1) (by decide +kernel) (by decide) ?_
  exact fe_retZ (by decide +kernel) (by decide +kernel) (by decide)
-- KitchenSiege$Reader.mayStand(I)Z
theorem b_Reader_mayStand_0 {d : Nat} {x1 : Int32} {S : fm_S} {r : Option Value × am_W} (k0 : x1 = 0 → am_Ev d k_Reader_mayStand 44 [some (.ref 67), some (.int x1)] [] (fm_mk S) r) (k1 : x1 = 1 → am_Ev d k_Reader_mayStand 46 [some (.ref 67), some (.int x1)] [] (fm_mk S) r) (k2 : x1 = 2 → am_Ev d k_Reader_mayStand 59 [some (.ref 67), some (.int x1)] [] (fm_mk S) r) (k3 : x1 = 3 → am_Ev d k_Reader_mayStand 109 [some (.ref 67), some (.int x1)] [] (fm_mk S) r) (k4 : x1 = 4 → am_Ev d k_Reader_mayStand 109 [some (.ref 67), some (.int x1)] [] (fm_mk S) r) (k5 : x1 = 5 → am_Ev d k_Reader_mayStand 109 [some (.ref 67), some (.int x1)] [] (fm_mk S) r) (k6 : x1 = 6 → am_Ev d k_Reader_mayStand 84 [some (.ref 67), some (.int x1)] [] (fm_mk S) r) (kd : ¬ x1 = 0 → ¬ x1 = 1 → ¬ x1 = 2 → ¬ x1 = 3 → ¬ x1 = 4 → ¬ x1 = 5 → ¬ x1 = 6 → am_Ev d k_Reader_mayStand 109 [some (.ref 67), some (.int x1)] [] (fm_mk S) r) : am_Ev d k_Reader_mayStand 0 [some (.ref 67), some (.int x1)] [] (fm_mk S) r := by
  refine fs_iloadn (j := 1) (by decide +kernel) rfl ?_
  by_cases c0 : x1 = 0
  · exact fs_sw (i := .tableswitch 108 0 6 #[43, 45, 58, 108, 108, 108, 83]) (z := 43) (by decide +kernel) rfl (by rw [c0]; rfl) (k0 c0)
  by_cases c1 : x1 = 1
  · exact fs_sw (i := .tableswitch 108 0 6 #[43, 45, 58, 108, 108, 108, 83]) (z := 43) (by decide +kernel) rfl (by rw [c1]; rfl) (k1 c1)
  by_cases c2 : x1 = 2
  · exact fs_sw (i := .tableswitch 108 0 6 #[43, 45, 58, 108, 108, 108, 83]) (z := 43) (by decide +kernel) rfl (by rw [c2]; rfl) (k2 c2)
  by_cases c3 : x1 = 3
  · exact fs_sw (i := .tableswitch 108 0 6 #[43, 45, 58, 108, 108, 108, 83]) (z := 43) (by decide +kernel) rfl (by rw [c3]; rfl) (k3 c3)
  by_cases c4 : x1 = 4
  · exact fs_sw (i := .tableswitch 108 0 6 #[43, 45, 58, 108, 108, 108, 83]) (z := 43) (by decide +kernel) rfl (by rw [c4]; rfl) (k4 c4)
  by_cases c5 : x1 = 5
  · exact fs_sw (i := .tableswitch 108 0 6 #[43, 45, 58, 108, 108, 108, 83]) (z := 43) (by decide +kernel) rfl (by rw [c5]; rfl) (k5 c5)
  by_cases c6 : x1 = 6
  · exact fs_sw (i := .tableswitch 108 0 6 #[43, 45, 58, 108, 108, 108, 83]) (z := 43) (by decide +kernel) rfl (by rw [c6]; rfl) (k6 c6)
  have e0 : ¬ (x1).toInt = 0 := fun q => c0 (Int32.toInt_inj.mp (q.trans (by decide)))
  have e1 : ¬ (x1).toInt = 1 := fun q => c1 (Int32.toInt_inj.mp (q.trans (by decide)))
  have e2 : ¬ (x1).toInt = 2 := fun q => c2 (Int32.toInt_inj.mp (q.trans (by decide)))
  have e3 : ¬ (x1).toInt = 3 := fun q => c3 (Int32.toInt_inj.mp (q.trans (by decide)))
  have e4 : ¬ (x1).toInt = 4 := fun q => c4 (Int32.toInt_inj.mp (q.trans (by decide)))
  have e5 : ¬ (x1).toInt = 5 := fun q => c5 (Int32.toInt_inj.mp (q.trans (by decide)))
  have e6 : ¬ (x1).toInt = 6 := fun q => c6 (Int32.toInt_inj.mp (q.trans (by decide)))
  exact fs_tout (dflt := 108) (lo := 0) (hi := 6) (offs := #[43, 45, 58, 108, 108, 108, 83]) (z := 43) (by decide +kernel) (by omega) (by decide) (kd c0 c1 c2 c3 c4 c5 c6)
theorem b_Reader_mayStand_44 {d : Nat} {x1 : Int32} {S : fm_S}  : am_Ev d k_Reader_mayStand 44 [some (.ref 67), some (.int x1)] [] (fm_mk S) (some (.int 0), fm_mk S) := by
  refine fs_iconst (n := 0) (v := 0) (by decide +kernel) (by decide) ?_
  exact fe_retZ (by decide +kernel) (by decide +kernel) (by decide)
theorem b_Reader_mayStand_46 {d : Nat} {x1 : Int32} {S : fm_S} {r : Option Value × am_W} (kt : ¬ (S.1 67 1) = 0 → am_Ev d k_Reader_mayStand 57 [some (.ref 67), some (.int x1)] [] (fm_mk S) r) (kf : (S.1 67 1) = 0 → am_Ev d k_Reader_mayStand 53 [some (.ref 67), some (.int x1)] [] (fm_mk S) r) : am_Ev d k_Reader_mayStand 46 [some (.ref 67), some (.int x1)] [] (fm_mk S) r := by
  refine fs_aloadn (j := 0) (by decide +kernel) rfl ?_
  refine fe_getI (idx := 29) (t := 5) (f := 1) (fk := 0) (fin := 0) (wp := 287) (by decide +kernel) (by decide +kernel) (by decide +kernel) (by decide +kernel) ?_
  exact fs_ifne (off := 7) (tgt := 57) (by decide +kernel) (by decide) kt kf
theorem b_Reader_mayStand_53 {d : Nat} {x1 : Int32} {S : fm_S} {r : Option Value × am_W} (nx : am_Ev d k_Reader_mayStand 58 [some (.ref 67), some (.int x1)] [.int 1] (fm_mk S) r) : am_Ev d k_Reader_mayStand 53 [some (.ref 67), some (.int x1)] [] (fm_mk S) r := by
  refine fs_iconst (n := 1) (v := 1) (by decide +kernel) (by decide) ?_
  refine fs_goto (off := 4) (tgt := 58) (by decide +kernel) (by decide) ?_
  exact nx
theorem b_Reader_mayStand_57 {d : Nat} {x1 : Int32} {S : fm_S} {r : Option Value × am_W} (nx : am_Ev d k_Reader_mayStand 58 [some (.ref 67), some (.int x1)] [.int 0] (fm_mk S) r) : am_Ev d k_Reader_mayStand 57 [some (.ref 67), some (.int x1)] [] (fm_mk S) r := by
  refine fs_iconst (n := 0) (v := 0) (by decide +kernel) (by decide) ?_
  exact nx
theorem b_Reader_mayStand_58 {d : Nat} {x1 : Int32} {sx0 : Int32} {S : fm_S}  (hz : sx0 = 0 ∨ sx0 = 1) : am_Ev d k_Reader_mayStand 58 [some (.ref 67), some (.int x1)] [.int sx0] (fm_mk S) (some (.int sx0), fm_mk S) := by
  exact fe_retZ (by decide +kernel) (by decide +kernel) hz
theorem b_Reader_mayStand_59 {d : Nat} {x1 : Int32} {S : fm_S} {r : Option Value × am_W} (kt : (S.1 67 1) ≤ 0 → am_Ev d k_Reader_mayStand 82 [some (.ref 67), some (.int x1)] [] (fm_mk S) r) (kf : ¬ (S.1 67 1) ≤ 0 → am_Ev d k_Reader_mayStand 66 [some (.ref 67), some (.int x1)] [] (fm_mk S) r) : am_Ev d k_Reader_mayStand 59 [some (.ref 67), some (.int x1)] [] (fm_mk S) r := by
  refine fs_aloadn (j := 0) (by decide +kernel) rfl ?_
  refine fe_getI (idx := 29) (t := 5) (f := 1) (fk := 0) (fin := 0) (wp := 287) (by decide +kernel) (by decide +kernel) (by decide +kernel) (by decide +kernel) ?_
  exact fs_ifle (off := 19) (tgt := 82) (by decide +kernel) (by decide) kt kf
theorem b_Reader_mayStand_66 {d : Nat} {x1 : Int32} {S : fm_S} {r : Option Value × am_W} (kt : 8 ≤ (S.1 68 0) → am_Ev d k_Reader_mayStand 82 [some (.ref 67), some (.int x1)] [] (fm_mk S) r) (kf : ¬ 8 ≤ (S.1 68 0) → am_Ev d k_Reader_mayStand 78 [some (.ref 67), some (.int x1)] [] (fm_mk S) r) : am_Ev d k_Reader_mayStand 66 [some (.ref 67), some (.int x1)] [] (fm_mk S) r := by
  refine fs_aloadn (j := 0) (by decide +kernel) rfl ?_
  refine fe_getR (idx := 12) (t := 5) (f := 2) (fk := 2) (fin := 1) (wp := 289) (x := 68) (by decide +kernel) (by decide +kernel) (by decide +kernel) (by decide +kernel) (by decide +kernel) ?_
  refine fe_getI (idx := 77) (t := 6) (f := 0) (fk := 0) (fin := 0) (wp := 160) (by decide +kernel) (by decide +kernel) (by decide +kernel) (by decide +kernel) ?_
  refine fs_bipush (n := 8) (v := 8) (by decide +kernel) (by decide) ?_
  exact fs_icge (off := 7) (tgt := 82) (by decide +kernel) (by decide) kt kf
theorem b_Reader_mayStand_78 {d : Nat} {x1 : Int32} {S : fm_S} {r : Option Value × am_W} (nx : am_Ev d k_Reader_mayStand 83 [some (.ref 67), some (.int x1)] [.int 1] (fm_mk S) r) : am_Ev d k_Reader_mayStand 78 [some (.ref 67), some (.int x1)] [] (fm_mk S) r := by
  refine fs_iconst (n := 1) (v := 1) (by decide +kernel) (by decide) ?_
  refine fs_goto (off := 4) (tgt := 83) (by decide +kernel) (by decide) ?_
  exact nx
theorem b_Reader_mayStand_82 {d : Nat} {x1 : Int32} {S : fm_S} {r : Option Value × am_W} (nx : am_Ev d k_Reader_mayStand 83 [some (.ref 67), some (.int x1)] [.int 0] (fm_mk S) r) : am_Ev d k_Reader_mayStand 82 [some (.ref 67), some (.int x1)] [] (fm_mk S) r := by
  refine fs_iconst (n := 0) (v := 0) (by decide +kernel) (by decide) ?_
  exact nx
theorem b_Reader_mayStand_83 {d : Nat} {x1 : Int32} {sx0 : Int32} {S : fm_S}  (hz : sx0 = 0 ∨ sx0 = 1) : am_Ev d k_Reader_mayStand 83 [some (.ref 67), some (.int x1)] [.int sx0] (fm_mk S) (some (.int sx0), fm_mk S) := by
  exact fe_retZ (by decide +kernel) (by decide +kernel) hz
theorem b_Reader_mayStand_84 {d : Nat} {x1 : Int32} {S : fm_S} {r : Option Value × am_W} (kt : (S.1 67 1) ≤ 0 → am_Ev d k_Reader_mayStand 107 [some (.ref 67), some (.int x1)] [] (fm_mk S) r) (kf : ¬ (S.1 67 1) ≤ 0 → am_Ev d k_Reader_mayStand 91 [some (.ref 67), some (.int x1)] [] (fm_mk S) r) : am_Ev d k_Reader_mayStand 84 [some (.ref 67), some (.int x1)] [] (fm_mk S) r := by
  refine fs_aloadn (j := 0) (by decide +kernel) rfl ?_
  refine fe_getI (idx := 29) (t := 5) (f := 1) (fk := 0) (fin := 0) (wp := 287) (by decide +kernel) (by decide +kernel) (by decide +kernel) (by decide +kernel) ?_
  exact fs_ifle (off := 19) (tgt := 107) (by decide +kernel) (by decide) kt kf
theorem b_Reader_mayStand_91 {d : Nat} {x1 : Int32} {S : fm_S} {r : Option Value × am_W} (kt : 6 ≤ (S.1 68 7) → am_Ev d k_Reader_mayStand 107 [some (.ref 67), some (.int x1)] [] (fm_mk S) r) (kf : ¬ 6 ≤ (S.1 68 7) → am_Ev d k_Reader_mayStand 103 [some (.ref 67), some (.int x1)] [] (fm_mk S) r) : am_Ev d k_Reader_mayStand 91 [some (.ref 67), some (.int x1)] [] (fm_mk S) r := by
  refine fs_aloadn (j := 0) (by decide +kernel) rfl ?_
  refine fe_getR (idx := 12) (t := 5) (f := 2) (fk := 2) (fin := 1) (wp := 289) (x := 68) (by decide +kernel) (by decide +kernel) (by decide +kernel) (by decide +kernel) (by decide +kernel) ?_
  refine fe_getI (idx := 80) (t := 6) (f := 7) (fk := 0) (fin := 0) (wp := 177) (by decide +kernel) (by decide +kernel) (by decide +kernel) (by decide +kernel) ?_
  refine fs_bipush (n := 6) (v := 6) (by decide +kernel) (by decide) ?_
  exact fs_icge (off := 7) (tgt := 107) (by decide +kernel) (by decide) kt kf
theorem b_Reader_mayStand_103 {d : Nat} {x1 : Int32} {S : fm_S} {r : Option Value × am_W} (nx : am_Ev d k_Reader_mayStand 108 [some (.ref 67), some (.int x1)] [.int 1] (fm_mk S) r) : am_Ev d k_Reader_mayStand 103 [some (.ref 67), some (.int x1)] [] (fm_mk S) r := by
  refine fs_iconst (n := 1) (v := 1) (by decide +kernel) (by decide) ?_
  refine fs_goto (off := 4) (tgt := 108) (by decide +kernel) (by decide) ?_
  exact nx
theorem b_Reader_mayStand_107 {d : Nat} {x1 : Int32} {S : fm_S} {r : Option Value × am_W} (nx : am_Ev d k_Reader_mayStand 108 [some (.ref 67), some (.int x1)] [.int 0] (fm_mk S) r) : am_Ev d k_Reader_mayStand 107 [some (.ref 67), some (.int x1)] [] (fm_mk S) r := by
  refine fs_iconst (n := 0) (v := 0) (by decide +kernel) (by decide) ?_
  exact nx
theorem b_Reader_mayStand_108 {d : Nat} {x1 : Int32} {sx0 : Int32} {S : fm_S}  (hz : sx0 = 0 ∨ sx0 = 1) : am_Ev d k_Reader_mayStand 108 [some (.ref 67), some (.int x1)] [.int sx0] (fm_mk S) (some (.int sx0), fm_mk S) := by
  exact fe_retZ (by decide +kernel) (by decide +kernel) hz
theorem b_Reader_mayStand_109 {d : Nat} {x1 : Int32} {S : fm_S} {r : Option Value × am_W} (kt : (S.1 67 1) ≤ 0 → am_Ev d k_Reader_mayStand 120 [some (.ref 67), some (.int x1)] [] (fm_mk S) r) (kf : ¬ (S.1 67 1) ≤ 0 → am_Ev d k_Reader_mayStand 116 [some (.ref 67), some (.int x1)] [] (fm_mk S) r) : am_Ev d k_Reader_mayStand 109 [some (.ref 67), some (.int x1)] [] (fm_mk S) r := by
  refine fs_aloadn (j := 0) (by decide +kernel) rfl ?_
  refine fe_getI (idx := 29) (t := 5) (f := 1) (fk := 0) (fin := 0) (wp := 287) (by decide +kernel) (by decide +kernel) (by decide +kernel) (by decide +kernel) ?_
  exact fs_ifle (off := 7) (tgt := 120) (by decide +kernel) (by decide) kt kf
theorem b_Reader_mayStand_116 {d : Nat} {x1 : Int32} {S : fm_S} {r : Option Value × am_W} (nx : am_Ev d k_Reader_mayStand 121 [some (.ref 67), some (.int x1)] [.int 1] (fm_mk S) r) : am_Ev d k_Reader_mayStand 116 [some (.ref 67), some (.int x1)] [] (fm_mk S) r := by
  refine fs_iconst (n := 1) (v := 1) (by decide +kernel) (by decide) ?_
  refine fs_goto (off := 4) (tgt := 121) (by decide +kernel) (by decide) ?_
  exact nx
theorem b_Reader_mayStand_120 {d : Nat} {x1 : Int32} {S : fm_S} {r : Option Value × am_W} (nx : am_Ev d k_Reader_mayStand 121 [some (.ref 67), some (.int x1)] [.int 0] (fm_mk S) r) : am_Ev d k_Reader_mayStand 120 [some (.ref 67), some (.int x1)] [] (fm_mk S) r := by
  refine fs_iconst (n := 0) (v := 0) (by decide +kernel) (by decide) ?_
  exact nx
theorem b_Reader_mayStand_121 {d : Nat} {x1 : Int32} {sx0 : Int32} {S : fm_S}  (hz : sx0 = 0 ∨ sx0 = 1) : am_Ev d k_Reader_mayStand 121 [some (.ref 67), some (.int x1)] [.int sx0] (fm_mk S) (some (.int sx0), fm_mk S) := by
  exact fe_retZ (by decide +kernel) (by decide +kernel) hz
-- KitchenSiege$Reader.streetItem()V
theorem b_Reader_streetItem_0 {d : Nat} {o1 : Option Value} {o2 : Option Value} {o3 : Option Value} {v : Int32} {S1 : fm_S} {S : fm_S} {r : Option Value × am_W} (hc : am_Sp d k_Reader_number [.ref 67, .int 0, .int 5] (fm_mk S) (some (.int v)) (fm_mk S1)) (nx : am_Ev (d + 1) k_Reader_streetItem 6 [some (.ref 67), o1, o2, o3] [.int v] (fm_mk S1) r) : am_Ev (d + 1) k_Reader_streetItem 0 [some (.ref 67), o1, o2, o3] [] (fm_mk S) r := by
  refine fs_aloadn (j := 0) (by decide +kernel) rfl ?_
  refine fs_iconst (n := 0) (v := 0) (by decide +kernel) (by decide) ?_
  refine fs_iconst (n := 5) (v := 5) (by decide +kernel) (by decide) ?_
  exact fe_callV (t := 5) (idx := 83) (n := 2) (wp := 532) (q := (534, 10)) (as := [.int 0, .int 5]) (rs := []) (by decide +kernel) (by decide +kernel) (by decide +kernel) (by decide +kernel) rfl (Nat.le_of_ble_eq_true rfl) rfl hc nx
theorem b_Reader_streetItem_6 {d : Nat} {o1 : Option Value} {o2 : Option Value} {o3 : Option Value} {sx0 : Int32} {v : Int32} {S1 : fm_S} {S : fm_S} {r : Option Value × am_W} (hc : am_Sp d k_Reader_number [.ref 67, .int 0, .int 9] (fm_mk S) (some (.int v)) (fm_mk S1)) (nx : am_Ev (d + 1) k_Reader_streetItem 14 [some (.ref 67), some (.int sx0), o2, o3] [.int v] (fm_mk S1) r) : am_Ev (d + 1) k_Reader_streetItem 6 [some (.ref 67), o1, o2, o3] [.int sx0] (fm_mk S) r := by
  refine fs_istoren (j := 1) (L' := [some (.ref 67), some (.int sx0), o2, o3]) (by decide +kernel) (Nat.le_of_ble_eq_true rfl) rfl ?_
  refine fs_aloadn (j := 0) (by decide +kernel) rfl ?_
  refine fs_iconst (n := 0) (v := 0) (by decide +kernel) (by decide) ?_
  refine fs_bipush (n := 9) (v := 9) (by decide +kernel) (by decide) ?_
  exact fe_callV (t := 5) (idx := 83) (n := 2) (wp := 532) (q := (534, 10)) (as := [.int 0, .int 9]) (rs := []) (by decide +kernel) (by decide +kernel) (by decide +kernel) (by decide +kernel) rfl (Nat.le_of_ble_eq_true rfl) rfl hc nx
theorem b_Reader_streetItem_14 {d : Nat} {x1 : Int32} {o2 : Option Value} {o3 : Option Value} {sx0 : Int32} {v : Int32} {S1 : fm_S} {S : fm_S} {r : Option Value × am_W} (hc : am_Sp d k_Reader_number [.ref 67, .int 0, .int 5] (fm_mk S) (some (.int v)) (fm_mk S1)) (nx : am_Ev (d + 1) k_Reader_streetItem 21 [some (.ref 67), some (.int x1), some (.int sx0), o3] [.int v] (fm_mk S1) r) : am_Ev (d + 1) k_Reader_streetItem 14 [some (.ref 67), some (.int x1), o2, o3] [.int sx0] (fm_mk S) r := by
  refine fs_istoren (j := 2) (L' := [some (.ref 67), some (.int x1), some (.int sx0), o3]) (by decide +kernel) (Nat.le_of_ble_eq_true rfl) rfl ?_
  refine fs_aloadn (j := 0) (by decide +kernel) rfl ?_
  refine fs_iconst (n := 0) (v := 0) (by decide +kernel) (by decide) ?_
  refine fs_iconst (n := 5) (v := 5) (by decide +kernel) (by decide) ?_
  exact fe_callV (t := 5) (idx := 83) (n := 2) (wp := 532) (q := (534, 10)) (as := [.int 0, .int 5]) (rs := []) (by decide +kernel) (by decide +kernel) (by decide +kernel) (by decide +kernel) rfl (Nat.le_of_ble_eq_true rfl) rfl hc nx
theorem b_Reader_streetItem_21 {d : Nat} {x1 : Int32} {x2 : Int32} {o3 : Option Value} {sx0 : Int32} {v : Int32} {S1 : fm_S} {S : fm_S} {r : Option Value × am_W} (hc : am_Sp d k_Reader_endItem [.ref 67] (fm_mk S) (some (.int v)) (fm_mk S1)) (nx : am_Ev (d + 1) k_Reader_streetItem 26 [some (.ref 67), some (.int x1), some (.int x2), some (.int sx0)] [.int v] (fm_mk S1) r) : am_Ev (d + 1) k_Reader_streetItem 21 [some (.ref 67), some (.int x1), some (.int x2), o3] [.int sx0] (fm_mk S) r := by
  refine fs_istoren (j := 3) (L' := [some (.ref 67), some (.int x1), some (.int x2), some (.int sx0)]) (by decide +kernel) (Nat.le_of_ble_eq_true rfl) rfl ?_
  refine fs_aloadn (j := 0) (by decide +kernel) rfl ?_
  exact fe_callV (t := 5) (idx := 73) (n := 0) (wp := 537) (q := (539, 11)) (as := []) (rs := []) (by decide +kernel) (by decide +kernel) (by decide +kernel) (by decide +kernel) rfl (Nat.le_of_ble_eq_true rfl) rfl hc nx
theorem b_Reader_streetItem_26 {d : Nat} {x1 : Int32} {x2 : Int32} {x3 : Int32} {sx0 : Int32} {S : fm_S} {r : Option Value × am_W} (kt : sx0 = 0 → am_Ev d k_Reader_streetItem 40 [some (.ref 67), some (.int x1), some (.int x2), some (.int x3)] [] (fm_mk S) r) (kf : ¬ sx0 = 0 → am_Ev d k_Reader_streetItem 29 [some (.ref 67), some (.int x1), some (.int x2), some (.int x3)] [] (fm_mk S) r) : am_Ev d k_Reader_streetItem 26 [some (.ref 67), some (.int x1), some (.int x2), some (.int x3)] [.int sx0] (fm_mk S) r := by
  exact fs_ifeq (off := 14) (tgt := 40) (by decide +kernel) (by decide) kt kf
theorem b_Reader_streetItem_29 {d : Nat} {x1 : Int32} {x2 : Int32} {x3 : Int32} {v : Int32} {S1 : fm_S} {S : fm_S} {r : Option Value × am_W} (hc : am_Sp d k_Town_addStreet [.ref 68, .int x1, .int x2, .int x3] (fm_mk S) (some (.int v)) (fm_mk S1)) (nx : am_Ev (d + 1) k_Reader_streetItem 39 [some (.ref 67), some (.int x1), some (.int x2), some (.int x3)] [.int v] (fm_mk S1) r) : am_Ev (d + 1) k_Reader_streetItem 29 [some (.ref 67), some (.int x1), some (.int x2), some (.int x3)] [] (fm_mk S) r := by
  refine fs_aloadn (j := 0) (by decide +kernel) rfl ?_
  refine fe_getR (idx := 12) (t := 5) (f := 2) (fk := 2) (fin := 1) (wp := 289) (x := 68) (by decide +kernel) (by decide +kernel) (by decide +kernel) (by decide +kernel) (by decide +kernel) ?_
  refine fs_iloadn (j := 1) (by decide +kernel) rfl ?_
  refine fs_iloadn (j := 2) (by decide +kernel) rfl ?_
  refine fs_iloadn (j := 3) (by decide +kernel) rfl ?_
  exact fe_callV (t := 6) (idx := 87) (n := 3) (wp := 541) (q := (378, 379)) (as := [.int x1, .int x2, .int x3]) (rs := []) (by decide +kernel) (by decide +kernel) (by decide +kernel) (by decide +kernel) rfl (Nat.le_of_ble_eq_true rfl) rfl hc nx
theorem b_Reader_streetItem_39 {d : Nat} {x1 : Int32} {x2 : Int32} {x3 : Int32} {sx0 : Int32} {S : fm_S} {r : Option Value × am_W} (nx : am_Ev d k_Reader_streetItem 40 [some (.ref 67), some (.int x1), some (.int x2), some (.int x3)] [] (fm_mk S) r) : am_Ev d k_Reader_streetItem 39 [some (.ref 67), some (.int x1), some (.int x2), some (.int x3)] [.int sx0] (fm_mk S) r := by
  refine fs_pop (by decide +kernel) rfl ?_
  exact nx
theorem b_Reader_streetItem_40 {d : Nat} {x1 : Int32} {x2 : Int32} {x3 : Int32} {S : fm_S}  : am_Ev d k_Reader_streetItem 40 [some (.ref 67), some (.int x1), some (.int x2), some (.int x3)] [] (fm_mk S) (none, fm_mk S) := by
  exact fe_retV (by decide +kernel) (by decide +kernel)
-- KitchenSiege$Reader.number(II)I
theorem b_Reader_number_0 {d : Nat} {x1 : Int32} {x2 : Int32} {S : fm_S} {r : Option Value × am_W} (kt : ¬ (S.1 67 4) = (-1) → am_Ev d k_Reader_number 40 [some (.ref 67), some (.int x1), some (.int x2)] [] (fm_mk S) r) (kf : (S.1 67 4) = (-1) → am_Ev d k_Reader_number 8 [some (.ref 67), some (.int x1), some (.int x2)] [] (fm_mk S) r) : am_Ev d k_Reader_number 0 [some (.ref 67), some (.int x1), some (.int x2)] [] (fm_mk S) r := by
  refine fs_aloadn (j := 0) (by decide +kernel) rfl ?_
  refine fe_getI (idx := 35) (t := 5) (f := 4) (fk := 0) (fin := 0) (wp := 292) (by decide +kernel) (by decide +kernel) (by decide +kernel) (by decide +kernel) ?_
  refine fs_iconst (n := -1) (v := (-1)) (by decide +kernel) (by decide) ?_
  exact fs_icne (off := 35) (tgt := 40) (by decide +kernel) (by decide) kt kf
theorem b_Reader_number_8 {d : Nat} {x1 : Int32} {x2 : Int32} {S1 : fm_S} {S : fm_S} {r : Option Value × am_W} (hc : am_Sp d k_Reader_take [.ref 67] (fm_mk S) (none) (fm_mk S1)) (nx : am_Ev (d + 1) k_Reader_number 12 [some (.ref 67), some (.int x1), some (.int x2)] [] (fm_mk S1) r) : am_Ev (d + 1) k_Reader_number 8 [some (.ref 67), some (.int x1), some (.int x2)] [] (fm_mk S) r := by
  refine fs_aloadn (j := 0) (by decide +kernel) rfl ?_
  exact fe_callV (t := 5) (idx := 38) (n := 0) (wp := 448) (q := (450, 4)) (as := []) (rs := []) (by decide +kernel) (by decide +kernel) (by decide +kernel) (by decide +kernel) rfl (Nat.le_of_ble_eq_true rfl) rfl hc nx
theorem b_Reader_number_12 {d : Nat} {x1 : Int32} {x2 : Int32} {S : fm_S} {r : Option Value × am_W} (kt : ¬ (S.1 67 7) = 2 → am_Ev d k_Reader_number 32 [some (.ref 67), some (.int x1), some (.int x2)] [] (fm_mk S) r) (kf : (S.1 67 7) = 2 → am_Ev d k_Reader_number 20 [some (.ref 67), some (.int x1), some (.int x2)] [] (fm_mk S) r) : am_Ev d k_Reader_number 12 [some (.ref 67), some (.int x1), some (.int x2)] [] (fm_mk S) r := by
  refine fs_aloadn (j := 0) (by decide +kernel) rfl ?_
  refine fe_getI (idx := 41) (t := 5) (f := 7) (fk := 0) (fin := 0) (wp := 295) (by decide +kernel) (by decide +kernel) (by decide +kernel) (by decide +kernel) ?_
  refine fs_iconst (n := 2) (v := 2) (by decide +kernel) (by decide) ?_
  exact fs_icne (off := 15) (tgt := 32) (by decide +kernel) (by decide) kt kf
theorem b_Reader_number_20 {d : Nat} {x1 : Int32} {x2 : Int32} {v : Int32} {S1 : fm_S} {S : fm_S} {r : Option Value × am_W} (hc : am_Sp d k_X_within [.int (S.1 67 8), .int x1, .int x2] (fm_mk S) (some (.int v)) (fm_mk S1)) (nx : am_Ev (d + 1) k_Reader_number 29 [some (.ref 67), some (.int x1), some (.int x2)] [.int v] (fm_mk S1) r) : am_Ev (d + 1) k_Reader_number 20 [some (.ref 67), some (.int x1), some (.int x2)] [] (fm_mk S) r := by
  refine fs_aloadn (j := 0) (by decide +kernel) rfl ?_
  refine fe_getI (idx := 104) (t := 5) (f := 8) (fk := 0) (fin := 0) (wp := 296) (by decide +kernel) (by decide +kernel) (by decide +kernel) (by decide +kernel) ?_
  refine fs_iloadn (j := 1) (by decide +kernel) rfl ?_
  refine fs_iloadn (j := 2) (by decide +kernel) rfl ?_
  exact fe_callS (idx := 107) (kd := 4) (n := 3) (wp := 536) (q := (371, 0)) (as := [.int (S.1 67 8), .int x1, .int x2]) (rs := []) (by decide +kernel) (by decide +kernel) (by decide +kernel) (by decide) rfl (Nat.le_of_ble_eq_true rfl) rfl hc nx
theorem b_Reader_number_29 {d : Nat} {x1 : Int32} {x2 : Int32} {sx0 : Int32} {S : fm_S} {r : Option Value × am_W} (kt : ¬ sx0 = 0 → am_Ev d k_Reader_number 40 [some (.ref 67), some (.int x1), some (.int x2)] [] (fm_mk S) r) (kf : sx0 = 0 → am_Ev d k_Reader_number 32 [some (.ref 67), some (.int x1), some (.int x2)] [] (fm_mk S) r) : am_Ev d k_Reader_number 29 [some (.ref 67), some (.int x1), some (.int x2)] [.int sx0] (fm_mk S) r := by
  exact fs_ifne (off := 11) (tgt := 40) (by decide +kernel) (by decide) kt kf
theorem b_Reader_number_32 {d : Nat} {x1 : Int32} {x2 : Int32} {S : fm_S} {r : Option Value × am_W} (nx : am_Ev d k_Reader_number 40 [some (.ref 67), some (.int x1), some (.int x2)] [] (fm_mk (fm_wI S 67 4 (S.1 67 6))) r) : am_Ev d k_Reader_number 32 [some (.ref 67), some (.int x1), some (.int x2)] [] (fm_mk S) r := by
  refine fs_aloadn (j := 0) (by decide +kernel) rfl ?_
  refine fs_aloadn (j := 0) (by decide +kernel) rfl ?_
  refine fe_getI (idx := 44) (t := 5) (f := 6) (fk := 0) (fin := 0) (wp := 294) (by decide +kernel) (by decide +kernel) (by decide +kernel) (by decide +kernel) ?_
  refine fe_putI (idx := 35) (t := 5) (f := 4) (wp := 292) (by decide +kernel) (by decide +kernel) (by decide +kernel) (by decide +kernel) ?_
  exact nx
theorem b_Reader_number_40 {d : Nat} {x1 : Int32} {x2 : Int32} {S : fm_S}  : am_Ev d k_Reader_number 40 [some (.ref 67), some (.int x1), some (.int x2)] [] (fm_mk S) (some (.int (S.1 67 8)), fm_mk S) := by
  refine fs_aloadn (j := 0) (by decide +kernel) rfl ?_
  refine fe_getI (idx := 104) (t := 5) (f := 8) (fk := 0) (fin := 0) (wp := 296) (by decide +kernel) (by decide +kernel) (by decide +kernel) (by decide +kernel) ?_
  exact fe_retI (by decide +kernel) (by decide +kernel)
-- KitchenSiege$Reader.endItem()Z
theorem b_Reader_endItem_0 {d : Nat} {S : fm_S} {r : Option Value × am_W} (kt : ¬ (S.1 67 4) = (-1) → am_Ev d k_Reader_endItem 28 [some (.ref 67)] [] (fm_mk S) r) (kf : (S.1 67 4) = (-1) → am_Ev d k_Reader_endItem 8 [some (.ref 67)] [] (fm_mk S) r) : am_Ev d k_Reader_endItem 0 [some (.ref 67)] [] (fm_mk S) r := by
  refine fs_aloadn (j := 0) (by decide +kernel) rfl ?_
  refine fe_getI (idx := 35) (t := 5) (f := 4) (fk := 0) (fin := 0) (wp := 292) (by decide +kernel) (by decide +kernel) (by decide +kernel) (by decide +kernel) ?_
  refine fs_iconst (n := -1) (v := (-1)) (by decide +kernel) (by decide) ?_
  exact fs_icne (off := 23) (tgt := 28) (by decide +kernel) (by decide) kt kf
theorem b_Reader_endItem_8 {d : Nat} {S1 : fm_S} {S : fm_S} {r : Option Value × am_W} (hc : am_Sp d k_Reader_take [.ref 67] (fm_mk S) (none) (fm_mk S1)) (nx : am_Ev (d + 1) k_Reader_endItem 12 [some (.ref 67)] [] (fm_mk S1) r) : am_Ev (d + 1) k_Reader_endItem 8 [some (.ref 67)] [] (fm_mk S) r := by
  refine fs_aloadn (j := 0) (by decide +kernel) rfl ?_
  exact fe_callV (t := 5) (idx := 38) (n := 0) (wp := 448) (q := (450, 4)) (as := []) (rs := []) (by decide +kernel) (by decide +kernel) (by decide +kernel) (by decide +kernel) rfl (Nat.le_of_ble_eq_true rfl) rfl hc nx
theorem b_Reader_endItem_12 {d : Nat} {S : fm_S} {r : Option Value × am_W} (kt : (S.1 67 7) = 3 → am_Ev d k_Reader_endItem 28 [some (.ref 67)] [] (fm_mk S) r) (kf : ¬ (S.1 67 7) = 3 → am_Ev d k_Reader_endItem 20 [some (.ref 67)] [] (fm_mk S) r) : am_Ev d k_Reader_endItem 12 [some (.ref 67)] [] (fm_mk S) r := by
  refine fs_aloadn (j := 0) (by decide +kernel) rfl ?_
  refine fe_getI (idx := 41) (t := 5) (f := 7) (fk := 0) (fin := 0) (wp := 295) (by decide +kernel) (by decide +kernel) (by decide +kernel) (by decide +kernel) ?_
  refine fs_iconst (n := 3) (v := 3) (by decide +kernel) (by decide) ?_
  exact fs_iceq (off := 11) (tgt := 28) (by decide +kernel) (by decide) kt kf
theorem b_Reader_endItem_20 {d : Nat} {S : fm_S} {r : Option Value × am_W} (nx : am_Ev d k_Reader_endItem 28 [some (.ref 67)] [] (fm_mk (fm_wI S 67 4 (S.1 67 6))) r) : am_Ev d k_Reader_endItem 20 [some (.ref 67)] [] (fm_mk S) r := by
  refine fs_aloadn (j := 0) (by decide +kernel) rfl ?_
  refine fs_aloadn (j := 0) (by decide +kernel) rfl ?_
  refine fe_getI (idx := 44) (t := 5) (f := 6) (fk := 0) (fin := 0) (wp := 294) (by decide +kernel) (by decide +kernel) (by decide +kernel) (by decide +kernel) ?_
  refine fe_putI (idx := 35) (t := 5) (f := 4) (wp := 292) (by decide +kernel) (by decide +kernel) (by decide +kernel) (by decide +kernel) ?_
  exact nx
theorem b_Reader_endItem_28 {d : Nat} {S : fm_S} {r : Option Value × am_W} (kt : ¬ (S.1 67 4) = (-1) → am_Ev d k_Reader_endItem 40 [some (.ref 67)] [] (fm_mk S) r) (kf : (S.1 67 4) = (-1) → am_Ev d k_Reader_endItem 36 [some (.ref 67)] [] (fm_mk S) r) : am_Ev d k_Reader_endItem 28 [some (.ref 67)] [] (fm_mk S) r := by
  refine fs_aloadn (j := 0) (by decide +kernel) rfl ?_
  refine fe_getI (idx := 35) (t := 5) (f := 4) (fk := 0) (fin := 0) (wp := 292) (by decide +kernel) (by decide +kernel) (by decide +kernel) (by decide +kernel) ?_
  refine fs_iconst (n := -1) (v := (-1)) (by decide +kernel) (by decide) ?_
  exact fs_icne (off := 7) (tgt := 40) (by decide +kernel) (by decide) kt kf
theorem b_Reader_endItem_36 {d : Nat} {S : fm_S} {r : Option Value × am_W} (nx : am_Ev d k_Reader_endItem 41 [some (.ref 67)] [.int 1] (fm_mk S) r) : am_Ev d k_Reader_endItem 36 [some (.ref 67)] [] (fm_mk S) r := by
  refine fs_iconst (n := 1) (v := 1) (by decide +kernel) (by decide) ?_
  refine fs_goto (off := 4) (tgt := 41) (by decide +kernel) (by decide) ?_
  exact nx
theorem b_Reader_endItem_40 {d : Nat} {S : fm_S} {r : Option Value × am_W} (nx : am_Ev d k_Reader_endItem 41 [some (.ref 67)] [.int 0] (fm_mk S) r) : am_Ev d k_Reader_endItem 40 [some (.ref 67)] [] (fm_mk S) r := by
  refine fs_iconst (n := 0) (v := 0) (by decide +kernel) (by decide) ?_
  exact nx
theorem b_Reader_endItem_41 {d : Nat} {sx0 : Int32} {S : fm_S}  (hz : sx0 = 0 ∨ sx0 = 1) : am_Ev d k_Reader_endItem 41 [some (.ref 67)] [.int sx0] (fm_mk S) (some (.int sx0), fm_mk S) := by
  exact fe_retZ (by decide +kernel) (by decide +kernel) hz
-- KitchenSiege$Reader.laneItem()V
theorem b_Reader_laneItem_0 {d : Nat} {o1 : Option Value} {o2 : Option Value} {v : Int32} {S1 : fm_S} {S : fm_S} {r : Option Value × am_W} (hc : am_Sp d k_Reader_number [.ref 67, .int 0, .int ((S.1 68 0) - 1)] (fm_mk S) (some (.int v)) (fm_mk S1)) (nx : am_Ev (d + 1) k_Reader_laneItem 14 [some (.ref 67), o1, o2] [.int v] (fm_mk S1) r) : am_Ev (d + 1) k_Reader_laneItem 0 [some (.ref 67), o1, o2] [] (fm_mk S) r := by
  refine fs_aloadn (j := 0) (by decide +kernel) rfl ?_
  refine fs_iconst (n := 0) (v := 0) (by decide +kernel) (by decide) ?_
  refine fs_aloadn (j := 0) (by decide +kernel) rfl ?_
  refine fe_getR (idx := 12) (t := 5) (f := 2) (fk := 2) (fin := 1) (wp := 289) (x := 68) (by decide +kernel) (by decide +kernel) (by decide +kernel) (by decide +kernel) (by decide +kernel) ?_
  refine fe_getI (idx := 77) (t := 6) (f := 0) (fk := 0) (fin := 0) (wp := 160) (by decide +kernel) (by decide +kernel) (by decide +kernel) (by decide +kernel) ?_
  refine fs_iconst (n := 1) (v := 1) (by decide +kernel) (by decide) ?_
  refine fs_isub (by decide +kernel) ?_
  exact fe_callV (t := 5) (idx := 83) (n := 2) (wp := 532) (q := (534, 10)) (as := [.int 0, .int ((S.1 68 0) - 1)]) (rs := []) (by decide +kernel) (by decide +kernel) (by decide +kernel) (by decide +kernel) rfl (Nat.le_of_ble_eq_true rfl) rfl hc nx
theorem b_Reader_laneItem_14 {d : Nat} {o1 : Option Value} {o2 : Option Value} {sx0 : Int32} {v : Int32} {S1 : fm_S} {S : fm_S} {r : Option Value × am_W} (hc : am_Sp d k_Reader_number [.ref 67, .int 0, .int ((S.1 68 0) - 1)] (fm_mk S) (some (.int v)) (fm_mk S1)) (nx : am_Ev (d + 1) k_Reader_laneItem 29 [some (.ref 67), some (.int sx0), o2] [.int v] (fm_mk S1) r) : am_Ev (d + 1) k_Reader_laneItem 14 [some (.ref 67), o1, o2] [.int sx0] (fm_mk S) r := by
  refine fs_istoren (j := 1) (L' := [some (.ref 67), some (.int sx0), o2]) (by decide +kernel) (Nat.le_of_ble_eq_true rfl) rfl ?_
  refine fs_aloadn (j := 0) (by decide +kernel) rfl ?_
  refine fs_iconst (n := 0) (v := 0) (by decide +kernel) (by decide) ?_
  refine fs_aloadn (j := 0) (by decide +kernel) rfl ?_
  refine fe_getR (idx := 12) (t := 5) (f := 2) (fk := 2) (fin := 1) (wp := 289) (x := 68) (by decide +kernel) (by decide +kernel) (by decide +kernel) (by decide +kernel) (by decide +kernel) ?_
  refine fe_getI (idx := 77) (t := 6) (f := 0) (fk := 0) (fin := 0) (wp := 160) (by decide +kernel) (by decide +kernel) (by decide +kernel) (by decide +kernel) ?_
  refine fs_iconst (n := 1) (v := 1) (by decide +kernel) (by decide) ?_
  refine fs_isub (by decide +kernel) ?_
  exact fe_callV (t := 5) (idx := 83) (n := 2) (wp := 532) (q := (534, 10)) (as := [.int 0, .int ((S.1 68 0) - 1)]) (rs := []) (by decide +kernel) (by decide +kernel) (by decide +kernel) (by decide +kernel) rfl (Nat.le_of_ble_eq_true rfl) rfl hc nx
theorem b_Reader_laneItem_29 {d : Nat} {x1 : Int32} {o2 : Option Value} {sx0 : Int32} {S : fm_S} {r : Option Value × am_W} (kt : ¬ (S.1 67 4) = (-1) → am_Ev d k_Reader_laneItem 51 [some (.ref 67), some (.int x1), some (.int sx0)] [] (fm_mk S) r) (kf : (S.1 67 4) = (-1) → am_Ev d k_Reader_laneItem 38 [some (.ref 67), some (.int x1), some (.int sx0)] [] (fm_mk S) r) : am_Ev d k_Reader_laneItem 29 [some (.ref 67), some (.int x1), o2] [.int sx0] (fm_mk S) r := by
  refine fs_istoren (j := 2) (L' := [some (.ref 67), some (.int x1), some (.int sx0)]) (by decide +kernel) (Nat.le_of_ble_eq_true rfl) rfl ?_
  refine fs_aloadn (j := 0) (by decide +kernel) rfl ?_
  refine fe_getI (idx := 35) (t := 5) (f := 4) (fk := 0) (fin := 0) (wp := 292) (by decide +kernel) (by decide +kernel) (by decide +kernel) (by decide +kernel) ?_
  refine fs_iconst (n := -1) (v := (-1)) (by decide +kernel) (by decide) ?_
  exact fs_icne (off := 16) (tgt := 51) (by decide +kernel) (by decide) kt kf
theorem b_Reader_laneItem_38 {d : Nat} {x1 : Int32} {x2 : Int32} {S : fm_S} {r : Option Value × am_W} (kt : ¬ x1 = x2 → am_Ev d k_Reader_laneItem 51 [some (.ref 67), some (.int x1), some (.int x2)] [] (fm_mk S) r) (kf : x1 = x2 → am_Ev d k_Reader_laneItem 43 [some (.ref 67), some (.int x1), some (.int x2)] [] (fm_mk S) r) : am_Ev d k_Reader_laneItem 38 [some (.ref 67), some (.int x1), some (.int x2)] [] (fm_mk S) r := by
  refine fs_iloadn (j := 1) (by decide +kernel) rfl ?_
  refine fs_iloadn (j := 2) (by decide +kernel) rfl ?_
  exact fs_icne (off := 11) (tgt := 51) (by decide +kernel) (by decide) kt kf
theorem b_Reader_laneItem_43 {d : Nat} {x1 : Int32} {x2 : Int32} {S : fm_S} {r : Option Value × am_W} (nx : am_Ev d k_Reader_laneItem 51 [some (.ref 67), some (.int x1), some (.int x2)] [] (fm_mk (fm_wI S 67 4 (S.1 67 6))) r) : am_Ev d k_Reader_laneItem 43 [some (.ref 67), some (.int x1), some (.int x2)] [] (fm_mk S) r := by
  refine fs_aloadn (j := 0) (by decide +kernel) rfl ?_
  refine fs_aloadn (j := 0) (by decide +kernel) rfl ?_
  refine fe_getI (idx := 44) (t := 5) (f := 6) (fk := 0) (fin := 0) (wp := 294) (by decide +kernel) (by decide +kernel) (by decide +kernel) (by decide +kernel) ?_
  refine fe_putI (idx := 35) (t := 5) (f := 4) (wp := 292) (by decide +kernel) (by decide +kernel) (by decide +kernel) (by decide +kernel) ?_
  exact nx
theorem b_Reader_laneItem_51 {d : Nat} {x1 : Int32} {x2 : Int32} {v : Int32} {S1 : fm_S} {S : fm_S} {r : Option Value × am_W} (hc : am_Sp d k_Reader_endItem [.ref 67] (fm_mk S) (some (.int v)) (fm_mk S1)) (nx : am_Ev (d + 1) k_Reader_laneItem 55 [some (.ref 67), some (.int x1), some (.int x2)] [.int v] (fm_mk S1) r) : am_Ev (d + 1) k_Reader_laneItem 51 [some (.ref 67), some (.int x1), some (.int x2)] [] (fm_mk S) r := by
  refine fs_aloadn (j := 0) (by decide +kernel) rfl ?_
  exact fe_callV (t := 5) (idx := 73) (n := 0) (wp := 537) (q := (539, 11)) (as := []) (rs := []) (by decide +kernel) (by decide +kernel) (by decide +kernel) (by decide +kernel) rfl (Nat.le_of_ble_eq_true rfl) rfl hc nx
theorem b_Reader_laneItem_55 {d : Nat} {x1 : Int32} {x2 : Int32} {sx0 : Int32} {S : fm_S} {r : Option Value × am_W} (kt : sx0 = 0 → am_Ev d k_Reader_laneItem 67 [some (.ref 67), some (.int x1), some (.int x2)] [] (fm_mk S) r) (kf : ¬ sx0 = 0 → am_Ev d k_Reader_laneItem 58 [some (.ref 67), some (.int x1), some (.int x2)] [] (fm_mk S) r) : am_Ev d k_Reader_laneItem 55 [some (.ref 67), some (.int x1), some (.int x2)] [.int sx0] (fm_mk S) r := by
  exact fs_ifeq (off := 12) (tgt := 67) (by decide +kernel) (by decide) kt kf
theorem b_Reader_laneItem_58 {d : Nat} {x1 : Int32} {x2 : Int32} {S1 : fm_S} {S : fm_S} {r : Option Value × am_W} (hc : am_Sp d k_Town_addLane [.ref 68, .int x1, .int x2] (fm_mk S) (none) (fm_mk S1)) (nx : am_Ev (d + 1) k_Reader_laneItem 67 [some (.ref 67), some (.int x1), some (.int x2)] [] (fm_mk S1) r) : am_Ev (d + 1) k_Reader_laneItem 58 [some (.ref 67), some (.int x1), some (.int x2)] [] (fm_mk S) r := by
  refine fs_aloadn (j := 0) (by decide +kernel) rfl ?_
  refine fe_getR (idx := 12) (t := 5) (f := 2) (fk := 2) (fin := 1) (wp := 289) (x := 68) (by decide +kernel) (by decide +kernel) (by decide +kernel) (by decide +kernel) (by decide +kernel) ?_
  refine fs_iloadn (j := 1) (by decide +kernel) rfl ?_
  refine fs_iloadn (j := 2) (by decide +kernel) rfl ?_
  exact fe_callV (t := 6) (idx := 91) (n := 2) (wp := 546) (q := (405, 406)) (as := [.int x1, .int x2]) (rs := []) (by decide +kernel) (by decide +kernel) (by decide +kernel) (by decide +kernel) rfl (Nat.le_of_ble_eq_true rfl) rfl hc nx
theorem b_Reader_laneItem_67 {d : Nat} {x1 : Int32} {x2 : Int32} {S : fm_S}  : am_Ev d k_Reader_laneItem 67 [some (.ref 67), some (.int x1), some (.int x2)] [] (fm_mk S) (none, fm_mk S) := by
  exact fe_retV (by decide +kernel) (by decide +kernel)
-- KitchenSiege$Reader.gateItem()V
theorem b_Reader_gateItem_0 {d : Nat} {o1 : Option Value} {o2 : Option Value} {v : Int32} {S1 : fm_S} {S : fm_S} {r : Option Value × am_W} (hc : am_Sp d k_Reader_number [.ref 67, .int 0, .int 3] (fm_mk S) (some (.int v)) (fm_mk S1)) (nx : am_Ev (d + 1) k_Reader_gateItem 6 [some (.ref 67), o1, o2] [.int v] (fm_mk S1) r) : am_Ev (d + 1) k_Reader_gateItem 0 [some (.ref 67), o1, o2] [] (fm_mk S) r := by
  refine fs_aloadn (j := 0) (by decide +kernel) rfl ?_
  refine fs_iconst (n := 0) (v := 0) (by decide +kernel) (by decide) ?_
  refine fs_iconst (n := 3) (v := 3) (by decide +kernel) (by decide) ?_
  exact fe_callV (t := 5) (idx := 83) (n := 2) (wp := 532) (q := (534, 10)) (as := [.int 0, .int 3]) (rs := []) (by decide +kernel) (by decide +kernel) (by decide +kernel) (by decide +kernel) rfl (Nat.le_of_ble_eq_true rfl) rfl hc nx
theorem b_Reader_gateItem_6 {d : Nat} {o1 : Option Value} {o2 : Option Value} {sx0 : Int32} {v : Int32} {S1 : fm_S} {S : fm_S} {r : Option Value × am_W} (hc : am_Sp d k_Reader_number [.ref 67, .int 0, .int ((S.1 68 0) - 1)] (fm_mk S) (some (.int v)) (fm_mk S1)) (nx : am_Ev (d + 1) k_Reader_gateItem 21 [some (.ref 67), some (.int sx0), o2] [.int v] (fm_mk S1) r) : am_Ev (d + 1) k_Reader_gateItem 6 [some (.ref 67), o1, o2] [.int sx0] (fm_mk S) r := by
  refine fs_istoren (j := 1) (L' := [some (.ref 67), some (.int sx0), o2]) (by decide +kernel) (Nat.le_of_ble_eq_true rfl) rfl ?_
  refine fs_aloadn (j := 0) (by decide +kernel) rfl ?_
  refine fs_iconst (n := 0) (v := 0) (by decide +kernel) (by decide) ?_
  refine fs_aloadn (j := 0) (by decide +kernel) rfl ?_
  refine fe_getR (idx := 12) (t := 5) (f := 2) (fk := 2) (fin := 1) (wp := 289) (x := 68) (by decide +kernel) (by decide +kernel) (by decide +kernel) (by decide +kernel) (by decide +kernel) ?_
  refine fe_getI (idx := 77) (t := 6) (f := 0) (fk := 0) (fin := 0) (wp := 160) (by decide +kernel) (by decide +kernel) (by decide +kernel) (by decide +kernel) ?_
  refine fs_iconst (n := 1) (v := 1) (by decide +kernel) (by decide) ?_
  refine fs_isub (by decide +kernel) ?_
  exact fe_callV (t := 5) (idx := 83) (n := 2) (wp := 532) (q := (534, 10)) (as := [.int 0, .int ((S.1 68 0) - 1)]) (rs := []) (by decide +kernel) (by decide +kernel) (by decide +kernel) (by decide +kernel) rfl (Nat.le_of_ble_eq_true rfl) rfl hc nx
theorem b_Reader_gateItem_21 {d : Nat} {x1 : Int32} {o2 : Option Value} {sx0 : Int32} {v : Int32} {S1 : fm_S} {S : fm_S} {r : Option Value × am_W} (hc : am_Sp d k_Reader_endItem [.ref 67] (fm_mk S) (some (.int v)) (fm_mk S1)) (nx : am_Ev (d + 1) k_Reader_gateItem 26 [some (.ref 67), some (.int x1), some (.int sx0)] [.int v] (fm_mk S1) r) : am_Ev (d + 1) k_Reader_gateItem 21 [some (.ref 67), some (.int x1), o2] [.int sx0] (fm_mk S) r := by
  refine fs_istoren (j := 2) (L' := [some (.ref 67), some (.int x1), some (.int sx0)]) (by decide +kernel) (Nat.le_of_ble_eq_true rfl) rfl ?_
  refine fs_aloadn (j := 0) (by decide +kernel) rfl ?_
  exact fe_callV (t := 5) (idx := 73) (n := 0) (wp := 537) (q := (539, 11)) (as := []) (rs := []) (by decide +kernel) (by decide +kernel) (by decide +kernel) (by decide +kernel) rfl (Nat.le_of_ble_eq_true rfl) rfl hc nx
theorem b_Reader_gateItem_26 {d : Nat} {x1 : Int32} {x2 : Int32} {sx0 : Int32} {S : fm_S} {r : Option Value × am_W} (kt : sx0 = 0 → am_Ev d k_Reader_gateItem 39 [some (.ref 67), some (.int x1), some (.int x2)] [] (fm_mk S) r) (kf : ¬ sx0 = 0 → am_Ev d k_Reader_gateItem 29 [some (.ref 67), some (.int x1), some (.int x2)] [] (fm_mk S) r) : am_Ev d k_Reader_gateItem 26 [some (.ref 67), some (.int x1), some (.int x2)] [.int sx0] (fm_mk S) r := by
  exact fs_ifeq (off := 13) (tgt := 39) (by decide +kernel) (by decide) kt kf
theorem b_Reader_gateItem_29 {d : Nat} {x1 : Int32} {x2 : Int32} {S : fm_S} {r : Option Value × am_W} (hi0 : vp_in x1 4) (nx : am_Ev d k_Reader_gateItem 39 [some (.ref 67), some (.int x1), some (.int x2)] [] (fm_mk (fm_wI S 73 x1.toNatClampNeg x2)) r) : am_Ev d k_Reader_gateItem 29 [some (.ref 67), some (.int x1), some (.int x2)] [] (fm_mk S) r := by
  refine fs_aloadn (j := 0) (by decide +kernel) rfl ?_
  refine fe_getR (idx := 12) (t := 5) (f := 2) (fk := 2) (fin := 1) (wp := 289) (x := 68) (by decide +kernel) (by decide +kernel) (by decide +kernel) (by decide +kernel) (by decide +kernel) ?_
  refine fe_getR (idx := 95) (t := 6) (f := 5) (fk := 2) (fin := 1) (wp := 172) (x := 73) (by decide +kernel) (by decide +kernel) (by decide +kernel) (by decide +kernel) (by decide +kernel) ?_
  refine fs_iloadn (j := 1) (by decide +kernel) rfl ?_
  refine fs_iloadn (j := 2) (by decide +kernel) rfl ?_
  refine fx_iast (n := x1.toNatClampNeg) (len := 4) (by decide +kernel) (by decide +kernel) (by decide +kernel) hi0 rfl ?_
  exact nx
theorem b_Reader_gateItem_39 {d : Nat} {x1 : Int32} {x2 : Int32} {S : fm_S}  : am_Ev d k_Reader_gateItem 39 [some (.ref 67), some (.int x1), some (.int x2)] [] (fm_mk S) (none, fm_mk S) := by
  exact fe_retV (by decide +kernel) (by decide +kernel)
-- KitchenSiege$Reader.windItem()V
theorem b_Reader_windItem_0 {d : Nat} {o1 : Option Value} {o2 : Option Value} {v : Int32} {S1 : fm_S} {S : fm_S} {r : Option Value × am_W} (hc : am_Sp d k_Reader_number [.ref 67, .int 0, .int 3] (fm_mk S) (some (.int v)) (fm_mk S1)) (nx : am_Ev (d + 1) k_Reader_windItem 6 [some (.ref 67), o1, o2] [.int v] (fm_mk S1) r) : am_Ev (d + 1) k_Reader_windItem 0 [some (.ref 67), o1, o2] [] (fm_mk S) r := by
  refine fs_aloadn (j := 0) (by decide +kernel) rfl ?_
  refine fs_iconst (n := 0) (v := 0) (by decide +kernel) (by decide) ?_
  refine fs_iconst (n := 3) (v := 3) (by decide +kernel) (by decide) ?_
  exact fe_callV (t := 5) (idx := 83) (n := 2) (wp := 532) (q := (534, 10)) (as := [.int 0, .int 3]) (rs := []) (by decide +kernel) (by decide +kernel) (by decide +kernel) (by decide +kernel) rfl (Nat.le_of_ble_eq_true rfl) rfl hc nx
theorem b_Reader_windItem_6 {d : Nat} {o1 : Option Value} {o2 : Option Value} {sx0 : Int32} {v : Int32} {S1 : fm_S} {S : fm_S} {r : Option Value × am_W} (hc : am_Sp d k_Reader_number [.ref 67, .int 0, .int 3] (fm_mk S) (some (.int v)) (fm_mk S1)) (nx : am_Ev (d + 1) k_Reader_windItem 13 [some (.ref 67), some (.int sx0), o2] [.int v] (fm_mk S1) r) : am_Ev (d + 1) k_Reader_windItem 6 [some (.ref 67), o1, o2] [.int sx0] (fm_mk S) r := by
  refine fs_istoren (j := 1) (L' := [some (.ref 67), some (.int sx0), o2]) (by decide +kernel) (Nat.le_of_ble_eq_true rfl) rfl ?_
  refine fs_aloadn (j := 0) (by decide +kernel) rfl ?_
  refine fs_iconst (n := 0) (v := 0) (by decide +kernel) (by decide) ?_
  refine fs_iconst (n := 3) (v := 3) (by decide +kernel) (by decide) ?_
  exact fe_callV (t := 5) (idx := 83) (n := 2) (wp := 532) (q := (534, 10)) (as := [.int 0, .int 3]) (rs := []) (by decide +kernel) (by decide +kernel) (by decide +kernel) (by decide +kernel) rfl (Nat.le_of_ble_eq_true rfl) rfl hc nx
theorem b_Reader_windItem_13 {d : Nat} {x1 : Int32} {o2 : Option Value} {sx0 : Int32} {v : Int32} {S1 : fm_S} {S : fm_S} {r : Option Value × am_W} (hc : am_Sp d k_Reader_endItem [.ref 67] (fm_mk S) (some (.int v)) (fm_mk S1)) (nx : am_Ev (d + 1) k_Reader_windItem 18 [some (.ref 67), some (.int x1), some (.int sx0)] [.int v] (fm_mk S1) r) : am_Ev (d + 1) k_Reader_windItem 13 [some (.ref 67), some (.int x1), o2] [.int sx0] (fm_mk S) r := by
  refine fs_istoren (j := 2) (L' := [some (.ref 67), some (.int x1), some (.int sx0)]) (by decide +kernel) (Nat.le_of_ble_eq_true rfl) rfl ?_
  refine fs_aloadn (j := 0) (by decide +kernel) rfl ?_
  exact fe_callV (t := 5) (idx := 73) (n := 0) (wp := 537) (q := (539, 11)) (as := []) (rs := []) (by decide +kernel) (by decide +kernel) (by decide +kernel) (by decide +kernel) rfl (Nat.le_of_ble_eq_true rfl) rfl hc nx
theorem b_Reader_windItem_18 {d : Nat} {x1 : Int32} {x2 : Int32} {sx0 : Int32} {S : fm_S} {r : Option Value × am_W} (kt : sx0 = 0 → am_Ev d k_Reader_windItem 31 [some (.ref 67), some (.int x1), some (.int x2)] [] (fm_mk S) r) (kf : ¬ sx0 = 0 → am_Ev d k_Reader_windItem 21 [some (.ref 67), some (.int x1), some (.int x2)] [] (fm_mk S) r) : am_Ev d k_Reader_windItem 18 [some (.ref 67), some (.int x1), some (.int x2)] [.int sx0] (fm_mk S) r := by
  exact fs_ifeq (off := 13) (tgt := 31) (by decide +kernel) (by decide) kt kf
theorem b_Reader_windItem_21 {d : Nat} {x1 : Int32} {x2 : Int32} {S : fm_S} {r : Option Value × am_W} (hi0 : vp_in x1 4) (nx : am_Ev d k_Reader_windItem 31 [some (.ref 67), some (.int x1), some (.int x2)] [] (fm_mk (fm_wI S 74 x1.toNatClampNeg x2)) r) : am_Ev d k_Reader_windItem 21 [some (.ref 67), some (.int x1), some (.int x2)] [] (fm_mk S) r := by
  refine fs_aloadn (j := 0) (by decide +kernel) rfl ?_
  refine fe_getR (idx := 12) (t := 5) (f := 2) (fk := 2) (fin := 1) (wp := 289) (x := 68) (by decide +kernel) (by decide +kernel) (by decide +kernel) (by decide +kernel) (by decide +kernel) ?_
  refine fe_getR (idx := 98) (t := 6) (f := 6) (fk := 2) (fin := 1) (wp := 175) (x := 74) (by decide +kernel) (by decide +kernel) (by decide +kernel) (by decide +kernel) (by decide +kernel) ?_
  refine fs_iloadn (j := 1) (by decide +kernel) rfl ?_
  refine fs_iloadn (j := 2) (by decide +kernel) rfl ?_
  refine fx_iast (n := x1.toNatClampNeg) (len := 4) (by decide +kernel) (by decide +kernel) (by decide +kernel) hi0 rfl ?_
  exact nx
theorem b_Reader_windItem_31 {d : Nat} {x1 : Int32} {x2 : Int32} {S : fm_S}  : am_Ev d k_Reader_windItem 31 [some (.ref 67), some (.int x1), some (.int x2)] [] (fm_mk S) (none, fm_mk S) := by
  exact fe_retV (by decide +kernel) (by decide +kernel)
-- KitchenSiege$Reader.dishItem()V
theorem b_Reader_dishItem_0 {d : Nat} {o1 : Option Value} {o2 : Option Value} {o3 : Option Value} {v : Int32} {S1 : fm_S} {S : fm_S} {r : Option Value × am_W} (hc : am_Sp d k_Reader_number [.ref 67, .int 0, .int 5] (fm_mk S) (some (.int v)) (fm_mk S1)) (nx : am_Ev (d + 1) k_Reader_dishItem 6 [some (.ref 67), o1, o2, o3] [.int v] (fm_mk S1) r) : am_Ev (d + 1) k_Reader_dishItem 0 [some (.ref 67), o1, o2, o3] [] (fm_mk S) r := by
  refine fs_aloadn (j := 0) (by decide +kernel) rfl ?_
  refine fs_iconst (n := 0) (v := 0) (by decide +kernel) (by decide) ?_
  refine fs_iconst (n := 5) (v := 5) (by decide +kernel) (by decide) ?_
  exact fe_callV (t := 5) (idx := 83) (n := 2) (wp := 532) (q := (534, 10)) (as := [.int 0, .int 5]) (rs := []) (by decide +kernel) (by decide +kernel) (by decide +kernel) (by decide +kernel) rfl (Nat.le_of_ble_eq_true rfl) rfl hc nx
theorem b_Reader_dishItem_6 {d : Nat} {o1 : Option Value} {o2 : Option Value} {o3 : Option Value} {sx0 : Int32} {v : Int32} {S1 : fm_S} {S : fm_S} {r : Option Value × am_W} (hc : am_Sp d k_Reader_number [.ref 67, .int 1, .int 30] (fm_mk S) (some (.int v)) (fm_mk S1)) (nx : am_Ev (d + 1) k_Reader_dishItem 14 [some (.ref 67), some (.int sx0), o2, o3] [.int v] (fm_mk S1) r) : am_Ev (d + 1) k_Reader_dishItem 6 [some (.ref 67), o1, o2, o3] [.int sx0] (fm_mk S) r := by
  refine fs_istoren (j := 1) (L' := [some (.ref 67), some (.int sx0), o2, o3]) (by decide +kernel) (Nat.le_of_ble_eq_true rfl) rfl ?_
  refine fs_aloadn (j := 0) (by decide +kernel) rfl ?_
  refine fs_iconst (n := 1) (v := 1) (by decide +kernel) (by decide) ?_
  refine fs_bipush (n := 30) (v := 30) (by decide +kernel) (by decide) ?_
  exact fe_callV (t := 5) (idx := 83) (n := 2) (wp := 532) (q := (534, 10)) (as := [.int 1, .int 30]) (rs := []) (by decide +kernel) (by decide +kernel) (by decide +kernel) (by decide +kernel) rfl (Nat.le_of_ble_eq_true rfl) rfl hc nx
theorem b_Reader_dishItem_14 {d : Nat} {x1 : Int32} {o2 : Option Value} {o3 : Option Value} {sx0 : Int32} {v : Int32} {S1 : fm_S} {S : fm_S} {r : Option Value × am_W} (hc : am_Sp d k_Reader_number [.ref 67, .int 0, .int 9] (fm_mk S) (some (.int v)) (fm_mk S1)) (nx : am_Ev (d + 1) k_Reader_dishItem 22 [some (.ref 67), some (.int x1), some (.int sx0), o3] [.int v] (fm_mk S1) r) : am_Ev (d + 1) k_Reader_dishItem 14 [some (.ref 67), some (.int x1), o2, o3] [.int sx0] (fm_mk S) r := by
  refine fs_istoren (j := 2) (L' := [some (.ref 67), some (.int x1), some (.int sx0), o3]) (by decide +kernel) (Nat.le_of_ble_eq_true rfl) rfl ?_
  refine fs_aloadn (j := 0) (by decide +kernel) rfl ?_
  refine fs_iconst (n := 0) (v := 0) (by decide +kernel) (by decide) ?_
  refine fs_bipush (n := 9) (v := 9) (by decide +kernel) (by decide) ?_
  exact fe_callV (t := 5) (idx := 83) (n := 2) (wp := 532) (q := (534, 10)) (as := [.int 0, .int 9]) (rs := []) (by decide +kernel) (by decide +kernel) (by decide +kernel) (by decide +kernel) rfl (Nat.le_of_ble_eq_true rfl) rfl hc nx
theorem b_Reader_dishItem_22 {d : Nat} {x1 : Int32} {x2 : Int32} {o3 : Option Value} {sx0 : Int32} {v : Int32} {S1 : fm_S} {S : fm_S} {r : Option Value × am_W} (hc : am_Sp d k_Reader_endItem [.ref 67] (fm_mk S) (some (.int v)) (fm_mk S1)) (nx : am_Ev (d + 1) k_Reader_dishItem 27 [some (.ref 67), some (.int x1), some (.int x2), some (.int sx0)] [.int v] (fm_mk S1) r) : am_Ev (d + 1) k_Reader_dishItem 22 [some (.ref 67), some (.int x1), some (.int x2), o3] [.int sx0] (fm_mk S) r := by
  refine fs_istoren (j := 3) (L' := [some (.ref 67), some (.int x1), some (.int x2), some (.int sx0)]) (by decide +kernel) (Nat.le_of_ble_eq_true rfl) rfl ?_
  refine fs_aloadn (j := 0) (by decide +kernel) rfl ?_
  exact fe_callV (t := 5) (idx := 73) (n := 0) (wp := 537) (q := (539, 11)) (as := []) (rs := []) (by decide +kernel) (by decide +kernel) (by decide +kernel) (by decide +kernel) rfl (Nat.le_of_ble_eq_true rfl) rfl hc nx
theorem b_Reader_dishItem_27 {d : Nat} {x1 : Int32} {x2 : Int32} {x3 : Int32} {sx0 : Int32} {S : fm_S} {r : Option Value × am_W} (kt : sx0 = 0 → am_Ev d k_Reader_dishItem 41 [some (.ref 67), some (.int x1), some (.int x2), some (.int x3)] [] (fm_mk S) r) (kf : ¬ sx0 = 0 → am_Ev d k_Reader_dishItem 30 [some (.ref 67), some (.int x1), some (.int x2), some (.int x3)] [] (fm_mk S) r) : am_Ev d k_Reader_dishItem 27 [some (.ref 67), some (.int x1), some (.int x2), some (.int x3)] [.int sx0] (fm_mk S) r := by
  exact fs_ifeq (off := 14) (tgt := 41) (by decide +kernel) (by decide) kt kf
theorem b_Reader_dishItem_30 {d : Nat} {x1 : Int32} {x2 : Int32} {x3 : Int32} {v : Int32} {S1 : fm_S} {S : fm_S} {r : Option Value × am_W} (hc : am_Sp d k_Town_addDish [.ref 68, .int x1, .int x2, .int x3] (fm_mk S) (some (.int v)) (fm_mk S1)) (nx : am_Ev (d + 1) k_Reader_dishItem 40 [some (.ref 67), some (.int x1), some (.int x2), some (.int x3)] [.int v] (fm_mk S1) r) : am_Ev (d + 1) k_Reader_dishItem 30 [some (.ref 67), some (.int x1), some (.int x2), some (.int x3)] [] (fm_mk S) r := by
  refine fs_aloadn (j := 0) (by decide +kernel) rfl ?_
  refine fe_getR (idx := 12) (t := 5) (f := 2) (fk := 2) (fin := 1) (wp := 289) (x := 68) (by decide +kernel) (by decide +kernel) (by decide +kernel) (by decide +kernel) (by decide +kernel) ?_
  refine fs_iloadn (j := 1) (by decide +kernel) rfl ?_
  refine fs_iloadn (j := 2) (by decide +kernel) rfl ?_
  refine fs_iloadn (j := 3) (by decide +kernel) rfl ?_
  exact fe_callV (t := 6) (idx := 101) (n := 3) (wp := 559) (q := (424, 425)) (as := [.int x1, .int x2, .int x3]) (rs := []) (by decide +kernel) (by decide +kernel) (by decide +kernel) (by decide +kernel) rfl (Nat.le_of_ble_eq_true rfl) rfl hc nx
theorem b_Reader_dishItem_40 {d : Nat} {x1 : Int32} {x2 : Int32} {x3 : Int32} {sx0 : Int32} {S : fm_S} {r : Option Value × am_W} (nx : am_Ev d k_Reader_dishItem 41 [some (.ref 67), some (.int x1), some (.int x2), some (.int x3)] [] (fm_mk S) r) : am_Ev d k_Reader_dishItem 40 [some (.ref 67), some (.int x1), some (.int x2), some (.int x3)] [.int sx0] (fm_mk S) r := by
  refine fs_pop (by decide +kernel) rfl ?_
  exact nx
theorem b_Reader_dishItem_41 {d : Nat} {x1 : Int32} {x2 : Int32} {x3 : Int32} {S : fm_S}  : am_Ev d k_Reader_dishItem 41 [some (.ref 67), some (.int x1), some (.int x2), some (.int x3)] [] (fm_mk S) (none, fm_mk S) := by
  exact fe_retV (by decide +kernel) (by decide +kernel)
