/-! counting loops: printed by wip/whole/gen14.py -/
/-- Cook_openingBits: the first i rounds -/
def n_Cook_openingBits (S : fm_S) (a1 : Nat) (x2 : Int32) : Nat → Int32
  | 0 => 0
  | i + 1 => if (f_Days_isShut S a1 (nI i)) = 0 then (n_Cook_openingBits S a1 x2 i) else (if (f_Cook_pullFromAir S a1 x2 (nI i)) < 10 then (n_Cook_openingBits S a1 x2 i) else ((n_Cook_openingBits S a1 x2 i) ||| (1 <<< ((nI i) &&& 31))))
theorem s_Cook_openingBits {d : Nat} {a1 : Nat} {x2 : Int32} {S : fm_S} (hs0 : fm_tg a1 = 2) (hs2 : vp_in x2 6) (hB : vp_in (S.1 1 0) 9) : am_Sp (d + 3) k_Cook_openingBits [.ref 54, .ref a1, .int x2] (fm_mk S) (some (.int (n_Cook_openingBits S a1 x2 ((S.1 1 0)).toNatClampNeg))) (fm_mk S) := by
  obtain ⟨eB, lB⟩ := vp_of hB (by decide)
  generalize hnB : ((S.1 1 0)).toNatClampNeg = nB at eB lB ⊢
  refine sp_of (L := [some (.ref 54), some (.ref a1), some (.int x2), none, none]) rfl (Nat.le_of_ble_eq_true rfl) (Nat.le_of_ble_eq_true rfl) ?_
  refine w_Cook_openingBits_0 ?_
  have key : ∀ i, i ≤ nB → am_Ev (d + 3) k_Cook_openingBits 5 [some (.ref 54), some (.ref a1), some (.int x2), some (.int (n_Cook_openingBits S a1 x2 i)), some (.int (nI i))] [] (fm_mk S) (some (.int (n_Cook_openingBits S a1 x2 nB)), fm_mk S) := by
    refine up_to (w_Cook_openingBits_5 hs0 (fun q => absurd (by rw [eB]; exact nI_le (Nat.le_refl _) (by omega)) q) (fun q _ => absurd (by rw [eB]; exact nI_le (Nat.le_refl _) (by omega)) q) (fun _ => rfl) (fun q _ => absurd (by rw [eB]; exact nI_le (Nat.le_refl _) (by omega)) q) (fun q _ _ => absurd (by rw [eB]; exact nI_le (Nat.le_refl _) (by omega)) q) (fun q _ _ => absurd (by rw [eB]; exact nI_le (Nat.le_refl _) (by omega)) q)) fun i hi ih => ?_
    refine w_Cook_openingBits_5 hs0 (fun _ => vp_in_nI (by omega) (by decide)) (fun _ g0 => hs2) (fun q => absurd (by rw [eB] at q; exact q) (nI_ge hi (by omega))) (fun _ g0 => ?_) (fun _ g0 g1 => ?_) (fun _ g0 g1 => ?_)
    · rw [n_Cook_openingBits, if_pos g0] at ih; rw [nI_s]; exact ih
    · rw [n_Cook_openingBits, if_neg g0, if_pos g1] at ih; rw [nI_s]; exact ih
    · rw [n_Cook_openingBits, if_neg g0, if_neg g1] at ih; rw [nI_s]; exact ih
  exact key 0 (by omega)
/-- Cook_openedAloneOn: the first i rounds -/
def n_Cook_openedAloneOn (S : fm_S) (x1 : Int32) (x2 : Int32) : Nat → Int32
  | 0 => 0
  | i + 1 => if (f_Town_pull S 1 (nI i) x1 (S.1 57 (nI i).toNatClampNeg) x2 0) < 10 then (n_Cook_openedAloneOn S x1 x2 i) else ((n_Cook_openedAloneOn S x1 x2 i) ||| (1 <<< ((nI i) &&& 31)))
theorem s_Cook_openedAloneOn {d : Nat} {x1 : Int32} {x2 : Int32} {S : fm_S} (hs1 : vp_in x1 6) (hB : vp_in (S.1 1 0) 9) : am_Sp (d + 2) k_Cook_openedAloneOn [.ref 54, .int x1, .int x2] (fm_mk S) (some (.int (n_Cook_openedAloneOn S x1 x2 ((S.1 1 0)).toNatClampNeg))) (fm_mk S) := by
  obtain ⟨eB, lB⟩ := vp_of hB (by decide)
  generalize hnB : ((S.1 1 0)).toNatClampNeg = nB at eB lB ⊢
  refine sp_of (L := [some (.ref 54), some (.int x1), some (.int x2), none, none]) rfl (Nat.le_of_ble_eq_true rfl) (Nat.le_of_ble_eq_true rfl) ?_
  refine w_Cook_openedAloneOn_0 ?_
  have key : ∀ i, i ≤ nB → am_Ev (d + 2) k_Cook_openedAloneOn 5 [some (.ref 54), some (.int x1), some (.int x2), some (.int (n_Cook_openedAloneOn S x1 x2 i)), some (.int (nI i))] [] (fm_mk S) (some (.int (n_Cook_openedAloneOn S x1 x2 nB)), fm_mk S) := by
    refine up_to (w_Cook_openedAloneOn_5 (fun q => absurd (by rw [eB]; exact nI_le (Nat.le_refl _) (by omega)) q) (fun q => absurd (by rw [eB]; exact nI_le (Nat.le_refl _) (by omega)) q) (fun _ => rfl) (fun q _ => absurd (by rw [eB]; exact nI_le (Nat.le_refl _) (by omega)) q) (fun q _ => absurd (by rw [eB]; exact nI_le (Nat.le_refl _) (by omega)) q)) fun i hi ih => ?_
    refine w_Cook_openedAloneOn_5 (fun _ => vp_in_nI (by omega) (by decide)) (fun _ => hs1) (fun q => absurd (by rw [eB] at q; exact q) (nI_ge hi (by omega))) (fun _ g0 => ?_) (fun _ g0 => ?_)
    · rw [n_Cook_openedAloneOn, if_pos g0] at ih; rw [nI_s]; exact ih
    · rw [n_Cook_openedAloneOn, if_neg g0] at ih; rw [nI_s]; exact ih
  exact key 0 (by omega)
/-- Cook_openedBy: the first i rounds -/
def n_Cook_openedBy (S : fm_S) (x1 : Int32) : Nat → Int32
  | 0 => 0
  | i + 1 => if (f_X_has x1 (nI i)) = 0 then (n_Cook_openedBy S x1 i) else ((n_Cook_openedBy S x1 i) ||| (S.1 65 (nI i).toNatClampNeg))
theorem s_Cook_openedBy {d : Nat} {x1 : Int32} {S : fm_S} (hB : vp_in (S.1 1 7) 7) : am_Sp (d + 1) k_Cook_openedBy [.ref 54, .int x1] (fm_mk S) (some (.int (n_Cook_openedBy S x1 ((S.1 1 7)).toNatClampNeg))) (fm_mk S) := by
  obtain ⟨eB, lB⟩ := vp_of hB (by decide)
  generalize hnB : ((S.1 1 7)).toNatClampNeg = nB at eB lB ⊢
  refine sp_of (L := [some (.ref 54), some (.int x1), none, none]) rfl (Nat.le_of_ble_eq_true rfl) (Nat.le_of_ble_eq_true rfl) ?_
  refine w_Cook_openedBy_0 ?_
  have key : ∀ i, i ≤ nB → am_Ev (d + 1) k_Cook_openedBy 4 [some (.ref 54), some (.int x1), some (.int (n_Cook_openedBy S x1 i)), some (.int (nI i))] [] (fm_mk S) (some (.int (n_Cook_openedBy S x1 nB)), fm_mk S) := by
    refine up_to (w_Cook_openedBy_4 (fun q _ => absurd (by rw [eB]; exact nI_le (Nat.le_refl _) (by omega)) q) (fun _ => rfl) (fun q _ => absurd (by rw [eB]; exact nI_le (Nat.le_refl _) (by omega)) q) (fun q _ => absurd (by rw [eB]; exact nI_le (Nat.le_refl _) (by omega)) q)) fun i hi ih => ?_
    refine w_Cook_openedBy_4 (fun _ _ => vp_in_nI (by omega) (by decide)) (fun q => absurd (by rw [eB] at q; exact q) (nI_ge hi (by omega))) (fun _ g0 => ?_) (fun _ g0 => ?_)
    · rw [n_Cook_openedBy, if_pos g0] at ih; rw [nI_s]; exact ih
    · rw [n_Cook_openedBy, if_neg g0] at ih; rw [nI_s]; exact ih
  exact key 0 (by omega)
/-- Cook_butterOf: the first i rounds -/
def n_Cook_butterOf (S : fm_S) (x1 : Int32) : Nat → Int32
  | 0 => 0
  | i + 1 => if (f_X_has x1 (nI i)) = 0 then (n_Cook_butterOf S x1 i) else ((n_Cook_butterOf S x1 i) + (S.1 10 (nI i).toNatClampNeg))
theorem s_Cook_butterOf {d : Nat} {x1 : Int32} {S : fm_S} (hB : vp_in (S.1 1 7) 7) : am_Sp (d + 1) k_Cook_butterOf [.ref 54, .int x1] (fm_mk S) (some (.int (n_Cook_butterOf S x1 ((S.1 1 7)).toNatClampNeg))) (fm_mk S) := by
  obtain ⟨eB, lB⟩ := vp_of hB (by decide)
  generalize hnB : ((S.1 1 7)).toNatClampNeg = nB at eB lB ⊢
  refine sp_of (L := [some (.ref 54), some (.int x1), none, none]) rfl (Nat.le_of_ble_eq_true rfl) (Nat.le_of_ble_eq_true rfl) ?_
  refine w_Cook_butterOf_0 ?_
  have key : ∀ i, i ≤ nB → am_Ev (d + 1) k_Cook_butterOf 4 [some (.ref 54), some (.int x1), some (.int (n_Cook_butterOf S x1 i)), some (.int (nI i))] [] (fm_mk S) (some (.int (n_Cook_butterOf S x1 nB)), fm_mk S) := by
    refine up_to (w_Cook_butterOf_4 (fun q _ => absurd (by rw [eB]; exact nI_le (Nat.le_refl _) (by omega)) q) (fun _ => rfl) (fun q _ => absurd (by rw [eB]; exact nI_le (Nat.le_refl _) (by omega)) q) (fun q _ => absurd (by rw [eB]; exact nI_le (Nat.le_refl _) (by omega)) q)) fun i hi ih => ?_
    refine w_Cook_butterOf_4 (fun _ _ => vp_in_nI (by omega) (by decide)) (fun q => absurd (by rw [eB] at q; exact q) (nI_ge hi (by omega))) (fun _ g0 => ?_) (fun _ g0 => ?_)
    · rw [n_Cook_butterOf, if_pos g0] at ih; rw [nI_s]; exact ih
    · rw [n_Cook_butterOf, if_neg g0] at ih; rw [nI_s]; exact ih
  exact key 0 (by omega)
/-- Notes_openers: the first i rounds -/
def n_Notes_openers (S : fm_S) (x0 : Int32) (x1 : Int32) (x2 : Int32) (x3 : Int32) (x4 : Int32) : Nat → Int32
  | 0 => 0
  | i + 1 => if (f_X_has x0 (nI i)) = 0 then (n_Notes_openers S x0 x1 x2 x3 x4 i) else (if (f_Nose_opensAlone x1 (nI i) x2 x3 x4) = 0 then (n_Notes_openers S x0 x1 x2 x3 x4 i) else ((n_Notes_openers S x0 x1 x2 x3 x4 i) + 1))
theorem s_Notes_openers {d : Nat} {x0 : Int32} {x1 : Int32} {x2 : Int32} {x3 : Int32} {x4 : Int32} {S : fm_S} : am_Sp (d + 2) k_Notes_openers [.int x0, .int x1, .int x2, .int x3, .int x4] (fm_mk S) (some (.int (n_Notes_openers S x0 x1 x2 x3 x4 6))) (fm_mk S) := by
  have hle : ∀ i, i ≤ 6 → i < 2 ^ 31 := fun i hi => by omega
  refine sp_of (L := [some (.int x0), some (.int x1), some (.int x2), some (.int x3), some (.int x4), none, none]) rfl (Nat.le_of_ble_eq_true rfl) (Nat.le_of_ble_eq_true rfl) ?_
  refine w_Notes_openers_0 ?_
  have key : ∀ i, i ≤ 6 → am_Ev (d + 2) k_Notes_openers 6 [some (.int x0), some (.int x1), some (.int x2), some (.int x3), some (.int x4), some (.int (n_Notes_openers S x0 x1 x2 x3 x4 i)), some (.int (nI i))] [] (fm_mk S) (some (.int (n_Notes_openers S x0 x1 x2 x3 x4 6)), fm_mk S) := by
    refine up_to (w_Notes_openers_6 (fun _ => rfl) (fun q _ => absurd (by decide) q) (fun q _ _ => absurd (by decide) q) (fun q _ _ => absurd (by decide) q)) fun i hi ih => ?_
    refine w_Notes_openers_6 (fun q => absurd q (nI_ge (b := 6) hi (by decide))) (fun _ g0 => ?_) (fun _ g0 g1 => ?_) (fun _ g0 g1 => ?_)
    · rw [n_Notes_openers, if_pos g0] at ih; rw [nI_s]; exact ih
    · rw [n_Notes_openers, if_neg g0, if_pos g1] at ih; rw [nI_s]; exact ih
    · rw [n_Notes_openers, if_neg g0, if_neg g1] at ih; rw [nI_s]; exact ih
  exact key 0 (by omega)
/-- Town_mixStreets: the first i rounds -/
def n_Town_mixStreets (S : fm_S) (a0 : Nat) (y1 : Int64) : Nat → Int64
  | 0 => y1
  | i + 1 => (f_X_mix (f_X_mix (f_X_mix (f_X_mix (f_X_mix (f_X_mix (n_Town_mixStreets S a0 y1 i) ((S.1 (a0 + 1) (nI i).toNatClampNeg).toInt64)) ((S.1 (a0 + 2) (nI i).toNatClampNeg).toInt64)) ((S.1 (a0 + 3) (nI i).toNatClampNeg).toInt64)) ((S.1 ((a0 + 16) + 1) (nI i).toNatClampNeg).toInt64)) ((S.1 ((a0 + 16) + 2) (nI i).toNatClampNeg).toInt64)) ((S.1 ((a0 + 16) + 3) (nI i).toNatClampNeg).toInt64))
theorem s_Town_mixStreets {d : Nat} {a0 : Nat} {y1 : Int64} {S : fm_S} (hs0 : fm_tg a0 = 6) (hB : vp_in (S.1 a0 0) 9) : am_Sp (d + 1) k_Town_mixStreets [.ref a0, .long y1] (fm_mk S) (some (.long (n_Town_mixStreets S a0 y1 ((S.1 a0 0)).toNatClampNeg))) (fm_mk S) := by
  obtain ⟨eB, lB⟩ := vp_of hB (by decide)
  generalize hnB : ((S.1 a0 0)).toNatClampNeg = nB at eB lB ⊢
  refine sp_of (L := [some (.ref a0), some (.long y1), none, none]) rfl (Nat.le_of_ble_eq_true rfl) (Nat.le_of_ble_eq_true rfl) ?_
  refine w_Town_mixStreets_0 ?_
  have key : ∀ i, i ≤ nB → am_Ev (d + 1) k_Town_mixStreets 2 [some (.ref a0), some (.long (n_Town_mixStreets S a0 y1 i)), none, some (.int (nI i))] [] (fm_mk S) (some (.long (n_Town_mixStreets S a0 y1 nB)), fm_mk S) := by
    refine up_to (w_Town_mixStreets_2 hs0 (fun q => absurd (by rw [eB]; exact nI_le (Nat.le_refl _) (by omega)) q) (fun _ => rfl) (fun q => absurd (by rw [eB]; exact nI_le (Nat.le_refl _) (by omega)) q)) fun i hi ih => ?_
    refine w_Town_mixStreets_2 hs0 (fun _ => vp_in_nI (by omega) (by decide)) (fun q => absurd (by rw [eB] at q; exact q) (nI_ge hi (by omega))) (fun _ => ?_)
    · rw [n_Town_mixStreets] at ih; rw [nI_s]; exact ih
  exact key 0 (by omega)
/-- Town_mixDishes: the first i rounds -/
def n_Town_mixDishes (S : fm_S) (a0 : Nat) (y1 : Int64) : Nat → Int64
  | 0 => y1
  | i + 1 => (f_X_mix (f_X_mix (f_X_mix (n_Town_mixDishes S a0 y1 i) ((S.1 (a0 + 7) (nI i).toNatClampNeg).toInt64)) ((S.1 (a0 + 8) (nI i).toNatClampNeg).toInt64)) ((S.1 (a0 + 9) (nI i).toNatClampNeg).toInt64))
theorem s_Town_mixDishes {d : Nat} {a0 : Nat} {y1 : Int64} {S : fm_S} (hs0 : fm_tg a0 = 6) (hB : vp_in (S.1 a0 7) 7) : am_Sp (d + 1) k_Town_mixDishes [.ref a0, .long y1] (fm_mk S) (some (.long (n_Town_mixDishes S a0 y1 ((S.1 a0 7)).toNatClampNeg))) (fm_mk S) := by
  obtain ⟨eB, lB⟩ := vp_of hB (by decide)
  generalize hnB : ((S.1 a0 7)).toNatClampNeg = nB at eB lB ⊢
  refine sp_of (L := [some (.ref a0), some (.long y1), none, none]) rfl (Nat.le_of_ble_eq_true rfl) (Nat.le_of_ble_eq_true rfl) ?_
  refine w_Town_mixDishes_0 ?_
  have key : ∀ i, i ≤ nB → am_Ev (d + 1) k_Town_mixDishes 2 [some (.ref a0), some (.long (n_Town_mixDishes S a0 y1 i)), none, some (.int (nI i))] [] (fm_mk S) (some (.long (n_Town_mixDishes S a0 y1 nB)), fm_mk S) := by
    refine up_to (w_Town_mixDishes_2 hs0 (fun q => absurd (by rw [eB]; exact nI_le (Nat.le_refl _) (by omega)) q) (fun _ => rfl) (fun q => absurd (by rw [eB]; exact nI_le (Nat.le_refl _) (by omega)) q)) fun i hi ih => ?_
    refine w_Town_mixDishes_2 hs0 (fun _ => vp_in_nI (by omega) (by decide)) (fun q => absurd (by rw [eB] at q; exact q) (nI_ge hi (by omega))) (fun _ => ?_)
    · rw [n_Town_mixDishes] at ih; rw [nI_s]; exact ih
  exact key 0 (by omega)
/-- Notes_mixNotes: the first i rounds -/
def n_Notes_mixNotes (S : fm_S) (a0 : Nat) (y1 : Int64) : Nat → Int64
  | 0 => y1
  | i + 1 => (f_X_mix (f_X_mix (f_X_mix (f_X_mix (f_X_mix (n_Notes_mixNotes S a0 y1 i) ((S.1 (a0 + 1) (nI i).toNatClampNeg).toInt64)) ((S.1 (a0 + 2) (nI i).toNatClampNeg).toInt64)) ((S.1 (a0 + 3) (nI i).toNatClampNeg).toInt64)) ((S.1 (a0 + 4) (nI i).toNatClampNeg).toInt64)) ((S.1 (a0 + 5) (nI i).toNatClampNeg).toInt64))
theorem s_Notes_mixNotes {d : Nat} {a0 : Nat} {y1 : Int64} {S : fm_S} (hs0 : fm_tg a0 = 4) (hB : vp_in (S.1 a0 0) 7) : am_Sp (d + 1) k_Notes_mixNotes [.ref a0, .long y1] (fm_mk S) (some (.long (n_Notes_mixNotes S a0 y1 ((S.1 a0 0)).toNatClampNeg))) (fm_mk S) := by
  obtain ⟨eB, lB⟩ := vp_of hB (by decide)
  generalize hnB : ((S.1 a0 0)).toNatClampNeg = nB at eB lB ⊢
  refine sp_of (L := [some (.ref a0), some (.long y1), none, none]) rfl (Nat.le_of_ble_eq_true rfl) (Nat.le_of_ble_eq_true rfl) ?_
  refine w_Notes_mixNotes_0 ?_
  have key : ∀ i, i ≤ nB → am_Ev (d + 1) k_Notes_mixNotes 2 [some (.ref a0), some (.long (n_Notes_mixNotes S a0 y1 i)), none, some (.int (nI i))] [] (fm_mk S) (some (.long (n_Notes_mixNotes S a0 y1 nB)), fm_mk S) := by
    refine up_to (w_Notes_mixNotes_2 hs0 (fun q => absurd (by rw [eB]; exact nI_le (Nat.le_refl _) (by omega)) q) (fun _ => rfl) (fun q => absurd (by rw [eB]; exact nI_le (Nat.le_refl _) (by omega)) q)) fun i hi ih => ?_
    refine w_Notes_mixNotes_2 hs0 (fun _ => vp_in_nI (by omega) (by decide)) (fun q => absurd (by rw [eB] at q; exact q) (nI_ge hi (by omega))) (fun _ => ?_)
    · rw [n_Notes_mixNotes] at ih; rw [nI_s]; exact ih
  exact key 0 (by omega)
/-- M_openMany: the first i rounds -/
def n_M_openMany (S : fm_S) : Nat → Int32
  | 0 => 0
  | i + 1 => if (S.1 232 ((29 + (nI i)).toNatClampNeg)) = (-1) then ((n_M_openMany S i) + 0) else ((n_M_openMany S i) + 1)
theorem s_M_openMany {d : Nat} {S : fm_S} (hB : vp_in (S.1 232 0) 9) : am_Sp d k_M_openMany [.ref 231] (fm_mk S) (some (.int (n_M_openMany S ((S.1 232 0)).toNatClampNeg))) (fm_mk S) := by
  obtain ⟨eB, lB⟩ := vp_of hB (by decide)
  generalize hnB : ((S.1 232 0)).toNatClampNeg = nB at eB lB ⊢
  refine sp_of (L := [some (.ref 231), none, none]) rfl (Nat.le_of_ble_eq_true rfl) (Nat.le_of_ble_eq_true rfl) ?_
  refine w_M_openMany_0 ?_
  have key : ∀ i, i ≤ nB → am_Ev d k_M_openMany 4 [some (.ref 231), some (.int (n_M_openMany S i)), some (.int (nI i))] [] (fm_mk S) (some (.int (n_M_openMany S nB)), fm_mk S) := by
    refine up_to (w_M_openMany_4 (fun q => absurd (by rw [eB]; exact nI_le (Nat.le_refl _) (by omega)) q) (fun _ => rfl) (fun q _ => absurd (by rw [eB]; exact nI_le (Nat.le_refl _) (by omega)) q) (fun q _ => absurd (by rw [eB]; exact nI_le (Nat.le_refl _) (by omega)) q)) fun i hi ih => ?_
    refine w_M_openMany_4 (fun _ => by rw [show (29 : Int32) + nI i = nI (29 + i) from by rw [← nI_add]; rfl]; exact vp_in_nI (by omega) (by decide)) (fun q => absurd (by rw [eB] at q; exact q) (nI_ge hi (by omega))) (fun _ g0 => ?_) (fun _ g0 => ?_)
    · rw [n_M_openMany, if_pos g0] at ih; rw [nI_s]; exact ih
    · rw [n_M_openMany, if_neg g0] at ih; rw [nI_s]; exact ih
  exact key 0 (by omega)
