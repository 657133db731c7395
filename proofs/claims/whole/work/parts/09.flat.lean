/-! THE FLAT MEMORY: the world behind the constructors, as three functions of cell and place; printed by wip/whole/gen09.py -/
/-- kind and length of each cell -/
def fm_sh : List (Nat × Nat) := [(7, 9), (6, 15), (100, 8), (100, 8), (100, 8), (100, 8), (100, 4), (100, 4), (100, 6), (100, 6), (100, 6), (4, 6), (100, 6), (100, 6), (100, 6), (100, 6), (100, 6), (2, 4), (100, 8), (100, 8), (100, 8), (103, 8), (2, 4), (100, 8), (100, 8), (100, 8), (2, 4), (100, 8), (100, 8), (100, 8), (2, 4), (100, 8), (100, 8), (100, 8), (2, 4), (100, 8), (100, 8), (100, 8), (2, 4), (100, 8), (100, 8), (100, 8), (2, 4), (100, 8), (100, 8), (100, 8), (2, 4), (100, 8), (100, 8), (100, 8), (2, 4), (100, 8), (100, 8), (100, 8), (1, 9), (100, 4), (0, 2), (100, 8), (100, 8), (2, 4), (100, 8), (100, 8), (100, 8), (100, 4), (100, 24), (100, 6), (100, 63), (5, 9), (6, 15), (100, 8), (100, 8), (100, 8), (100, 8), (100, 4), (100, 4), (100, 6), (100, 6), (100, 6), (4, 6), (100, 6), (100, 6), (100, 6), (100, 6), (100, 6), (2, 4), (100, 8), (100, 8), (100, 8), (103, 8), (2, 4), (100, 8), (100, 8), (100, 8), (2, 4), (100, 8), (100, 8), (100, 8), (2, 4), (100, 8), (100, 8), (100, 8), (2, 4), (100, 8), (100, 8), (100, 8), (2, 4), (100, 8), (100, 8), (100, 8), (2, 4), (100, 8), (100, 8), (100, 8), (2, 4), (100, 8), (100, 8), (100, 8), (2, 4), (100, 8), (100, 8), (100, 8), (100, 150), (3, 2), (104, 2), (6, 15), (100, 8), (100, 8), (100, 8), (100, 8), (100, 4), (100, 4), (100, 6), (100, 6), (100, 6), (4, 6), (100, 6), (100, 6), (100, 6), (100, 6), (100, 6), (2, 4), (100, 8), (100, 8), (100, 8), (103, 8), (2, 4), (100, 8), (100, 8), (100, 8), (2, 4), (100, 8), (100, 8), (100, 8), (2, 4), (100, 8), (100, 8), (100, 8), (2, 4), (100, 8), (100, 8), (100, 8), (2, 4), (100, 8), (100, 8), (100, 8), (2, 4), (100, 8), (100, 8), (100, 8), (2, 4), (100, 8), (100, 8), (100, 8), (2, 4), (100, 8), (100, 8), (100, 8), (6, 15), (100, 8), (100, 8), (100, 8), (100, 8), (100, 4), (100, 4), (100, 6), (100, 6), (100, 6), (4, 6), (100, 6), (100, 6), (100, 6), (100, 6), (100, 6), (2, 4), (100, 8), (100, 8), (100, 8), (103, 8), (2, 4), (100, 8), (100, 8), (100, 8), (2, 4), (100, 8), (100, 8), (100, 8), (2, 4), (100, 8), (100, 8), (100, 8), (2, 4), (100, 8), (100, 8), (100, 8), (2, 4), (100, 8), (100, 8), (100, 8), (2, 4), (100, 8), (100, 8), (100, 8), (2, 4), (100, 8), (100, 8), (100, 8), (2, 4), (100, 8), (100, 8), (100, 8), (102, 2), (8, 20), (100, 373), (100, 373), (100, 746), (100, 2), (100, 150), (100, 3), (100, 8), (100, 25), (100, 4), (100, 6), (100, 63), (101, 9)]
/-- the references that never change -/
def fm_rl : List (List Nat) := [[1, 54, 67, 122, 123, 230, 0, 0, 0], [0, 2, 3, 4, 5, 6, 7, 0, 8, 9, 10, 11, 17, 21, 0], [], [], [], [], [], [], [], [], [], [0, 12, 13, 14, 15, 16], [], [], [], [], [], [0, 18, 19, 20], [], [], [], [], [0, 23, 24, 25], [], [], [], [0, 27, 28, 29], [], [], [], [0, 31, 32, 33], [], [], [], [0, 35, 36, 37], [], [], [], [0, 39, 40, 41], [], [], [], [0, 43, 44, 45], [], [], [], [0, 47, 48, 49], [], [], [], [0, 51, 52, 53], [], [], [], [55, 0, 1, 56, 59, 63, 64, 65, 66], [], [57, 58], [], [], [0, 60, 61, 62], [], [], [], [], [], [], [], [0, 0, 68, 121, 0, 0, 0, 0, 0], [0, 69, 70, 71, 72, 73, 74, 0, 75, 76, 77, 78, 84, 88, 0], [], [], [], [], [], [], [], [], [], [0, 79, 80, 81, 82, 83], [], [], [], [], [], [0, 85, 86, 87], [], [], [], [], [0, 90, 91, 92], [], [], [], [0, 94, 95, 96], [], [], [], [0, 98, 99, 100], [], [], [], [0, 102, 103, 104], [], [], [], [0, 106, 107, 108], [], [], [], [0, 110, 111, 112], [], [], [], [0, 114, 115, 116], [], [], [], [0, 118, 119, 120], [], [], [], [], [], [124, 177], [0, 125, 126, 127, 128, 129, 130, 0, 131, 132, 133, 134, 140, 144, 0], [], [], [], [], [], [], [], [], [], [0, 135, 136, 137, 138, 139], [], [], [], [], [], [0, 141, 142, 143], [], [], [], [], [0, 146, 147, 148], [], [], [], [0, 150, 151, 152], [], [], [], [0, 154, 155, 156], [], [], [], [0, 158, 159, 160], [], [], [], [0, 162, 163, 164], [], [], [], [0, 166, 167, 168], [], [], [], [0, 170, 171, 172], [], [], [], [0, 174, 175, 176], [], [], [], [0, 178, 179, 180, 181, 182, 183, 0, 184, 185, 186, 187, 193, 197, 0], [], [], [], [], [], [], [], [], [], [0, 188, 189, 190, 191, 192], [], [], [], [], [], [0, 194, 195, 196], [], [], [], [], [0, 199, 200, 201], [], [], [], [0, 203, 204, 205], [], [], [], [0, 207, 208, 209], [], [], [], [0, 211, 212, 213], [], [], [], [0, 215, 216, 217], [], [], [], [0, 219, 220, 221], [], [], [], [0, 223, 224, 225], [], [], [], [0, 227, 228, 229], [], [], [], [], [232, 233, 234, 235, 236, 0, 0, 0, 0, 0, 0, 0, 0, 237, 238, 239, 240, 241, 242, 243], [], [], [], [], [], [], [], [], [], [], [], []]
/-- the sort of each field: 0 int, 1 long, 2 reference -/
def fm_kl : List (List Nat) := [[2, 2], [2, 0, 2, 2, 2, 2, 2, 2, 2], [0, 2, 2, 2], [1, 1], [0, 2, 2, 2, 2, 2], [0, 0, 2, 2, 0, 0, 0, 0, 0], [0, 2, 2, 2, 2, 2, 2, 0, 2, 2, 2, 2, 2, 2, 0], [2, 2, 2, 2, 2, 2, 0, 0, 0], [2, 2, 2, 2, 2, 0, 1, 1, 0, 0, 0, 0, 0, 2, 2, 2, 2, 2, 2, 2]]
def fm_n : Nat := 244
def fm_tg (a : Nat) : Nat := (fm_sh.getD a (999, 0)).1
def fm_ln (a : Nat) : Nat := (fm_sh.getD a (999, 0)).2
def fm_kd (t i : Nat) : Nat := if t = 101 then 1 else if t = 103 then 3 else if t = 104 then 2 else (fm_kl.getD t []).getD i 0
def fm_rf (a i : Nat) : Nat := (fm_rl.getD a []).getD i 0
/-- ints, longs, the references that move -/
abbrev fm_S : Type := (Nat → Nat → Int32) × (Nat → Nat → Int64) × (Nat → Nat → Nat)
def fm_sl (S : fm_S) (a i : Nat) : Value := match fm_kd (fm_tg a) i with
  | 0 => .int (S.1 a i)
  | 1 => .long (S.2.1 a i)
  | 2 => .ref (fm_rf a i)
  | _ => .ref (S.2.2 a i)
def fm_vs (S : fm_S) (a : Nat) : List Value := (List.range (fm_ln a)).map (fm_sl S a)
def fm_mk (S : fm_S) : am_W := (List.range fm_n).map fun a => (fm_tg a, fm_vs S a)
def fm_up {α : Type} (f : Nat → Nat → α) (a i : Nat) (x : α) : Nat → Nat → α := fun a' i' => if a' = a ∧ i' = i then x else f a' i'
def fm_wI (S : fm_S) (a i : Nat) (x : Int32) : fm_S := (fm_up S.1 a i x, S.2.1, S.2.2)
def fm_wL (S : fm_S) (a i : Nat) (x : Int64) : fm_S := (S.1, fm_up S.2.1 a i x, S.2.2)
def fm_wP (S : fm_S) (a i : Nat) (x : Nat) : fm_S := (S.1, S.2.1, fm_up S.2.2 a i x)
/-- n ints from place sp of b to place dp of a -/
def fm_cp (S : fm_S) (b sp a dp n : Nat) : fm_S := (fun a' i' => if a' = a ∧ dp ≤ i' ∧ i' < dp + n then S.1 b (sp + (i' - dp)) else S.1 a' i', S.2.1, S.2.2)
theorem fm_sh_len : fm_sh.length = fm_n := by decide +kernel
theorem fm_lt {a : Nat} (h : fm_tg a < 200) : a < fm_n := by
  rcases Nat.lt_or_ge a fm_n with q | q
  · exact q
  · have e : fm_sh[a]? = none := List.getElem?_eq_none (by rw [fm_sh_len]; exact q)
    unfold fm_tg at h
    rw [List.getD_eq_getElem?_getD, e] at h
    exact absurd h (by decide)
theorem fm_get (S : fm_S) {a : Nat} (h : fm_tg a < 200) : (fm_mk S)[a]? = some (fm_tg a, fm_vs S a) := by
  unfold fm_mk
  rw [List.getElem?_map, List.getElem?_range (fm_lt h)]; rfl
theorem fm_at (S : fm_S) {a t : Nat} (h : fm_tg a = t) (ht : t < 200) : am_at (fm_mk S) a t = some (fm_vs S a) := by
  unfold am_at
  rw [fm_get S (by rw [h]; exact ht)]
  simp [h]
theorem fm_el (S : fm_S) {a i : Nat} (h : i < fm_ln a) : (fm_vs S a)[i]? = some (fm_sl S a i) := by
  unfold fm_vs
  rw [List.getElem?_map, List.getElem?_range h]; rfl
theorem fm_vs_len (S : fm_S) (a : Nat) : (fm_vs S a).length = fm_ln a := by simp [fm_vs]
theorem fm_ix (S : fm_S) {a : Nat} {j : Int32} (h : vp_in j (fm_ln a)) : am_ix (fm_vs S a) j = some (fm_sl S a j.toNatClampNeg) := by
  unfold am_ix
  have h0 : ¬ j < 0 := fun q => h (Or.inl q)
  have h1 : j.toNatClampNeg < fm_ln a := Nat.not_le.mp fun q => h (Or.inr q)
  rw [if_neg h0, fm_el S h1]
/-- a write, in general -/
theorem fm_set {S S' : fm_S} {a : Nat} {vs : List Value} (h : fm_tg a < 200) (ha : vs = fm_vs S' a) (ho : ∀ b, b ≠ a → fm_vs S b = fm_vs S' b) : (fm_mk S).set a (fm_tg a, vs) = fm_mk S' := by
  have hl := fm_lt h
  apply List.ext_getElem?
  intro i
  rw [List.getElem?_set]
  unfold fm_mk
  by_cases hi : a = i
  · subst hi
    rw [if_pos rfl, if_pos (by simp; exact hl), List.getElem?_map, List.getElem?_range hl, ha]; rfl
  · rw [if_neg hi, List.getElem?_map, List.getElem?_map]
    cases h2 : (List.range fm_n)[i]? with
    | none => rfl
    | some j =>
      have e : j = i := by
        have hlt := (List.getElem?_eq_some_iff.mp h2).1
        rw [List.length_range] at hlt
        rw [List.getElem?_range hlt] at h2
        exact (Option.some.inj h2).symm
      subst e
      show some (fm_tg j, fm_vs S j) = some (fm_tg j, fm_vs S' j)
      rw [ho j (Ne.symm hi)]
theorem fm_vs_eq {S S' : fm_S} {a : Nat} (h : ∀ i, i < fm_ln a → fm_sl S a i = fm_sl S' a i) : fm_vs S a = fm_vs S' a := by
  unfold fm_vs
  exact List.map_congr_left fun i hi => h i (List.mem_range.mp hi)
theorem fm_vs_set {S S' : fm_S} {a i : Nat} {v : Value} (hi : i < fm_ln a) (hv : fm_sl S' a i = v) (ho : ∀ j, j ≠ i → fm_sl S a j = fm_sl S' a j) : (fm_vs S a).set i v = fm_vs S' a := by
  apply List.ext_getElem?
  intro j
  rw [List.getElem?_set, fm_vs_len]
  by_cases hj : i = j
  · subst hj
    rw [if_pos rfl, if_pos hi, fm_el S' hi, hv]
  · rw [if_neg hj]
    unfold fm_vs
    rw [List.getElem?_map, List.getElem?_map]
    cases h2 : (List.range (fm_ln a))[j]? with
    | none => rfl
    | some q =>
      have e : q = j := by
        have hlt := (List.getElem?_eq_some_iff.mp h2).1
        rw [List.length_range] at hlt
        rw [List.getElem?_range hlt] at h2
        exact (Option.some.inj h2).symm
      subst e
      show some _ = some _
      rw [ho q (Ne.symm hj)]
theorem fm_up_self {α : Type} (f : Nat → Nat → α) (a i : Nat) (x : α) : fm_up f a i x a i = x := by simp [fm_up]
theorem fm_up_cell {α : Type} (f : Nat → Nat → α) {a b : Nat} (i j : Nat) (x : α) (h : b ≠ a) : fm_up f a i x b j = f b j := by simp [fm_up, h]
theorem fm_up_place {α : Type} (f : Nat → Nat → α) (a : Nat) {b i j : Nat} (x : α) (h : j ≠ i) : fm_up f a i x b j = f b j := by simp [fm_up, h]
theorem fm_sl_wI {S : fm_S} {a i b j : Nat} {x : Int32} (h : ¬ (b = a ∧ j = i)) : fm_sl S b j = fm_sl (fm_wI S a i x) b j := by
  unfold fm_sl fm_wI
  split <;> first | rfl | (simp [fm_up, h])
theorem fm_sl_wL {S : fm_S} {a i b j : Nat} {x : Int64} (h : ¬ (b = a ∧ j = i)) : fm_sl S b j = fm_sl (fm_wL S a i x) b j := by
  unfold fm_sl fm_wL
  split <;> first | rfl | (simp [fm_up, h])
theorem fm_sl_wP {S : fm_S} {a i b j : Nat} {x : Nat} (h : ¬ (b = a ∧ j = i)) : fm_sl S b j = fm_sl (fm_wP S a i x) b j := by
  unfold fm_sl fm_wP
  split <;> first | rfl | (simp [fm_up, h])
theorem fm_setI (S : fm_S) {a i : Nat} (x : Int32) (h : fm_tg a < 200) (hk : fm_kd (fm_tg a) i = 0) (hi : i < fm_ln a) : (fm_mk S).set a (fm_tg a, (fm_vs S a).set i (.int x)) = fm_mk (fm_wI S a i x) :=
  fm_set h (fm_vs_set hi (by unfold fm_sl; rw [hk]; simp [fm_wI, fm_up]) (fun j hj => fm_sl_wI fun q => hj q.2)) (fun b hb => fm_vs_eq fun j _ => fm_sl_wI fun q => hb q.1)
theorem fm_setL (S : fm_S) {a i : Nat} (x : Int64) (h : fm_tg a < 200) (hk : fm_kd (fm_tg a) i = 1) (hi : i < fm_ln a) : (fm_mk S).set a (fm_tg a, (fm_vs S a).set i (.long x)) = fm_mk (fm_wL S a i x) :=
  fm_set h (fm_vs_set hi (by unfold fm_sl; rw [hk]; simp [fm_wL, fm_up]) (fun j hj => fm_sl_wL fun q => hj q.2)) (fun b hb => fm_vs_eq fun j _ => fm_sl_wL fun q => hb q.1)
theorem fm_setP (S : fm_S) {a i : Nat} (x : Nat) (h : fm_tg a < 200) (hk : fm_kd (fm_tg a) i = 3) (hi : i < fm_ln a) : (fm_mk S).set a (fm_tg a, (fm_vs S a).set i (.ref x)) = fm_mk (fm_wP S a i x) :=
  fm_set h (fm_vs_set hi (by unfold fm_sl; rw [hk]; simp [fm_wP, fm_up]) (fun j hj => fm_sl_wP fun q => hj q.2)) (fun b hb => fm_vs_eq fun j _ => fm_sl_wP fun q => hb q.1)
theorem fm_setC (S : fm_S) {b sp a dp n : Nat} (hb : fm_tg b = 100) (ha : fm_tg a = 100) (h1 : sp + n ≤ fm_ln b) (h2 : dp + n ≤ fm_ln a) :
    (fm_mk S).set a (100, (fm_vs S a).take dp ++ ((fm_vs S b).drop sp).take n ++ (fm_vs S a).drop (dp + n)) = fm_mk (fm_cp S b sp a dp n) := by
  have hka : ∀ i, fm_kd (fm_tg a) i = 0 := fun i => by rw [ha]; rfl
  have hkb : ∀ i, fm_kd (fm_tg b) i = 0 := fun i => by rw [hb]; rfl
  have key : (fm_vs S a).take dp ++ ((fm_vs S b).drop sp).take n ++ (fm_vs S a).drop (dp + n) = fm_vs (fm_cp S b sp a dp n) a := by
    have e1 : ((fm_vs S a).take dp).length = dp := by rw [List.length_take, fm_vs_len]; omega
    have e2 : (((fm_vs S b).drop sp).take n).length = n := by rw [List.length_take, List.length_drop, fm_vs_len]; omega
    apply List.ext_getElem?
    intro j
    by_cases hj : j < fm_ln a
    · rw [fm_el _ hj]
      unfold fm_sl
      rw [hka]
      show _ = some (Value.int (if a = a ∧ dp ≤ j ∧ j < dp + n then S.1 b (sp + (j - dp)) else S.1 a j))
      by_cases hc : dp ≤ j ∧ j < dp + n
      · rw [if_pos ⟨rfl, hc⟩, List.getElem?_append_left (by rw [List.length_append, e1, e2]; omega), List.getElem?_append_right (by rw [e1]; omega), e1, List.getElem?_take, if_pos (by omega), List.getElem?_drop, fm_el S (by omega)]
        unfold fm_sl
        rw [hkb]
        rfl
      · rw [if_neg (fun q => hc q.2)]
        by_cases hj2 : j < dp
        · rw [List.getElem?_append_left (by rw [List.length_append, e1, e2]; omega), List.getElem?_append_left (by rw [e1]; omega), List.getElem?_take, if_pos hj2, fm_el S hj]
          unfold fm_sl
          rw [hka]
          rfl
        · rw [List.getElem?_append_right (by rw [List.length_append, e1, e2]; omega), List.length_append, e1, e2, List.getElem?_drop, show dp + n + (j - (dp + n)) = j by omega, fm_el S hj]
          unfold fm_sl
          rw [hka]
          rfl
    · rw [List.getElem?_eq_none (by rw [List.length_append, List.length_append, e1, e2, List.length_drop, fm_vs_len]; omega), List.getElem?_eq_none (by rw [fm_vs_len]; omega)]
  rw [key, ← ha]
  refine fm_set (by rw [ha]; decide) rfl (fun c hc => fm_vs_eq fun j _ => ?_)
  unfold fm_sl fm_cp
  split <;> first | rfl | (simp [hc])
