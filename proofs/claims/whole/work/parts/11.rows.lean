/-! ROWS over the flat memory: one an instruction that touches it, a call, a branch -/
def fm_of (t f : Nat) : Nat := if t = 2 then f else if t = 4 then f else if t = 6 then ([0, 1, 2, 3, 4, 5, 6, 0, 7, 8, 9, 10, 16, 20, 0] : List Nat).getD f 0 else 0
def fm_on (t : Nat) : Nat := (fm_kl.getD t []).length
theorem fm_facts : (List.range fm_n).all (fun a => (if fm_tg a < 9 then decide (fm_ln a = fm_on (fm_tg a)) else true) && (if fm_tg a = 2 ∨ fm_tg a = 4 ∨ fm_tg a = 6 then (List.range (fm_ln a)).all (fun f => if fm_kd (fm_tg a) f = 2 then decide (fm_rf a f = a + fm_of (fm_tg a) f) else true) else true)) = true := by decide +kernel
theorem fm_objln {a t : Nat} (h : fm_tg a = t) (ht : t < 9) : fm_ln a = fm_on t := by
  have hl := fm_lt (a := a) (by omega)
  have h1 := List.all_eq_true.mp fm_facts a (List.mem_range.mpr hl)
  rw [Bool.and_eq_true] at h1
  have h2 := h1.1
  rw [if_pos (by omega)] at h2
  rw [of_decide_eq_true h2, h]
theorem fm_objrf {a t f : Nat} (h : fm_tg a = t) (ht : t = 2 ∨ t = 4 ∨ t = 6) (hf : f < fm_on t) (hk : fm_kd t f = 2) : fm_rf a f = a + fm_of t f := by
  have hl := fm_lt (a := a) (by omega)
  have h1 := List.all_eq_true.mp fm_facts a (List.mem_range.mpr hl)
  rw [Bool.and_eq_true] at h1
  have h2 := h1.2
  rw [if_pos (by omega)] at h2
  have h3 := List.all_eq_true.mp h2 f (List.mem_range.mpr (by rw [fm_objln h (by omega)]; exact hf))
  rw [h, if_pos hk] at h3
  exact of_decide_eq_true h3
/-- what lies behind a town, days, notes -/
theorem fm_facts2 : (List.range fm_n).all (fun a => (if fm_tg a = 2 then decide (fm_tg (a + 1) = 100 ∧ fm_ln (a + 1) = 8 ∧ fm_tg (a + 2) = 100 ∧ fm_ln (a + 2) = 8 ∧ fm_tg (a + 3) = 100 ∧ fm_ln (a + 3) = 8) else true)
    && (if fm_tg a = 4 then decide (fm_tg (a + 1) = 100 ∧ fm_ln (a + 1) = 6 ∧ fm_tg (a + 2) = 100 ∧ fm_ln (a + 2) = 6 ∧ fm_tg (a + 3) = 100 ∧ fm_ln (a + 3) = 6 ∧ fm_tg (a + 4) = 100 ∧ fm_ln (a + 4) = 6 ∧ fm_tg (a + 5) = 100 ∧ fm_ln (a + 5) = 6) else true)
    && (if fm_tg a = 6 then decide ((fm_tg (a + 1) = 100 ∧ fm_ln (a + 1) = 8 ∧ fm_tg (a + 2) = 100 ∧ fm_ln (a + 2) = 8 ∧ fm_tg (a + 3) = 100 ∧ fm_ln (a + 3) = 8 ∧ fm_tg (a + 4) = 100 ∧ fm_ln (a + 4) = 8 ∧ fm_tg (a + 5) = 100 ∧ fm_ln (a + 5) = 4 ∧ fm_tg (a + 6) = 100 ∧ fm_ln (a + 6) = 4 ∧ fm_tg (a + 7) = 100 ∧ fm_ln (a + 7) = 6 ∧ fm_tg (a + 8) = 100 ∧ fm_ln (a + 8) = 6 ∧ fm_tg (a + 9) = 100 ∧ fm_ln (a + 9) = 6) ∧ fm_tg (a + 10) = 4 ∧ fm_tg (a + 16) = 2 ∧ fm_tg (a + 20) = 103 ∧ fm_ln (a + 20) = 8 ∧ (a = 1 ∨ a = 68 ∨ a = 124 ∨ a = 177)) else true)) = true := by decide +kernel
theorem fm_days {a : Nat} (h : fm_tg a = 2) : fm_tg (a + 1) = 100 ∧ fm_ln (a + 1) = 8 ∧ fm_tg (a + 2) = 100 ∧ fm_ln (a + 2) = 8 ∧ fm_tg (a + 3) = 100 ∧ fm_ln (a + 3) = 8 := by
  have h1 := List.all_eq_true.mp fm_facts2 a (List.mem_range.mpr (fm_lt (by omega)))
  simp only [Bool.and_eq_true] at h1
  have h2 := h1.1.1
  rw [if_pos h] at h2
  exact of_decide_eq_true h2
theorem fm_notes {a : Nat} (h : fm_tg a = 4) : fm_tg (a + 1) = 100 ∧ fm_ln (a + 1) = 6 ∧ fm_tg (a + 2) = 100 ∧ fm_ln (a + 2) = 6 ∧ fm_tg (a + 3) = 100 ∧ fm_ln (a + 3) = 6 ∧ fm_tg (a + 4) = 100 ∧ fm_ln (a + 4) = 6 ∧ fm_tg (a + 5) = 100 ∧ fm_ln (a + 5) = 6 := by
  have h1 := List.all_eq_true.mp fm_facts2 a (List.mem_range.mpr (fm_lt (by omega)))
  simp only [Bool.and_eq_true] at h1
  have h2 := h1.1.2
  rw [if_pos h] at h2
  exact of_decide_eq_true h2
theorem fm_town {a : Nat} (h : fm_tg a = 6) : (fm_tg (a + 1) = 100 ∧ fm_ln (a + 1) = 8 ∧ fm_tg (a + 2) = 100 ∧ fm_ln (a + 2) = 8 ∧ fm_tg (a + 3) = 100 ∧ fm_ln (a + 3) = 8 ∧ fm_tg (a + 4) = 100 ∧ fm_ln (a + 4) = 8 ∧ fm_tg (a + 5) = 100 ∧ fm_ln (a + 5) = 4 ∧ fm_tg (a + 6) = 100 ∧ fm_ln (a + 6) = 4 ∧ fm_tg (a + 7) = 100 ∧ fm_ln (a + 7) = 6 ∧ fm_tg (a + 8) = 100 ∧ fm_ln (a + 8) = 6 ∧ fm_tg (a + 9) = 100 ∧ fm_ln (a + 9) = 6) ∧ fm_tg (a + 10) = 4 ∧ fm_tg (a + 16) = 2 ∧ fm_tg (a + 20) = 103 ∧ fm_ln (a + 20) = 8 ∧ (a = 1 ∨ a = 68 ∨ a = 124 ∨ a = 177) := by
  have h1 := List.all_eq_true.mp fm_facts2 a (List.mem_range.mpr (fm_lt (by omega)))
  simp only [Bool.and_eq_true] at h1
  have h2 := h1.2
  rw [if_pos h] at h2
  exact of_decide_eq_true h2
section FE
variable {d k pc idx t f fk fin wp : Nat} {L : List (Option Value)} {st : List Value} {S : fm_S} {r : Option Value × am_W}
theorem fe_getI {a : Nat} (hd : decode (am_code k) pc = .ok (.getfield idx, 3)) (hq : am_lk am_fs (am_kl k) idx = some (t, f, fk, fin, wp)) (ht : fm_tg a = t) (h9 : (t < 9 ∧ f < fm_on t) ∧ fm_kd t f = 0) (nx : am_Ev d k (pc + 3) L (.int (S.1 a f) :: st) (fm_mk S) r) : am_Ev d k pc L (.ref a :: st) (fm_mk S) r := by
  refine ev_one hd (?_ : _ = some (pc + 3, L, .int (S.1 a f) :: st, fm_mk S)) nx
  simp [am_one, am_br, am_ln, am_stk, am_lo, am_hp, hq, fm_at S ht (by omega), fm_el S (show f < fm_ln a by rw [fm_objln ht h9.1.1]; exact h9.1.2), fm_sl, ht, h9.2]
theorem fe_getL {a : Nat} (hd : decode (am_code k) pc = .ok (.getfield idx, 3)) (hq : am_lk am_fs (am_kl k) idx = some (t, f, fk, fin, wp)) (ht : fm_tg a = t) (h9 : (t < 9 ∧ f < fm_on t) ∧ fm_kd t f = 1) (nx : am_Ev d k (pc + 3) L (.long (S.2.1 a f) :: st) (fm_mk S) r) : am_Ev d k pc L (.ref a :: st) (fm_mk S) r := by
  refine ev_one hd (?_ : _ = some (pc + 3, L, .long (S.2.1 a f) :: st, fm_mk S)) nx
  simp [am_one, am_br, am_ln, am_stk, am_lo, am_hp, hq, fm_at S ht (by omega), fm_el S (show f < fm_ln a by rw [fm_objln ht h9.1.1]; exact h9.1.2), fm_sl, ht, h9.2]
theorem fe_getR {a x : Nat} (hd : decode (am_code k) pc = .ok (.getfield idx, 3)) (hq : am_lk am_fs (am_kl k) idx = some (t, f, fk, fin, wp)) (ht : fm_tg a = t) (h9 : (t < 9 ∧ f < fm_on t) ∧ fm_kd t f = 2) (hx : fm_rf a f = x) (nx : am_Ev d k (pc + 3) L (.ref x :: st) (fm_mk S) r) : am_Ev d k pc L (.ref a :: st) (fm_mk S) r := by
  refine ev_one hd (?_ : _ = some (pc + 3, L, .ref x :: st, fm_mk S)) nx
  simp [am_one, am_br, am_ln, am_stk, am_lo, am_hp, hq, fm_at S ht (by omega), fm_el S (show f < fm_ln a by rw [fm_objln ht h9.1.1]; exact h9.1.2), fm_sl, ht, h9.2, hx]
theorem fe_putI {a : Nat} {x : Int32} (hd : decode (am_code k) pc = .ok (.putfield idx, 3)) (hq : am_lk am_fs (am_kl k) idx = some (t, f, 0, 0, wp)) (ht : fm_tg a = t) (h9 : (t < 9 ∧ f < fm_on t) ∧ fm_kd t f = 0) (nx : am_Ev d k (pc + 3) L st (fm_mk (fm_wI S a f x)) r) : am_Ev d k pc L (.int x :: .ref a :: st) (fm_mk S) r := by
  subst ht
  have hi : f < fm_ln a := by rw [fm_objln rfl h9.1.1]; exact h9.1.2
  refine ev_one hd (?_ : _ = some (pc + 3, L, st, fm_mk (fm_wI S a f x))) nx
  rw [← fm_setI S x (by omega) h9.2 hi]
  simp [am_one, am_br, am_ln, am_stk, am_lo, am_hp, hq, fm_at S rfl (show fm_tg a < 200 by omega), am_vk, fm_vs_len, hi]
theorem fe_putL {a : Nat} {x : Int64} (hd : decode (am_code k) pc = .ok (.putfield idx, 3)) (hq : am_lk am_fs (am_kl k) idx = some (t, f, 1, 0, wp)) (ht : fm_tg a = t) (h9 : (t < 9 ∧ f < fm_on t) ∧ fm_kd t f = 1) (nx : am_Ev d k (pc + 3) L st (fm_mk (fm_wL S a f x)) r) : am_Ev d k pc L (.long x :: .ref a :: st) (fm_mk S) r := by
  subst ht
  have hi : f < fm_ln a := by rw [fm_objln rfl h9.1.1]; exact h9.1.2
  refine ev_one hd (?_ : _ = some (pc + 3, L, st, fm_mk (fm_wL S a f x))) nx
  rw [← fm_setL S x (by omega) h9.2 hi]
  simp [am_one, am_br, am_ln, am_stk, am_lo, am_hp, hq, fm_at S rfl (show fm_tg a < 200 by omega), am_vk, fm_vs_len, hi]
theorem fe_iald {a : Nat} {j : Int32} (hd : decode (am_code k) pc = .ok (.iaload, 1)) (ht : fm_tg a = 100) (hi : vp_in j (fm_ln a)) (nx : am_Ev d k (pc + 1) L (.int (S.1 a j.toNatClampNeg) :: st) (fm_mk S) r) : am_Ev d k pc L (.int j :: .ref a :: st) (fm_mk S) r := by
  refine ev_one hd (?_ : _ = some (pc + 1, L, .int (S.1 a j.toNatClampNeg) :: st, fm_mk S)) nx
  simp [am_one, am_br, am_ln, am_stk, am_lo, am_hp, fm_at S ht (by decide), fm_ix S hi, fm_sl, ht, fm_kd, fm_kl]
theorem fe_lald {a : Nat} {j : Int32} (hd : decode (am_code k) pc = .ok (.laload, 1)) (ht : fm_tg a = 101) (hi : vp_in j (fm_ln a)) (nx : am_Ev d k (pc + 1) L (.long (S.2.1 a j.toNatClampNeg) :: st) (fm_mk S) r) : am_Ev d k pc L (.int j :: .ref a :: st) (fm_mk S) r := by
  refine ev_one hd (?_ : _ = some (pc + 1, L, .long (S.2.1 a j.toNatClampNeg) :: st, fm_mk S)) nx
  simp [am_one, am_br, am_ln, am_stk, am_lo, am_hp, fm_at S ht (by decide), fm_ix S hi, fm_sl, ht, fm_kd, fm_kl]
theorem fe_bald {a : Nat} {j : Int32} (hd : decode (am_code k) pc = .ok (.baload, 1)) (ht : fm_tg a = 102) (hi : vp_in j (fm_ln a)) (nx : am_Ev d k (pc + 1) L (.int (S.1 a j.toNatClampNeg) :: st) (fm_mk S) r) : am_Ev d k pc L (.int j :: .ref a :: st) (fm_mk S) r := by
  refine ev_one hd (?_ : _ = some (pc + 1, L, .int (S.1 a j.toNatClampNeg) :: st, fm_mk S)) nx
  simp [am_one, am_br, am_ln, am_stk, am_lo, am_hp, fm_at S ht (by decide), fm_ix S hi, fm_sl, ht, fm_kd, fm_kl]
theorem fe_aald3 {a : Nat} {j : Int32} (hd : decode (am_code k) pc = .ok (.aaload, 1)) (ht : fm_tg a = 103) (hi : vp_in j (fm_ln a)) (nx : am_Ev d k (pc + 1) L (.ref (S.2.2 a j.toNatClampNeg) :: st) (fm_mk S) r) : am_Ev d k pc L (.int j :: .ref a :: st) (fm_mk S) r := by
  refine ev_one hd (?_ : _ = some (pc + 1, L, .ref (S.2.2 a j.toNatClampNeg) :: st, fm_mk S)) nx
  simp [am_one, am_br, am_ln, am_stk, am_lo, am_hp, fm_get S (show fm_tg a < 200 by omega), fm_ix S hi, fm_sl, ht, fm_kd]
theorem fe_aald4 {a : Nat} {j : Int32} (hd : decode (am_code k) pc = .ok (.aaload, 1)) (ht : fm_tg a = 104) (hi : vp_in j (fm_ln a)) (nx : am_Ev d k (pc + 1) L (.ref (fm_rf a j.toNatClampNeg) :: st) (fm_mk S) r) : am_Ev d k pc L (.int j :: .ref a :: st) (fm_mk S) r := by
  refine ev_one hd (?_ : _ = some (pc + 1, L, .ref (fm_rf a j.toNatClampNeg) :: st, fm_mk S)) nx
  simp [am_one, am_br, am_ln, am_stk, am_lo, am_hp, fm_get S (show fm_tg a < 200 by omega), fm_ix S hi, fm_sl, ht, fm_kd]
theorem fe_iast {a : Nat} {j x : Int32} (hd : decode (am_code k) pc = .ok (.iastore, 1)) (ht : fm_tg a = 100) (hi : vp_in j (fm_ln a)) (nx : am_Ev d k (pc + 1) L st (fm_mk (fm_wI S a j.toNatClampNeg x)) r) : am_Ev d k pc L (.int x :: .int j :: .ref a :: st) (fm_mk S) r := by
  have h1 : j.toNatClampNeg < fm_ln a := Nat.not_le.mp fun q => hi (Or.inr q)
  refine ev_one hd (?_ : _ = some (pc + 1, L, st, fm_mk (fm_wI S a j.toNatClampNeg x))) nx
  rw [← fm_setI S x (by omega) (by rw [ht]; rfl) h1]
  simp [am_one, am_br, am_ln, am_stk, am_lo, am_hp, fm_at S ht (by decide), fm_ix S hi, ht]
theorem fe_last {a : Nat} {j : Int32} {x : Int64} (hd : decode (am_code k) pc = .ok (.lastore, 1)) (ht : fm_tg a = 101) (hi : vp_in j (fm_ln a)) (nx : am_Ev d k (pc + 1) L st (fm_mk (fm_wL S a j.toNatClampNeg x)) r) : am_Ev d k pc L (.long x :: .int j :: .ref a :: st) (fm_mk S) r := by
  have h1 : j.toNatClampNeg < fm_ln a := Nat.not_le.mp fun q => hi (Or.inr q)
  refine ev_one hd (?_ : _ = some (pc + 1, L, st, fm_mk (fm_wL S a j.toNatClampNeg x))) nx
  rw [← fm_setL S x (by omega) (by rw [ht]; rfl) h1]
  simp [am_one, am_br, am_ln, am_stk, am_lo, am_hp, fm_at S ht (by decide), fm_ix S hi, ht]
theorem fe_bast {a : Nat} {j x : Int32} (hd : decode (am_code k) pc = .ok (.bastore, 1)) (ht : fm_tg a = 102) (hi : vp_in j (fm_ln a)) (hx : x = 1) (nx : am_Ev d k (pc + 1) L st (fm_mk (fm_wI S a j.toNatClampNeg 1)) r) : am_Ev d k pc L (.int x :: .int j :: .ref a :: st) (fm_mk S) r := by
  have h1 : j.toNatClampNeg < fm_ln a := Nat.not_le.mp fun q => hi (Or.inr q)
  refine ev_one hd (?_ : _ = some (pc + 1, L, st, fm_mk (fm_wI S a j.toNatClampNeg 1))) nx
  rw [← fm_setI S 1 (by omega) (by rw [ht]; rfl) h1]
  simp [am_one, am_br, am_ln, am_stk, am_lo, am_hp, fm_at S ht (by decide), fm_ix S hi, ht, hx]
theorem fe_aast3 {a v : Nat} {j : Int32} (hd : decode (am_code k) pc = .ok (.aastore, 1)) (ht : fm_tg a = 103) (hi : vp_in j (fm_ln a)) (hv : fm_tg v = 2) (nx : am_Ev d k (pc + 1) L st (fm_mk (fm_wP S a j.toNatClampNeg v)) r) : am_Ev d k pc L (.ref v :: .int j :: .ref a :: st) (fm_mk S) r := by
  have h1 : j.toNatClampNeg < fm_ln a := Nat.not_le.mp fun q => hi (Or.inr q)
  refine ev_one hd (?_ : _ = some (pc + 1, L, st, fm_mk (fm_wP S a j.toNatClampNeg v))) nx
  rw [← fm_setP S v (by omega) (by rw [ht]; rfl) h1]
  simp [am_one, am_br, am_ln, am_stk, am_lo, am_hp, fm_get S (show fm_tg a < 200 by omega), fm_get S (show fm_tg v < 200 by omega), fm_ix S hi, ht, hv]
theorem fe_alen {a : Nat} (hd : decode (am_code k) pc = .ok (.arraylength, 1)) (ht : 100 ≤ fm_tg a ∧ fm_tg a ≤ 104) (nx : am_Ev d k (pc + 1) L (.int (Int32.ofNat (fm_ln a)) :: st) (fm_mk S) r) : am_Ev d k pc L (.ref a :: st) (fm_mk S) r := by
  refine ev_one hd (?_ : _ = some (pc + 1, L, .int (Int32.ofNat (fm_ln a)) :: st, fm_mk S)) nx
  simp [am_one, am_br, am_ln, am_stk, am_lo, am_hp, fm_get S (show fm_tg a < 200 by omega), ht, fm_vs_len]
theorem fe_copy {a b : Nat} {sp dp n : Int32} (hd : decode (am_code k) pc = .ok (.invokestatic idx, 3)) (hq : am_lk am_ac (am_kl k) idx = some wp) (hb : fm_tg b = 100) (ha : fm_tg a = 100) (h : (¬ sp < 0 ∧ ¬ dp < 0 ∧ ¬ n < 0) ∧ sp.toNatClampNeg + n.toNatClampNeg ≤ fm_ln b ∧ dp.toNatClampNeg + n.toNatClampNeg ≤ fm_ln a) (hr : st.length ≤ 2)
    (nx : am_Ev (d + 1) k (pc + 3) L st (fm_mk (fm_cp S b sp.toNatClampNeg a dp.toNatClampNeg n.toNatClampNeg)) r) : am_Ev (d + 1) k pc L (.int n :: .int dp :: .ref a :: .int sp :: .ref b :: st) (fm_mk S) r := by
  obtain ⟨⟨h1, h2, h3⟩, h4, h5⟩ := h
  refine ev_one hd (?_ : _ = some (pc + 3, L, st, fm_mk (fm_cp S b sp.toNatClampNeg a dp.toNatClampNeg n.toNatClampNeg))) nx
  rw [← fm_setC S hb ha h4 h5]
  simp only [am_one, am_br, am_ln, am_stk, am_lo, am_hp, hq, fm_at S hb (by decide), fm_at S ha (by decide), fm_vs_len]
  have hc : ¬ sp < 0 ∧ ¬ dp < 0 ∧ ¬ n < 0 ∧ sp.toNatClampNeg + n.toNatClampNeg ≤ fm_ln b ∧ dp.toNatClampNeg + n.toNatClampNeg ≤ fm_ln a ∧ 0 < d + 1 ∧ st.length ≤ 2 := ⟨h1, h2, h3, h4, h5, by omega, hr⟩
  rw [if_pos trivial, if_pos hc]
theorem fe_ifc {i : Instr} {C : Prop} [Decidable C] {st0 : List Value} {w : am_W} {tgt : Nat} (hd : decode (am_code k) pc = .ok (i, 3)) (hz : am_zb i 3 = true) {off : Int} (hg : am_br pc i st0 = am_go pc off C st) (ht : am_tg pc off = some tgt) (kt : C → am_Ev d k tgt L st w r) (kf : ¬ C → am_Ev d k (pc + 3) L st w r) : am_Ev d k pc L st0 w r := by
  by_cases hc : C
  · refine ev_one hd (?_ : _ = some (tgt, L, st, w)) (kt hc)
    unfold am_one
    rw [hg]
    unfold am_go
    rw [ht]
    simp only [hc, if_true, hz]
  · refine ev_one hd (?_ : _ = some (pc + 3, L, st, w)) (kf hc)
    unfold am_one
    rw [hg]
    unfold am_go
    rw [ht]
    simp only [hc, if_false, hz, if_true]
theorem fe_nostat {c : Nat} {ini : Bool} {d : Nat} {w : am_W} (h : am_lk am_ac c idx = none) : am_hp c ini d (.invokestatic idx) st w = none := by
  simp only [am_hp, h]
  split <;> rfl
theorem fe_callS {as rs : List Value} {k' n kd : Nat} {q : Nat × Nat} {w w1 : am_W} {v : Option Value} (hd : decode (am_code k) pc = .ok (.invokestatic idx, 3)) (hac : am_lk am_ac (am_kl k) idx = none) (hq : am_lk am_is (am_kl k) idx = some (kd, k', n, wp, q)) (hk : kd = 0 ∨ kd = 4) (hn : as.length = n) (hr : rs.length ≤ 4) (hst : st = as.reverse ++ rs)
    (hc : am_Sp d k' as w v w1) (nx : am_Ev (d + 1) k (pc + 3) L (v.toList ++ rs) w1 r) : am_Ev (d + 1) k pc L st w r := by
  subst hn hst
  refine ev_call hd ?_ rfl ?_ hc nx
  · unfold am_one
    rw [show am_br pc (.invokestatic idx) (as.reverse ++ rs) = none from rfl, show am_stk (.invokestatic idx) (as.reverse ++ rs) = none from rfl, show am_lo (.invokestatic idx) L (as.reverse ++ rs) = none from rfl]
    simp only [am_ln, if_true, fe_nostat hac]
  · simp only [am_ca, hq]
    have e1 : (as.reverse ++ rs).drop as.length = rs := by rw [← List.length_reverse (as := as), List.drop_left]
    have e2 : (as.reverse ++ rs).take as.length = as.reverse := by rw [← List.length_reverse (as := as), List.take_left]
    rw [e1, e2, if_pos ⟨hk, by simp, hr⟩, List.reverse_reverse]
theorem fe_callV {as rs : List Value} {a k' n : Nat} {q : Nat × Nat} {w1 : am_W} {v : Option Value} (hd : decode (am_code k) pc = .ok (.invokevirtual idx, 3)) (hq : am_lk am_is (am_kl k) idx = some (1, k', n, wp, q)) (ht : fm_tg a = t) (h9 : t < 9 ∧ (am_k t).1 = am_kl k') (hn : as.length = n) (hr : rs.length ≤ 4) (hst : st = as.reverse ++ .ref a :: rs)
    (hc : am_Sp d k' (.ref a :: as) (fm_mk S) v w1) (nx : am_Ev (d + 1) k (pc + 3) L (v.toList ++ rs) w1 r) : am_Ev (d + 1) k pc L st (fm_mk S) r := by
  subst hn hst
  refine ev_call hd rfl rfl ?_ hc nx
  simp only [am_ca, hq]
  have e1 : (as.reverse ++ Value.ref a :: rs).drop as.length = .ref a :: rs := by rw [← List.length_reverse (as := as), List.drop_left]
  have e2 : (as.reverse ++ Value.ref a :: rs).take as.length = as.reverse := by rw [← List.length_reverse (as := as), List.take_left]
  have e3 : (as.reverse ++ Value.ref a :: rs).drop (as.length + 1) = rs := by rw [← List.drop_drop, e1]; rfl
  rw [e1, e2, e3, if_pos ⟨trivial, by simp, hr⟩]
  simp only [fm_get S (show fm_tg a < 200 by omega), List.reverse_reverse]
  rw [if_pos (by rw [ht]; exact h9)]
theorem fe_retI {x : Int32} {w : am_W} (hd : decode (am_code k) pc = .ok (.ireturn, 1)) (hr : am_rt k = some .int) : am_Ev d k pc L [.int x] w (some (.int x), w) :=
  ev_ret hd rfl (by simp [am_re, hr])
theorem fe_retZ {x : Int32} {w : am_W} (hd : decode (am_code k) pc = .ok (.ireturn, 1)) (hr : am_rt k = some .boolean) (hx : x = 0 ∨ x = 1) : am_Ev d k pc L [.int x] w (some (.int x), w) :=
  ev_ret hd rfl (by simp only [am_re, hr]; rw [if_pos (Or.inr ⟨trivial, hx⟩)])
theorem fe_retL {x : Int64} {w : am_W} (hd : decode (am_code k) pc = .ok (.lreturn, 1)) (hr : am_rt k = some .long) : am_Ev d k pc L [.long x] w (some (.long x), w) :=
  ev_ret hd rfl (by simp [am_re, hr])
theorem fe_retV {w : am_W} (hd : decode (am_code k) pc = .ok (.return_, 1)) (hr : am_rt k = none) : am_Ev d k pc L [] w (none, w) :=
  ev_ret hd rfl (by simp [am_re, hr])
theorem fe_idiv {x y : Int32} {w : am_W} (hd : decode (am_code k) pc = .ok (.idiv, 1)) (hy : ¬ y = 0) (nx : am_Ev d k (pc + 1) L (.int (x / y) :: st) w r) : am_Ev d k pc L (.int y :: .int x :: st) w r :=
  ev_one hd (by simp [am_one, am_br, am_ln, am_stk, am_d2, hy]) nx
theorem fe_irem {x y : Int32} {w : am_W} (hd : decode (am_code k) pc = .ok (.irem, 1)) (hy : ¬ y = 0) (nx : am_Ev d k (pc + 1) L (.int (x - x / y * y) :: st) w r) : am_Ev d k pc L (.int y :: .int x :: st) w r :=
  ev_one hd (by simp [am_one, am_br, am_ln, am_stk, am_d2, hy]) nx
theorem fe_ldiv {x y : Int64} {w : am_W} (hd : decode (am_code k) pc = .ok (.ldiv, 1)) (hy : ¬ y = 0) (nx : am_Ev d k (pc + 1) L (.long (x / y) :: st) w r) : am_Ev d k pc L (.long y :: .long x :: st) w r :=
  ev_one hd (by simp [am_one, am_br, am_ln, am_stk, am_e2, hy]) nx
theorem fe_lrem {x y : Int64} {w : am_W} (hd : decode (am_code k) pc = .ok (.lrem, 1)) (hy : ¬ y = 0) (nx : am_Ev d k (pc + 1) L (.long (x - x / y * y) :: st) w r) : am_Ev d k pc L (.long y :: .long x :: st) w r :=
  ev_one hd (by simp [am_one, am_br, am_ln, am_stk, am_e2, hy]) nx
end FE
