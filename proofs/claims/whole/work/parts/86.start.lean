/-! the law's start -/
def sk_x (i : Nat) : Nat := if i = 0 then 117 else 121 + 2 * i
def sk_t (i : Nat) : Term := .string "KitchenSiege$Reader" (sk_x i)
abbrev sk_f : List Cond := flatC (Jvm.Cond.and given_1 narrow_1)
theorem sk_1 : (List.range 6).all (fun i => decide (Cond.exactly (sk_t i) "java/lang/String" ∈ sk_f)) = true := by decide +kernel
theorem sk_2 : (List.range 6).all (fun i => decide (Cond.eq (.field (sk_t i) "java/lang/String" "coder" "B") (.int 0) ∈ sk_f)) = true := by decide +kernel
theorem sk_3 : (List.range 6).all (fun i => decide (Cond.arrayOf (.field (sk_t i) "java/lang/String" "value" "[B") .byte ∈ sk_f)) = true := by decide +kernel
theorem sk_4 : (List.range 6).all (fun i => decide (Cond.eq (.length (.field (sk_t i) "java/lang/String" "value" "[B")) (.int (Int32.ofNat ((am_tx.map List.length).getD i 0))) ∈ sk_f)) = true := by decide +kernel
theorem sk_5 : (List.range 6).all (fun i => (List.range ((am_tx.map List.length).getD i 0)).all (fun j => decide (Cond.eq (.elem (.field (sk_t i) "java/lang/String" "value" "[B") (.int (Int32.ofNat j))) (.int ((am_tx.getD i []).getD j 0)) ∈ sk_f))) = true := by decide +kernel
theorem sk_6 : (List.range 6).all (fun i => (List.range 6).all (fun j => decide (i = j) || (decide (Cond.not (Cond.eq (sk_t i) (sk_t j)) ∈ sk_f) || decide (Cond.not (Cond.eq (sk_t j) (sk_t i)) ∈ sk_f)))) = true := by decide +kernel
theorem sk_7 : Cond.eq (.static RJ0 "COMPACT_STRINGS" "Z") (.int 1) ∈ sk_f := by decide +kernel
theorem sk_8 : Cond.isRef (.static RJ3 "SIOOBE_FORMATTER" "Ljava/util/function/BiFunction;") ∈ sk_f := by decide +kernel
theorem sk_9 : (am_tx.map List.length).all (fun n => decide (n < 2 ^ 31)) = true := by decide +kernel
theorem sk_ct : am_ct.all (fun q => decide (am_R q.1 = "KitchenSiege$Reader") && (decide (q.2.2.1 < 6) && decide (q.2.1 = sk_x q.2.2.1))) = true := by decide +kernel
section START
variable {s : State} {b : Nat}
theorem start_J (hts : ∀ w ∈ lw_tbl, w.before #[Value.ref b] s = true) (hgv : (Jvm.Cond.and given_1 narrow_1).before #[Value.ref b] s = true) : ∃ adK adV : Nat → Nat, JX adK adV s.heap.size s ∧ ∀ q ∈ am_ct, vk_R (am_R q.1) q.2.1 q.2.2.2.1 (adK q.2.2.1) s := by
  have hs := flat_of_before _ hgv
  have hA : ∀ a : Nat, a < s.heap.size → ¬ (fun q : Nat => s.heap.size ≤ q) a := fun a h => Nat.not_le.mpr h
  have al : ∀ {f : Nat → Bool}, (List.range 6).all f = true → ∀ i, i < 6 → f i = true := fun h i hi => List.all_eq_true.mp h i (List.mem_range.mpr hi)
  obtain ⟨adK, adV, h1, h2⟩ := vk_Sof (args := #[Value.ref b]) (s := s) (N := 6) (tm := sk_t) (len := am_tx.map List.length) (byt := am_tx) (A := fun q => s.heap.size ≤ q)
    (fun i hi => by
      have e := List.all_eq_true.mp sk_9 ((am_tx.map List.length).getD i 0) (by
        rw [List.getD_eq_getElem?_getD]
        have hl : i < (am_tx.map List.length).length := hi
        rw [List.getElem?_eq_getElem hl]
        exact List.getElem_mem hl)
      exact of_decide_eq_true e)
    (fun i hi => hs _ (of_decide_eq_true (al sk_1 i hi)))
    (fun i hi => hs _ (of_decide_eq_true (al sk_2 i hi)))
    (fun i hi => hs _ (of_decide_eq_true (al sk_3 i hi)))
    (fun i hi => hs _ (of_decide_eq_true (al sk_4 i hi)))
    (fun i hi j hj => hs _ (of_decide_eq_true (List.all_eq_true.mp (al sk_5 i hi) j (List.mem_range.mpr hj))))
    (fun i j hi hj hne => by
      have e := List.all_eq_true.mp (al sk_6 i hi) j (List.mem_range.mpr hj)
      rw [Bool.or_eq_true, Bool.or_eq_true, decide_eq_true_eq, decide_eq_true_eq, decide_eq_true_eq] at e
      rcases e with e | e | e
      · exact absurd e hne
      · exact Or.inl (hs _ e)
      · exact Or.inr (hs _ e)) hA
  refine ⟨adK, adV, ⟨h1, va_Zof (hts _ (List.mem_of_getElem? (i := 480) (by decide +kernel))) (hts _ (List.mem_of_getElem? (i := 67) (by decide +kernel))) (va_eqi (hs _ sk_7)) hA, va_Zqof (hts _ (List.mem_of_getElem? (i := 496) (by decide +kernel))) (hts _ (List.mem_of_getElem? (i := 69) (by decide +kernel))) (hs _ sk_8) hA⟩, fun q hq => ?_⟩
  have e := List.all_eq_true.mp sk_ct q hq
  rw [Bool.and_eq_true, Bool.and_eq_true, decide_eq_true_eq, decide_eq_true_eq, decide_eq_true_eq] at e
  obtain ⟨e1, e2, e3⟩ := e
  have ew := of_decide_eq_true (List.all_eq_true.mp am_okct_all q hq)
  have h3 := hts _ (List.mem_of_getElem? ew)
  have h4 := h2 q.2.2.1 e2
  refine vk_R.of h3 ?_
  rw [e1, e3]
  exact h4
theorem start_K (hts : ∀ w ∈ lw_tbl, w.before #[Value.ref b] s = true) {adK : Nat → Nat} (hct : ∀ q ∈ am_ct, vk_R (am_R q.1) q.2.1 q.2.2.2.1 (adK q.2.2.1) s) : ∃ (D : va_G) (dA : Nat → ClassId), am_Kx D dA adK s := by
  have htg : ∀ w ∈ am_gw, w.before #[Value.ref b] s = true := fun w hw => hts w (List.mem_filter.mp hw).1
  have hk : ∀ t, ∃ q : ClassId × (Nat → Nat), t < 9 → u_Kn s (am_k t).2.1 (am_k t).2.2.1 (am_k t).2.2.2.1 q.1 q.2 := by
    intro t
    by_cases ht : t < 9
    · obtain ⟨cC, iS, h⟩ := u_known htg (am_ks_in ht) (htg _ (am_gw_in (am_ks_of ht).2.2.1 rfl))
      exact ⟨(cC, iS), fun _ => h⟩
    · exact ⟨(0, fun _ => 0), fun h => absurd h ht⟩
  obtain ⟨f, hf⟩ := Classical.axiomOfChoice hk
  obtain ⟨-, -, -, -, -, o1, o2, o3, o4, o5⟩ := am_okp
  obtain ⟨c0, k0, m0, n0, h0, d0⟩ := Cond.arrayClass_spec (htg _ (am_gw_in o1 rfl))
  obtain ⟨c1, k1, m1, n1, h1, d1⟩ := Cond.arrayClass_spec (htg _ (am_gw_in o2 rfl))
  obtain ⟨c2, k2, m2, n2, h2, d2⟩ := Cond.arrayClass_spec (htg _ (am_gw_in o3 rfl))
  have a4 := hts _ (List.mem_of_getElem? o4)
  have a5 := hts _ (List.mem_of_getElem? o5)
  obtain ⟨m3, c3, k3, f3, g3, h3, d3, n3⟩ := Cond.arrayOver_spec a4
  obtain ⟨m4, c4, k4, f4, g4, h4, d4, n4⟩ := Cond.arrayOver_spec a5
  refine ⟨(fun t => (f t).1, fun t => (f t).2), fun k => if k = 0 then c0 else if k = 1 then c1 else if k = 2 then c2 else if k = 3 then c3 else c4, ⟨fun t q hq => ?_, fun k q hq => ?_⟩, fun q hq h3' => ?_, hct, va_AO.of a4, va_AO.of a5⟩
  · have ht : t < 9 := (List.getElem?_eq_some_iff.mp hq).1
    rw [am_ks_cl t ht] at hq
    cases hq
    exact hf t ht
  · match k, hq with
    | 0, hq => cases hq; exact ⟨fun n z => ⟨fun k h => (by cases h), k0, h0, m0, d0⟩, n0⟩
    | 1, hq => cases hq; exact ⟨fun n z => ⟨fun k h => (by cases h), k1, h1, m1, d1⟩, n1⟩
    | 2, hq => cases hq; exact ⟨fun n z => ⟨fun k h => (by cases h), k2, h2, m2, d2⟩, n2⟩
    | 3, hq => cases hq; exact ⟨fun n z => ⟨fun k h => (by cases h), k3, h3, m3, d3⟩, k3, m3, h3, d3, f3, n3⟩
    | 4, hq => cases hq; exact ⟨fun n z => ⟨fun k h => (by cases h), k4, h4, m4, d4⟩, k4, m4, h4, d4, f4, n4⟩
    | k + 5, hq => simp [am_tys] at hq
  · have e := List.all_eq_true.mp am_okI_all q hq
    simp only [am_okI, Bool.and_eq_true, decide_eq_true_eq] at e
    have e1 := e.1.1.1.1.1.1
    rw [if_neg (by omega)] at e1
    exact va_Nw.of rfl (hts _ (List.mem_of_getElem? (of_decide_eq_true e1)))
end START
/-- YOUR PART: from the entry, for every script of at most 3072 ints, the law comes to its end with true -/
theorem whole_start {p : Program} {e : Env} {s : State} {m : MethodId} {below : List Frame} {meth : Method} {c : Code} (l : Launch) (hflags : l.flags = flags0) {b L : Nat} {xs : Nat → Int32} (hL : L ≤ 3072) (C0 : lw_At p s m meth c b L xs) : W p l e room_1 s m #[Value.ref b] below meth c s.heap [] 0 0 (lw_Z below #[Value.ref b] s) (entryFrame m ([Value.ref b] : List Value).toArray 4) := by
  obtain ⟨hx, hb, hr, hml, hown, hts, hX, hbl, hlocks, hgv⟩ := C0
  obtain ⟨adK, adV, hJ, hct⟩ := start_J hts hgv
  obtain ⟨D, dA, hK⟩ := start_K hts hct
  have F : LF p s m c b L xs adK adV D dA := ⟨hx, hb, hml, hown, fun w hw => hts w (List.mem_filter.mp hw).1, hK, hJ, hX, hbl⟩
  have hw0 : LWd s D dA adK [] s.heap [] := ⟨fun k q h => by simp [am_rz] at h, rfl, va_S.rf⟩
  have hl := lv_entry ([.ref b]) (n := 4) (Nat.le_of_ble_eq_true rfl)
  rw [lg_entry_eq]
  generalize (lg_sl ([.ref b]) ++ List.replicate (4 - (lg_sl ([.ref b])).length) Slot.unset).toArray = ls at hl ⊢
  have hl : lv_has ls 4 [(0, .ref b)] := hl
  refine law_N (t := 7) F (by decide) (am_gw_in (p := 75) (by decide +kernel) rfl) hw0 dL_law_0 ⟨by decide, by decide +kernel⟩ fun H1 hw1 => ?_
  refine lv_dup hx hb dL_law_3 rfl ?_
  refine law_I (k := k_X_new) (a := 0) (mc := 230) (ms := 1797) (w' := (fm_mk fm_S1).take fm_nx) (rest := [.ref (s.heap.size + 0)]) F (am_gw_in (p := 77) (by decide +kernel) rfl) (am_gw_in (p := 78) (by decide +kernel) rfl) (by decide) (by decide +kernel) (by decide +kernel) (by decide +kernel) hl.1 hw1 fm_newX2 (by decide +kernel) (by decide +kernel) rfl (Nat.le_of_ble_eq_true rfl) dL_law_4 ⟨by decide +kernel, by decide +kernel⟩ fun H2 locs2 hw2 => ?_
  refine lv_astore_n (lv' := [(1, .ref s.heap.size), (0, .ref b)]) hx hb dL_law_7 rfl hl (by decide) rfl fun ls hl => ?_
  have hlen : ((fm_mk fm_S1).take fm_nx).length = 231 := by decide +kernel
  refine law_N (t := 8) F (by decide) (am_gw_in (p := 936) (by decide +kernel) rfl) hw2 dL_law_8 ⟨by decide +kernel, by decide +kernel⟩ fun H3 hw3 => ?_
  rw [hlen]
  refine lv_dup hx hb dL_law_11 rfl ?_
  refine law_I (k := k_M_new) (a := fm_nx) (mc := 12) (ms := 1762) (w' := fm_mk fm_Z) (rest := [.ref (s.heap.size + 231)]) F (am_gw_in (p := 938) (by decide +kernel) rfl) (am_gw_in (p := 939) (by decide +kernel) rfl) (by decide) (by decide +kernel) (by decide +kernel) (by decide +kernel) hl.1 hw3 fm_newM (by decide +kernel) (by decide +kernel) rfl (Nat.le_of_ble_eq_true rfl) dL_law_12 ⟨by decide +kernel, by decide +kernel⟩ fun H4 locs4 hw4 => ?_
  refine lv_astore_n (lv' := [(2, .ref (s.heap.size + 231)), (1, .ref s.heap.size), (0, .ref b)]) hx hb dL_law_15 rfl hl (by decide) rfl fun ls hl => ?_
  refine lv_iconst (v := 0) hx hb dL_law_16 (by decide) ?_
  refine lv_istore_n (lv' := [(3, .int 0), (2, .ref (s.heap.size + 231)), (1, .ref s.heap.size), (0, .ref b)]) hx hb dL_law_17 rfl hl (by decide) rfl fun ls hl => ?_
  refine W.widen (k := 244) (n := 5000) (by decide +kernel) (by decide +kernel) ?_
  exact law_loop hL F hr hlocks (L + 1) 0 fm_Z H4 locs4 ls (by omega) (by omega) Inv_0 hw4 (lv_sub hl [3, 2, 1, 0] rfl)
