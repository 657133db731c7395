/-! what works on the world is sound -/
def am_tys (dA : Nat → ClassId) : List (ClassId × FieldType) := [(dA 0, .int), (dA 1, .long), (dA 2, .boolean), (dA 3, .object RX2), (dA 4, .object RX7)]
def am_Kx (D : va_G) (dA : Nat → ClassId) (sa : Nat → Nat) (s : State) : Prop := va_K D vwCl (am_tys dA) s ∧ (∀ q ∈ am_is, 3 ≤ q.2.2.1 → va_Nw (.methodLinkNest (am_R q.1) q.2.1 (am_y q.2.2.2.1) RX8) s) ∧ (∀ q ∈ am_ct, vk_R (am_R q.1) q.2.1 q.2.2.2.1 (sa q.2.2.1) s) ∧ va_AO RX2 s ∧ va_AO RX7 s
theorem am_Kx.warm {D : va_G} {dA : Nat → ClassId} {sa : Nat → Nat} {s U : State} (hW : s.WarmedH U.vm) (h : am_Kx D dA sa s) : am_Kx D dA sa U :=
  ⟨va_K.moved hW.alike h.1, fun q hq hk => va_Nw.warmM hW (h.2.1 q hq hk), fun q hq => (h.2.2.1 q hq).warm hW, va_AO.moved hW.alike h.2.2.2.1, va_AO.moved hW.alike h.2.2.2.2⟩
theorem am_E_obj {dA : Nat → ClassId} {B : Nat} {sa : Nat → Nat} {t : Nat} {vs : List Value} (h : t < 9) : am_E dA B sa (t, vs) = .inr (t, vs.map (am_sh B sa)) := by
  unfold am_E; rw [if_pos (show t < 100 by omega)]
theorem am_E_100 {dA : Nat → ClassId} {B : Nat} {sa : Nat → Nat} {vs : List Value} : am_E dA B sa (100, vs) = .inl (dA 0, vs.length, .inl (fun j => am_i (vs.getD j .null))) := rfl
theorem am_E_101 {dA : Nat → ClassId} {B : Nat} {sa : Nat → Nat} {vs : List Value} : am_E dA B sa (101, vs) = .inl (dA 1, vs.length, .inr (.inl (fun j => am_l (vs.getD j .null)))) := rfl
theorem am_E_102 {dA : Nat → ClassId} {B : Nat} {sa : Nat → Nat} {vs : List Value} : am_E dA B sa (102, vs) = .inl (dA 2, vs.length, .inl (fun j => am_i (vs.getD j .null))) := rfl
theorem am_E_103 {dA : Nat → ClassId} {B : Nat} {sa : Nat → Nat} {vs : List Value} : am_E dA B sa (103, vs) = .inl (dA 3, vs.length, .inr (.inr (.inr (.inr (fun j => am_r B (vs.getD j .null)))))) := rfl
theorem am_E_104 {dA : Nat → ClassId} {B : Nat} {sa : Nat → Nat} {vs : List Value} : am_E dA B sa (104, vs) = .inl (dA 4, vs.length, .inr (.inr (.inr (.inr (fun j => am_r B (vs.getD j .null)))))) := rfl
theorem am_fs_of {c idx : Nat} {q : Nat × Nat × Nat × Nat × Nat} (h : am_lk am_fs c idx = some q) : q.1 < 9 ∧ q.2.1 < (am_k q.1).2.2.2.1 ∧ ((am_k q.1).2.2.1 q.2.1).1 = (am_k q.1).2.1 ∧ am_wd q.2.2.2.2 = some (.fieldLink (am_R c) idx (am_k q.1).2.1 ((am_k q.1).2.2.1 q.2.1).2.1 ((am_k q.1).2.2.1 q.2.1).2.2.1) ∧ ((am_k q.1).2.2.1 q.2.1).2.2.2 = decide (q.2.2.2.1 = 1) ∧
    (if q.2.2.1 = 0 then decide (parseFieldDescriptor ((am_k q.1).2.2.1 q.2.1).2.2.1 = some .int) else if q.2.2.1 = 1 then decide (parseFieldDescriptor ((am_k q.1).2.2.1 q.2.1).2.2.1 = some .long) else match parseFieldDescriptor ((am_k q.1).2.2.1 q.2.1).2.2.1 with
        | some (.object _) => true
        | some (.array _) => true
        | _ => false) = true := by
  have h1 := List.all_eq_true.mp am_okF_all _ (am_lk_mem h)
  simp only [am_okF, Bool.and_eq_true, decide_eq_true_eq] at h1
  obtain ⟨⟨⟨⟨⟨h2, h3⟩, h4⟩, h5⟩, h6⟩, h7⟩ := h1
  exact ⟨h7, h2, h3, h4, h5, h6⟩
theorem am_vk_of {B : Nat} {sa : Nat → Nat} {fk : Nat} {v : Value} {ds : String} (h : am_vk fk v = true) (ht : (if fk = 0 then decide (parseFieldDescriptor ds = some .int) else if fk = 1 then decide (parseFieldDescriptor ds = some .long) else match parseFieldDescriptor ds with
        | some (.object _) => true
        | some (.array _) => true
        | _ => false) = true) : ∃ ty, parseFieldDescriptor ds = some ty ∧ narrow ty (am_sh B sa v) = am_sh B sa v ∧ fits ty (am_sh B sa v) = true := by
  unfold am_vk at h
  split at h
  · rw [if_pos rfl] at ht
    exact ⟨_, of_decide_eq_true ht, rfl, rfl⟩
  · rw [if_neg (by decide), if_pos rfl] at ht
    exact ⟨_, of_decide_eq_true ht, rfl, rfl⟩
  · rw [if_neg (by decide), if_neg (by decide)] at ht
    split at ht
    next he => exact ⟨_, he, rfl, rfl⟩
    next he => exact ⟨_, he, rfl, rfl⟩
    next => cases ht
  · rw [if_neg (by decide), if_neg (by decide)] at ht
    split at ht
    next he => exact ⟨_, he, rfl, rfl⟩
    next he => exact ⟨_, he, rfl, rfl⟩
    next => cases ht
  · cases h
theorem am_ks_of {t : Nat} (ht : t < 9) : (am_k t).2.1 = am_R (am_k t).1 ∧ (∀ j, j < (am_k t).2.2.2.1 → am_wd ((am_k t).2.2.2.2.2.1.getD j 0) = some (u_lay (am_k t).2.1 (am_k t).2.2.1 j)) ∧ am_wd (am_k t).2.2.2.2.2.2 = some (.instantiable (am_k t).2.1 (am_k t).2.2.2.1) ∧ am_wd (am_ini (am_k t).1) = some (.initialized (am_k t).2.1) := by
  have h1 := List.all_eq_true.mp am_okK_all t (List.mem_range.mpr ht)
  simp only [am_okK, Bool.and_eq_true, decide_eq_true_eq, List.all_eq_true, List.mem_range] at h1
  obtain ⟨⟨⟨⟨⟨h2, h3⟩, h4⟩, h5⟩, h6⟩, h7⟩ := h1
  exact ⟨h2, h4, h5, h6⟩
theorem am_ks_in {t : Nat} (ht : t < 9) : ∀ w ∈ u_ws (am_k t).2.1 (am_k t).2.2.1 (am_k t).2.2.2.1, w ∈ am_gw := by
  intro w hw
  obtain ⟨j, hj, rfl⟩ := List.mem_map.mp hw
  refine am_gw_in ((am_ks_of ht).2.1 j (List.mem_range.mp hj)) ?_
  unfold u_lay
  split <;> rfl
theorem am_ns_of {c idx : Nat} {q : Nat × Nat} (h : am_lk am_ns c idx = some q) : am_wd q.2 = some (.classLink (am_R c) idx (am_k q.1).2.1) ∧ q.1 < 9 := by
  have h1 := List.all_eq_true.mp am_okn_all _ (am_lk_mem h)
  simp only [Bool.and_eq_true, decide_eq_true_eq] at h1
  exact h1
theorem am_df_sh (B : Nat) (sa : Nat → Nat) {t : Nat} : ∀ j, j < (am_k t).2.2.2.1 → defaultValue ((am_k t).2.2.2.2.1 j) = vp_V ((am_df t).map (am_sh B sa)) j := by
  intro j hj
  unfold vp_V am_df
  rw [List.getD_eq_getElem?_getD, List.getElem?_map, List.getElem?_map, List.getElem?_range hj]
  show _ = am_sh B sa (defaultValue _)
  cases (am_k t).2.2.2.2.1 j <;> rfl
section AMH
variable {p : Program} {l : Launch} {e : Env} {R : Room} {s : State} {m : MethodId} {args : Array Value} {below : List Frame} {meth : Method} {c : Code} {H : Heap} {locs : List Loc} {cells slots : Nat} {Q : State → Prop}
variable {cc : ByteArray} {pc : Nat} {ls : Array Slot} {D : va_G} {dA : Nat → ClassId} {B : Nat} {sa : Nat → Nat}
theorem am_szW {g : JFrame} (k : H.size ≤ s.heap.size + cells → W p l e R s m args below meth c H locs cells slots Q g) : W p l e R s m args below meth c H locs cells slots Q g :=
  fun T hT X => k (by rw [← hT]; exact X.heapSize) T hT X
theorem am_size {w : am_W} (hP : va_P D vwCl (am_rz dA B sa 0 w) H) (hS : va_S (fun q => B ≤ q) s.heap H locs) (hB : B ≤ s.heap.size) (hc : s.heap.size + cells = B + w.length) (h : H.size ≤ s.heap.size + cells) : H.size = B + w.length := by
  have h1 : B + w.length ≤ H.size := by
    cases hw : w.length with
    | zero => have := hS.1; omega
    | succ n =>
      have hl : n < w.length := by omega
      have := (hP n _ (am_get dA (List.getElem?_eq_getElem hl))).lt
      simp only at this
      omega
  omega
theorem am_new {w : am_W} {x : am_C} {H1 : Heap} (hP : va_P D vwCl (am_rz dA B sa 0 w) H) (hz : H.size = B + w.length) (hx : va_at D vwCl (B + w.length, am_E dA B sa x) H1) (o1 : ∀ q : Nat, q < H.size → H1[q]? = H[q]?) : va_P D vwCl (am_rz dA B sa 0 (w ++ [x])) H1 := by
  rw [am_rz_app, Nat.zero_add]
  refine va_P.app (hP.kept fun k q hk => o1 q.1 (hP k q hk).lt) (fun k q hk => ?_)
  cases k with
  | zero => simp at hk; rw [← hk]; exact hx
  | succ k => simp at hk
theorem am_newS {H1 : Heap} (hS : va_S (fun q => B ≤ q) s.heap H locs) (z : H.size ≤ H1.size) (o1 : ∀ q : Nat, q < H.size → H1[q]? = H[q]?) : va_S (fun q => B ≤ q) s.heap H1 locs :=
  ⟨Nat.le_trans hS.1 z, fun q h1 h2 => (o1 q (Nat.lt_of_lt_of_le h1 hS.1)).trans (hS.2.1 q h1 h2), hS.2.2⟩
theorem am_push (H : Heap) (x : Cell) : (H.push x)[H.size]? = some x ∧ (H.push x).size = H.size + 1 ∧ ∀ q : Nat, q < H.size → (H.push x)[q]? = H[q]? :=
  ⟨by simp, by simp, fun q hq => by rw [Array.getElem?_push, if_neg (Nat.ne_of_lt hq)]⟩
theorem am_sum4 {B : Nat} {sa : Nat → Nat} : ∀ (r : List Value) , (((r.map (am_sh B sa)).map fun v => v.category).sum) ≤ 2 * r.length
  | [] => by simp
  | v :: t => by
    have h := am_sum4 (B := B) (sa := sa) t
    have h2 : (am_sh B sa v).category ≤ 2 := by rcases lv_cat (am_sh B sa v) with h | h <;> omega
    simp only [List.map_cons, List.sum_cons, List.length_cons]
    omega
set_option maxHeartbeats 4000000 in
theorem am_hp_ok (hx : p.tables.exec = Jvm.exec) (hb : c.code = cc) (hml : c.maxLocals = ls.size) {k : Nat} (hown : s.vm.findClass (am_R k) = some m.cls) (hts : ∀ w ∈ am_gw, w.before args s = true) (hK : am_Kx D dA sa s) {ini : Bool} (hini : ini = true → meth.name = "<init>") {d : Nat} (hfr : d ≤ R.frames) (hlo : 35 * d ≤ R.locals)
    {i : Instr} {z : Nat} {st st' : List Value} {w w' : am_W} (h : am_hp k ini d i st w = some (st', w')) (hd : decode cc pc = .ok (i, z)) (hz : am_ln i = z)
    (hP : va_P D vwCl (am_rz dA B sa 0 w) H) (hS : va_S (fun q => B ≤ q) s.heap H locs) (hB : B ≤ s.heap.size) (hc : s.heap.size + cells = B + w.length) {z0 : Nat} (hs : z0 + slots = am_sz w) (hcr : B + w'.length ≤ s.heap.size + R.cells) (hsr : am_sz w' ≤ z0 + R.slots)
    (kk : ∀ (H' : Heap) (locs' : List Loc) (cells' slots' : Nat), va_P D vwCl (am_rz dA B sa 0 w') H' → va_S (fun q => B ≤ q) s.heap H' locs' → s.heap.size + cells' = B + w'.length → z0 + slots' = am_sz w' → W p l e R s m args below meth c H' locs' cells' slots' Q (F0 m (pc + z) ls (st'.map (am_sh B sa)))) :
    W p l e R s m args below meth c H locs cells slots Q (F0 m pc ls (st.map (am_sh B sa))) := by
  subst hz
  have hD := am_rz_D dA B sa w
  cases i with
  | getfield idx =>
    simp only [am_hp] at h
    split at h
    next a r =>
      split at h
      next q hq =>
        split at h
        next vs hvs =>
          split at h
          next v hv =>
            cases h
            obtain ⟨ht, hk, hT1, hlink, -, -⟩ := am_fs_of hq
            have he := am_get dA (B := B) (sa := sa) (am_at_some hvs)
            rw [am_E_obj ht] at he
            exact va_get hx hb hts (am_ks_in ht) hown hK.1 hP a he (am_ks_cl _ ht) q.2.1 hk (ref := (am_k q.1).2.1) (hts _ (am_gw_in hlink rfl)) (fun x h9 => by rw [hT1] at h9; exact h9) (v := am_sh B sa v) (by rw [List.getElem?_map, hv]; rfl) hd (kk H locs cells slots hP hS hc hs)
          next => cases h
        next => cases h
      next => cases h
    next => cases h
  | putfield idx =>
    simp only [am_hp] at h
    split at h
    next v a r =>
      split at h
      next q hq =>
        split at h
        next vs hvs =>
          split at h
          next hq2 =>
            cases h
            obtain ⟨hvk, hlen, hfi⟩ := hq2
            obtain ⟨ht, hk, hT1, hlink, hfin, hty⟩ := am_fs_of hq
            have hw := am_at_some hvs
            have he := am_get dA (B := B) (sa := sa) hw
            rw [am_E_obj ht] at he
            obtain ⟨ty, h1, h2, h3⟩ := am_vk_of (B := B) (sa := sa) hvk hty
            have hput : (am_rz dA B sa 0 w).set a (B + a, .inr (q.1, (vs.map (am_sh B sa)).set q.2.1 (am_sh B sa v))) = am_rz dA B sa 0 (w.set a (q.1, vs.set q.2.1 v)) := am_put (by rw [am_E_obj ht, List.map_set])
            have fin : ∀ (H1 : Heap) (locs1 : List Loc), va_P D vwCl ((am_rz dA B sa 0 w).set a (B + a, .inr (q.1, (vs.map (am_sh B sa)).set q.2.1 (am_sh B sa v)))) H1 → va_D (fun q => B ≤ q) ((am_rz dA B sa 0 w).set a (B + a, .inr (q.1, (vs.map (am_sh B sa)).set q.2.1 (am_sh B sa v)))) → va_S (fun q => B ≤ q) s.heap H1 locs1 → W p l e R s m args below meth c H1 locs1 cells slots Q (F0 m (pc + 3) ls (st'.map (am_sh B sa))) := by
              intro H1 locs1 hP1 _ hS1
              rw [hput] at hP1
              exact kk H1 locs1 cells slots hP1 hS1 (by rw [List.length_set]; exact hc) (by rw [am_sz_set hw (by simp)]; exact hs)
            by_cases hf : q.2.2.2.1 = 1
            · have hf2 := hfi.resolve_left (fun q => q hf)
              exact va_putF hx hb hts (am_ks_in ht) (am_k q.1).2.2.2.2.1 (am_ks_ty _ ht) (am_ks_nm _ ht) hown hK.1 hP hD hS a he (am_ks_cl _ ht) q.2.1 hk (ref := (am_k q.1).2.1) (hts _ (am_gw_in hlink rfl)) (fun x h9 => by rw [hT1] at h9; exact h9) (by rw [hfin, hf]; rfl) (hini hf2.1) (by rw [hT1, (am_ks_of ht).1, hf2.2]) h1 h2 h3 (by rw [List.length_map]; exact hlen) hd fin
            · exact va_put hx hb hts (am_ks_in ht) (am_k q.1).2.2.2.2.1 (am_ks_ty _ ht) (am_ks_nm _ ht) hown hK.1 hP hD hS a he (am_ks_cl _ ht) q.2.1 hk (ref := (am_k q.1).2.1) (hts _ (am_gw_in hlink rfl)) (fun x h9 => by rw [hT1] at h9; exact h9) (by rw [hfin]; exact decide_eq_false hf) h1 h2 h3 (by rw [List.length_map]; exact hlen) hd fin
          next => cases h
        next => cases h
      next => cases h
    next => cases h
  | iaload =>
    simp only [am_hp] at h
    split at h
    next j a r =>
      split at h
      next vs hvs =>
        split at h
        next x hv =>
          cases h
          have he := am_get dA (B := B) (sa := sa) (am_at_some hvs)
          rw [am_E_100] at he
          refine va_iald hx hb hK.1 hP a 0 he rfl (am_ix_in hv) hd ?_
          rw [List.getD_eq_getElem?_getD, (am_ix_some hv).2]
          exact kk H locs cells slots hP hS hc hs
        next => cases h
      next => cases h
    next => cases h
  | laload =>
    simp only [am_hp] at h
    split at h
    next j a r =>
      split at h
      next vs hvs =>
        split at h
        next x hv =>
          cases h
          have he := am_get dA (B := B) (sa := sa) (am_at_some hvs)
          rw [am_E_101] at he
          refine va_lald hx hb hK.1 hP a 1 he rfl (am_ix_in hv) hd ?_
          rw [List.getD_eq_getElem?_getD, (am_ix_some hv).2]
          exact kk H locs cells slots hP hS hc hs
        next => cases h
      next => cases h
    next => cases h
  | baload =>
    simp only [am_hp] at h
    split at h
    next j a r =>
      split at h
      next vs hvs =>
        split at h
        next x hv =>
          cases h
          have he := am_get dA (B := B) (sa := sa) (am_at_some hvs)
          rw [am_E_102] at he
          refine va_zald hx hb hK.1 hP a 2 he rfl (am_ix_in hv) hd ?_
          rw [List.getD_eq_getElem?_getD, (am_ix_some hv).2]
          exact kk H locs cells slots hP hS hc hs
        next => cases h
      next => cases h
    next => cases h
  | aaload =>
    simp only [am_hp] at h
    split at h
    next j a r =>
      split at h
      next x hw =>
        split at h
        next ht =>
          split at h
          next y hv =>
            cases h
            obtain ⟨t, vs⟩ := x
            have he := am_get dA (B := B) (sa := sa) hw
            rcases ht with rfl | rfl
            · rw [am_E_103] at he
              refine va_aldq hx hb hK.1 hP a 3 he rfl (am_ix_in hv) hd ?_
              rw [List.getD_eq_getElem?_getD, (am_ix_some hv).2]
              exact kk H locs cells slots hP hS hc hs
            · rw [am_E_104] at he
              refine va_aldq hx hb hK.1 hP a 4 he rfl (am_ix_in hv) hd ?_
              rw [List.getD_eq_getElem?_getD, (am_ix_some hv).2]
              exact kk H locs cells slots hP hS hc hs
          next => cases h
        next => cases h
      next => cases h
    next => cases h
  | iastore =>
    simp only [am_hp] at h
    split at h
    next x j a r =>
      split at h
      next vs hvs =>
        split at h
        next u hv =>
          cases h
          have hw := am_at_some hvs
          have he := am_get dA (B := B) (sa := sa) hw
          rw [am_E_100] at he
          have hlt := (List.getElem?_eq_some_iff.mp (am_ix_some hv).2).1
          refine va_iast hx hb hK.1 hP hD hS a 0 he rfl (am_ix_in hv) hd fun H1 locs1 hP1 _ hS1 => ?_
          rw [am_put (c := (100, vs.set j.toNatClampNeg (.int x))) (by
            rw [am_E_100, List.length_set]
            congr 4
            funext q
            unfold upd
            dsimp only
            rw [List.getD_eq_getElem?_getD, List.getD_eq_getElem?_getD, List.getElem?_set]
            by_cases hq : q = j.toNatClampNeg
            · rw [if_pos hq, if_pos hq.symm, if_pos hlt]; rfl
            · rw [if_neg hq, if_neg (Ne.symm hq)])] at hP1
          exact kk H1 locs1 cells slots hP1 hS1 (by rw [List.length_set]; exact hc) (by rw [am_sz_set hw (by simp)]; exact hs)
        next => cases h
      next => cases h
    next => cases h
  | lastore =>
    simp only [am_hp] at h
    split at h
    next x j a r =>
      split at h
      next vs hvs =>
        split at h
        next u hv =>
          cases h
          have hw := am_at_some hvs
          have he := am_get dA (B := B) (sa := sa) hw
          rw [am_E_101] at he
          have hlt := (List.getElem?_eq_some_iff.mp (am_ix_some hv).2).1
          refine va_last hx hb hK.1 hP hD hS a 1 he rfl (am_ix_in hv) hd fun H1 locs1 hP1 _ hS1 => ?_
          rw [am_put (c := (101, vs.set j.toNatClampNeg (.long x))) (by
            rw [am_E_101, List.length_set]
            congr 5
            funext q
            unfold vp_updL
            dsimp only
            rw [List.getD_eq_getElem?_getD, List.getD_eq_getElem?_getD, List.getElem?_set]
            by_cases hq : q = j.toNatClampNeg
            · rw [if_pos hq, if_pos hq.symm, if_pos hlt]; rfl
            · rw [if_neg hq, if_neg (Ne.symm hq)])] at hP1
          exact kk H1 locs1 cells slots hP1 hS1 (by rw [List.length_set]; exact hc) (by rw [am_sz_set hw (by simp)]; exact hs)
        next => cases h
      next => cases h
    next => cases h
  | bastore =>
    simp only [am_hp] at h
    split at h
    next x j a r =>
      split at h
      next vs hvs =>
        split at h
        next u hv =>
          split at h
          next hx1 =>
            cases h
            subst hx1
            have hw := am_at_some hvs
            have he := am_get dA (B := B) (sa := sa) hw
            rw [am_E_102] at he
            have hlt := (List.getElem?_eq_some_iff.mp (am_ix_some hv).2).1
            refine va_zast hx hb hK.1 hP hD hS a 2 he rfl (am_ix_in hv) hd fun H1 locs1 hP1 _ hS1 => ?_
            rw [am_put (c := (102, vs.set j.toNatClampNeg (.int 1))) (by
              rw [am_E_102, List.length_set]
              congr 4
              funext q
              unfold upd
              dsimp only
              rw [List.getD_eq_getElem?_getD, List.getD_eq_getElem?_getD, List.getElem?_set]
              by_cases hq : q = j.toNatClampNeg
              · rw [if_pos hq, if_pos hq.symm, if_pos hlt]; decide
              · rw [if_neg hq, if_neg (Ne.symm hq)])] at hP1
            exact kk H1 locs1 cells slots hP1 hS1 (by rw [List.length_set]; exact hc) (by rw [am_sz_set hw (by simp)]; exact hs)
          next => cases h
        next => cases h
      next => cases h
    next => cases h
  | aastore =>
    simp only [am_hp] at h
    split at h
    next b j a r =>
      split at h
      next x hw =>
        split at h
        next u hv =>
          split at h
          next y hy =>
            split at h
            next ht =>
              cases h
              obtain ⟨t, vs⟩ := x
              obtain ⟨t2, us⟩ := y
              have he := am_get dA (B := B) (sa := sa) hw
              have hb2 := am_get dA (B := B) (sa := sa) hy
              have hlt := (List.getElem?_eq_some_iff.mp (am_ix_some hv).2).1
              have hfn : va_up (fun j => am_r B (vs.getD j .null)) j.toNatClampNeg (some (B + b)) = fun q => am_r B ((vs.set j.toNatClampNeg (.ref b)).getD q .null) := by
                funext q
                unfold va_up
                dsimp only
                rw [List.getD_eq_getElem?_getD, List.getD_eq_getElem?_getD, List.getElem?_set]
                by_cases hq : q = j.toNatClampNeg
                · rw [if_pos hq, if_pos hq.symm, if_pos hlt]; rfl
                · rw [if_neg hq, if_neg (Ne.symm hq)]
              rcases ht with ⟨rfl, rfl⟩ | ⟨rfl, rfl⟩
              · rw [am_E_103] at he
                rw [am_E_obj (by decide)] at hb2
                refine va_astq hx hb hK.1 hP hD hS a 3 b 2 he (r := (RX2, TX2, 4)) rfl hb2 rfl (am_ix_in hv) hd fun H1 locs1 hP1 _ hS1 => ?_
                rw [am_put (c := (103, vs.set j.toNatClampNeg (.ref b))) (by rw [am_E_103, List.length_set, hfn])] at hP1
                exact kk H1 locs1 cells slots hP1 hS1 (by rw [List.length_set]; exact hc) (by rw [am_sz_set hw (by simp)]; exact hs)
              · rw [am_E_104] at he
                rw [am_E_obj (by decide)] at hb2
                refine va_astq hx hb hK.1 hP hD hS a 4 b 6 he (r := (RX7, TX7, 15)) rfl hb2 rfl (am_ix_in hv) hd fun H1 locs1 hP1 _ hS1 => ?_
                rw [am_put (c := (104, vs.set j.toNatClampNeg (.ref b))) (by rw [am_E_104, List.length_set, hfn])] at hP1
                exact kk H1 locs1 cells slots hP1 hS1 (by rw [List.length_set]; exact hc) (by rw [am_sz_set hw (by simp)]; exact hs)
            next => cases h
          next => cases h
        next => cases h
      next => cases h
    next => cases h
  | arraylength =>
    simp only [am_hp] at h
    split at h
    next a r =>
      split at h
      next x hw =>
        split at h
        next ht =>
          cases h
          obtain ⟨t, vs⟩ := x
          have he := am_get dA (B := B) (sa := sa) hw
          obtain ⟨h1, h2⟩ := ht
          simp only at h1 h2
          rcases (show t = 100 ∨ t = 101 ∨ t = 102 ∨ t = 103 ∨ t = 104 by omega) with rfl | rfl | rfl | rfl | rfl
          · rw [am_E_100] at he; exact va_alen hx hb hK.1 hP a 0 he rfl rfl hd (kk H locs cells slots hP hS hc hs)
          · rw [am_E_101] at he; exact va_alen hx hb hK.1 hP a 1 he rfl rfl hd (kk H locs cells slots hP hS hc hs)
          · rw [am_E_102] at he; exact va_alen hx hb hK.1 hP a 2 he rfl rfl hd (kk H locs cells slots hP hS hc hs)
          · rw [am_E_103] at he; exact va_alen hx hb hK.1 hP a 3 he rfl rfl hd (kk H locs cells slots hP hS hc hs)
          · rw [am_E_104] at he; exact va_alen hx hb hK.1 hP a 4 he rfl rfl hd (kk H locs cells slots hP hS hc hs)
        next => cases h
      next => cases h
    next => cases h
  | new idx =>
    simp only [am_hp] at h
    split at h
    next q hq =>
      cases h
      obtain ⟨hlink, ht⟩ := am_ns_of hq
      obtain ⟨-, -, hin2, hin3⟩ := am_ks_of ht
      have hKn := hK.1.1 q.1 _ (am_ks_cl _ ht)
      have hlen : (am_df q.1).length = (am_k q.1).2.2.2.1 := by simp [am_df]
      rw [List.length_append] at hcr
      rw [am_sz_app] at hsr
      simp only [List.length_cons, List.length_nil, hlen] at hcr hsr
      refine am_szW fun hle => ?_
      have hsz := am_size hP hS hB hc hle
      refine W.newcK hx hb hown (hts _ (am_gw_in hlink rfl)) (hts _ (am_gw_in hin2 rfl)) (hts _ (am_gw_in hin3 rfl)) rfl hd (by omega) (by omega) hKn.2.1 hsz fun H1 kC hkC e1 z1 o1 => ?_
      refine kk H1 locs (cells + 1) (slots + (am_k q.1).2.2.2.1) (am_new hP hsz ?_ (fun x hx => o1 x (by omega))) (am_newS hS (by omega) (fun x hx => o1 x (by omega))) (by simp; omega) (by rw [am_sz_app, hlen]; omega)
      rw [am_E_obj ht]
      exact ⟨_, am_ks_cl _ ht, (u_born _ hts (am_ks_in ht) hKn hkC e1 (am_ks_ty _ ht)).to (am_df_sh B sa)⟩
    next => cases h
  | newarray ty =>
    simp only [am_hp] at h
    split at h
    next n r =>
      split at h
      next => cases h
      next hn =>
        have hn0 : ¬ n < 0 := fun q => hn (Or.inl q)
        have hn1 : n.toNatClampNeg ≤ 100000 := by
          rcases Nat.lt_or_ge 100000 n.toNatClampNeg with q | q
          · exact absurd (Or.inr q) hn
          · exact q
        split at h
        · cases h
          rw [List.length_append] at hcr
          rw [am_sz_app] at hsr
          simp only [List.length_cons, List.length_nil, List.length_replicate] at hcr hsr
          refine am_szW fun hle => ?_
          have hsz := am_size hP hS hB hc hle
          refine W.newa hx hb (atype := .int) (hts _ (am_gw_in am_okp.2.2.2.2.2.1 rfl)) rfl hd rfl hn0 (by show _ * 4 ≤ _; omega) (by omega) (by omega) fun cA kA comp f1 f2 f3 => ?_
          have hA : cA = dA 0 := Option.some.inj (f1.symm.trans (hK.1.2 0 (dA 0, .int) rfl).2)
          subst hA
          obtain ⟨g1, g2, g3⟩ := am_push H ({ cls := dA 0, slots := Array.replicate n.toNatClampNeg (defaultValue (newarray.typeOf .int)), vm := .none } : Cell)
          rw [hsz] at g1
          have := kk (H.push ({ cls := dA 0, slots := Array.replicate n.toNatClampNeg (defaultValue (newarray.typeOf .int)), vm := .none } : Cell)) locs (cells + 1) (slots + n.toNatClampNeg) (am_new hP hsz (by
            rw [am_E_100]
            show _ = some (vp_cell _ _)
            rw [g1, arrV_new, vp_cell_i, List.length_replicate]
            congr 2
            funext j
            rw [List.getD_eq_getElem?_getD, List.getElem?_replicate]
            split <;> rfl) g3) (am_newS hS (by omega) g3) (by simp; omega) (by rw [am_sz_app, List.length_replicate]; omega)
          rw [hsz]
          exact this
        · cases h
          rw [List.length_append] at hcr
          rw [am_sz_app] at hsr
          simp only [List.length_cons, List.length_nil, List.length_replicate] at hcr hsr
          refine am_szW fun hle => ?_
          have hsz := am_size hP hS hB hc hle
          refine W.newa hx hb (atype := .long) (hts _ (am_gw_in am_okp.2.2.2.2.2.2.1 rfl)) rfl hd rfl hn0 (by show _ * 8 ≤ _; omega) (by omega) (by omega) fun cA kA comp f1 f2 f3 => ?_
          have hA : cA = dA 1 := Option.some.inj (f1.symm.trans (hK.1.2 1 (dA 1, .long) rfl).2)
          subst hA
          obtain ⟨g1, g2, g3⟩ := am_push H ({ cls := dA 1, slots := Array.replicate n.toNatClampNeg (defaultValue (newarray.typeOf .long)), vm := .none } : Cell)
          rw [hsz] at g1
          have := kk (H.push ({ cls := dA 1, slots := Array.replicate n.toNatClampNeg (defaultValue (newarray.typeOf .long)), vm := .none } : Cell)) locs (cells + 1) (slots + n.toNatClampNeg) (am_new hP hsz (by
            rw [am_E_101]
            show _ = some (vp_cell _ _)
            rw [g1, arrV_new, vp_cell_l, List.length_replicate]
            congr 2
            funext j
            rw [List.getD_eq_getElem?_getD, List.getElem?_replicate]
            split <;> rfl) g3) (am_newS hS (by omega) g3) (by simp; omega) (by rw [am_sz_app, List.length_replicate]; omega)
          rw [hsz]
          exact this
        · cases h
          rw [List.length_append] at hcr
          rw [am_sz_app] at hsr
          simp only [List.length_cons, List.length_nil, List.length_replicate] at hcr hsr
          refine am_szW fun hle => ?_
          have hsz := am_size hP hS hB hc hle
          refine W.newa hx hb (atype := .boolean) (hts _ (am_gw_in am_okp.2.2.2.2.2.2.2.1 rfl)) rfl hd rfl hn0 (by show _ * 1 ≤ _; omega) (by omega) (by omega) fun cA kA comp f1 f2 f3 => ?_
          have hA : cA = dA 2 := Option.some.inj (f1.symm.trans (hK.1.2 2 (dA 2, .boolean) rfl).2)
          subst hA
          obtain ⟨g1, g2, g3⟩ := am_push H ({ cls := dA 2, slots := Array.replicate n.toNatClampNeg (defaultValue (newarray.typeOf .boolean)), vm := .none } : Cell)
          rw [hsz] at g1
          have := kk (H.push ({ cls := dA 2, slots := Array.replicate n.toNatClampNeg (defaultValue (newarray.typeOf .boolean)), vm := .none } : Cell)) locs (cells + 1) (slots + n.toNatClampNeg) (am_new hP hsz (by
            rw [am_E_102]
            show _ = some (vp_cell _ _)
            rw [g1, arrV_new, vp_cell_i, List.length_replicate]
            congr 2
            funext j
            rw [List.getD_eq_getElem?_getD, List.getElem?_replicate]
            split <;> rfl) g3) (am_newS hS (by omega) g3) (by simp; omega) (by rw [am_sz_app, List.length_replicate]; omega)
          rw [hsz]
          exact this
        · cases h
    next => cases h
  | anewarray idx =>
    simp only [am_hp] at h
    split at h
    next n r =>
      split at h
      next => cases h
      next hn =>
        have hn0 : ¬ n < 0 := fun q => hn (Or.inl q)
        have hn1 : n.toNatClampNeg ≤ 100000 := by
          rcases Nat.lt_or_ge 100000 n.toNatClampNeg with q | q
          · exact absurd (Or.inr q) hn
          · exact q
        split at h
        next q hq =>
          obtain ⟨hlink, ht⟩ := am_ns_of hq
          obtain ⟨q1, q2⟩ := q
          simp only at hlink h ht
          split at h
          next hq1 =>
            subst hq1
            cases h
            rw [List.length_append] at hcr
            rw [am_sz_app] at hsr
            simp only [List.length_cons, List.length_nil, List.length_replicate] at hcr hsr
            refine am_szW fun hle => ?_
            have hsz := am_size hP hS hB hc hle
            refine W.anew hx hb hown (hts _ (am_gw_in hlink rfl)) (C := RX2) (va_AO.use hK.2.2.2.1) rfl hd rfl hn0 (by omega) (by omega) (by omega) fun cA kA comp f1 f2 f3 f4 => ?_
            obtain ⟨kB, cmp, b1, b2, b3, b4⟩ := (hK.1.2 3 (dA 3, .object RX2) rfl).2
            have hA : cA = dA 3 := Option.some.inj (f1.symm.trans b4)
            subst hA
            obtain ⟨g1, g2, g3⟩ := am_push H ({ cls := dA 3, slots := Array.replicate n.toNatClampNeg .null, vm := .none } : Cell)
            rw [hsz] at g1
            have := kk (H.push ({ cls := dA 3, slots := Array.replicate n.toNatClampNeg .null, vm := .none } : Cell)) locs (cells + 1) (slots + n.toNatClampNeg) (am_new hP hsz (by
              rw [am_E_103]
              show _ = some (vp_cell _ _)
              rw [g1, arrV_new, vp_cell_q, List.length_replicate]
              congr 2
              funext j
              rw [List.getD_eq_getElem?_getD, List.getElem?_replicate]
              split <;> rfl) g3) (am_newS hS (by omega) g3) (by simp; omega) (by rw [am_sz_app, List.length_replicate]; omega)
            rw [hsz]
            exact this
          next =>
            split at h
            next hq1 =>
              subst hq1
              cases h
              rw [List.length_append] at hcr
              rw [am_sz_app] at hsr
              simp only [List.length_cons, List.length_nil, List.length_replicate] at hcr hsr
              refine am_szW fun hle => ?_
              have hsz := am_size hP hS hB hc hle
              refine W.anew hx hb hown (hts _ (am_gw_in hlink rfl)) (C := RX7) (va_AO.use hK.2.2.2.2) rfl hd rfl hn0 (by omega) (by omega) (by omega) fun cA kA comp f1 f2 f3 f4 => ?_
              obtain ⟨kB, cmp, b1, b2, b3, b4⟩ := (hK.1.2 4 (dA 4, .object RX7) rfl).2
              have hA : cA = dA 4 := Option.some.inj (f1.symm.trans b4)
              subst hA
              obtain ⟨g1, g2, g3⟩ := am_push H ({ cls := dA 4, slots := Array.replicate n.toNatClampNeg .null, vm := .none } : Cell)
              rw [hsz] at g1
              have := kk (H.push ({ cls := dA 4, slots := Array.replicate n.toNatClampNeg .null, vm := .none } : Cell)) locs (cells + 1) (slots + n.toNatClampNeg) (am_new hP hsz (by
                rw [am_E_104]
                show _ = some (vp_cell _ _)
                rw [g1, arrV_new, vp_cell_q, List.length_replicate]
                congr 2
                funext j
                rw [List.getD_eq_getElem?_getD, List.getElem?_replicate]
                split <;> rfl) g3) (am_newS hS (by omega) g3) (by simp; omega) (by rw [am_sz_app, List.length_replicate]; omega)
              rw [hsz]
              exact this
            next => cases h
        next => cases h
    next => cases h
  | ldc idx =>
    simp only [am_hp] at h
    split at h
    next q hq =>
      cases h
      have h1 := List.all_eq_true.mp am_okci_all _ (am_lk_mem hq)
      simp only [decide_eq_true_eq] at h1
      exact lv_ldc hx hb hown (hts _ (am_gw_in h1 rfl)) hd (kk H locs cells slots hP hS hc hs)
    next =>
      split at h
      next q hq =>
        cases h
        exact va_ldcS hx hb hown (hK.2.2.1 _ (am_lk_mem hq)) hd (kk H locs cells slots hP hS hc hs)
      next => cases h
  | ldc_w idx =>
    simp only [am_hp] at h
    split at h
    next q hq =>
      cases h
      have h1 := List.all_eq_true.mp am_okci_all _ (am_lk_mem hq)
      simp only [decide_eq_true_eq] at h1
      exact lv_ldcw hx hb hown (hts _ (am_gw_in h1 rfl)) hd (kk H locs cells slots hP hS hc hs)
    next => cases h
  | ldc2_w idx =>
    simp only [am_hp] at h
    split at h
    next q hq =>
      cases h
      have h1 := List.all_eq_true.mp am_okcl_all _ (am_lk_mem hq)
      simp only [decide_eq_true_eq] at h1
      exact lv_ldc2 hx hb hown (hts _ (am_gw_in h1 rfl)) hd (kk H locs cells slots hP hS hc hs)
    next => cases h
  | invokespecial idx =>
    simp only [am_hp] at h
    split at h
    next a r =>
      split at h
      next q hq =>
        split at h
        next hq2 =>
          cases h
          have h1 := List.all_eq_true.mp am_okoi_all _ (am_lk_mem hq)
          simp only [decide_eq_true_eq] at h1
          have h4 := am_sum4 (B := B) (sa := sa) st'
          have h5 : 2 * (F0 m pc ls (.ref (B + a) :: st'.map (am_sh B sa))).monitorRoom + ((st'.map (am_sh B sa)).map fun v => v.category).sum ≤ 8 := lv_room (by omega)
          exact W.objInit hx hb hown (hts _ (am_gw_in h1 rfl)) (hts _ (am_gw_in am_okp.2.2.2.1 rfl)) (hts _ (am_gw_in am_okp.2.2.2.2.1 rfl)) (g := F0 m pc ls (.ref (B + a) :: st'.map (am_sh B sa))) rfl hml.symm rfl hd (by omega) (by omega) (kk H locs cells slots hP hS hc hs)
        next => cases h
      next => cases h
    next => cases h
  | invokestatic idx =>
    simp only [am_hp] at h
    split at h
    next n dp a sp b r =>
      split at h
      next q hq =>
        split at h
        next vs hvs =>
          split at h
          next us hus =>
            split at h
            next hcond =>
              cases h
              obtain ⟨k1, k2, k3, k4, k5, k6, k7⟩ := hcond
              have h1 := List.all_eq_true.mp am_okac_all _ (am_lk_mem hq)
              simp only [decide_eq_true_eq] at h1
              have h4 := am_sum4 (B := B) (sa := sa) st'
              have hwb := am_at_some hvs
              have hwa := am_at_some hus
              have heb := am_get dA (B := B) (sa := sa) hwb
              have hea := am_get dA (B := B) (sa := sa) hwa
              rw [am_E_100] at heb hea
              refine va_copyi hx hb hml hown (hts _ (am_gw_in h1 rfl)) (hts _ (am_gw_in am_okp.1 rfl)) (hts _ (am_gw_in am_okp.2.1 rfl)) (hts _ (am_gw_in am_okp.2.2.1 rfl)) hK.1 hP hD hS b a 0 0 heb hea rfl rfl rfl k1 k2 k3 k4 k5 (fun _ _ => rfl) (by omega) (by
                have e : nativeFrameWords "java/lang/System" "arraycopy" 5 = 7 := by decide
                rw [e]; omega) hd fun H1 locs1 hP1 _ hS1 => ?_
              rw [am_put (c := (100, us.take dp.toNatClampNeg ++ (vs.drop sp.toNatClampNeg).take n.toNatClampNeg ++ us.drop (dp.toNatClampNeg + n.toNatClampNeg))) (by
                rw [am_E_100]
                have e1 : (us.take dp.toNatClampNeg).length = dp.toNatClampNeg := by rw [List.length_take]; omega
                have e2 : ((vs.drop sp.toNatClampNeg).take n.toNatClampNeg).length = n.toNatClampNeg := by rw [List.length_take, List.length_drop]; omega
                have e3 : (us.take dp.toNatClampNeg ++ (vs.drop sp.toNatClampNeg).take n.toNatClampNeg ++ us.drop (dp.toNatClampNeg + n.toNatClampNeg)).length = us.length := by
                  rw [List.length_append, List.length_append, e1, e2, List.length_drop]; omega
                rw [e3]
                congr 4
                funext j
                unfold va_cpy
                dsimp only
                rw [List.getD_eq_getElem?_getD, List.getD_eq_getElem?_getD, List.getD_eq_getElem?_getD]
                by_cases hj : dp.toNatClampNeg ≤ j ∧ j < dp.toNatClampNeg + n.toNatClampNeg
                · rw [if_pos hj, List.getElem?_append_left (by rw [List.length_append, e1, e2]; omega), List.getElem?_append_right (by rw [e1]; omega), e1, List.getElem?_take, if_pos (by omega), List.getElem?_drop]
                · rw [if_neg hj]
                  by_cases hj2 : j < dp.toNatClampNeg
                  · rw [List.getElem?_append_left (by rw [List.length_append, e1, e2]; omega), List.getElem?_append_left (by rw [e1]; omega), List.getElem?_take, if_pos hj2]
                  · rw [List.getElem?_append_right (by rw [List.length_append, e1, e2]; omega), List.length_append, e1, e2, List.getElem?_drop]
                    congr 3
                    omega)] at hP1
              have e1 : (us.take dp.toNatClampNeg).length = dp.toNatClampNeg := by rw [List.length_take]; omega
              have e2 : ((vs.drop sp.toNatClampNeg).take n.toNatClampNeg).length = n.toNatClampNeg := by rw [List.length_take, List.length_drop]; omega
              have e3 : (us.take dp.toNatClampNeg ++ (vs.drop sp.toNatClampNeg).take n.toNatClampNeg ++ us.drop (dp.toNatClampNeg + n.toNatClampNeg)).length = us.length := by
                rw [List.length_append, List.length_append, e1, e2, List.length_drop]; omega
              exact kk H1 locs1 cells slots hP1 hS1 (by rw [List.length_set]; exact hc) (by rw [am_sz_set hwa e3]; exact hs)
            next => cases h
          next => cases h
        next => cases h
      next => cases h
    next => cases h
  | _ => cases (show none = some (st', w') from h)
end AMH
