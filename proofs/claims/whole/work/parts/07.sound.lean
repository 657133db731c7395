/-! THE RUN IS SOUND -/
theorem am_ofW {l : Launch} {y : MethodName} {ws ws' : List Cond} {rm : Room} {Pc : Array Value → State → Prop} {Qc : Array Value → State → Outcome → State → Prop} {mc ms : Nat} {free : Addr → Prop} {cc : ByteArray} {maxL : Nat} {ret : Option FieldType}
    (hy : plainFor y = true) (hw : ws = Cond.code y cc maxL ret :: ws')
    (body : ∀ p e s m args below meth c s₁, BodyLoose p l y (headSpec ws rm) cc maxL ret e s m args below meth c s₁ → c.maxLocals = maxL → Pc args s →
      W p l e (headSpec ws rm).room s m args below meth c s.heap [] 0 0 (MQ below Qc args s mc ms free) (entryFrame m args maxL)) : Met l y ws rm Pc Qc mc ms free := by
  refine MetFree.of_bodySF (code := cc) (maxLocals := maxL) (ret := ret) hy ?_ ?_
  · intro args s m h hn
    obtain ⟨meth, c, h1, h2, h3, h4, h5, h6, -, -⟩ := Cond.code_spec hn (atoms_spec (ws := ws) h _ (by rw [hw]; exact List.mem_cons_self))
    exact ⟨meth, c, h1, h2, h3, h4, h5, h6⟩
  · intro p e s m args below meth c s₁ B hml hP _
    have hh0 : s₁.heap = s.heap := by rw [B.state]; rfl
    obtain ⟨t, a1, o, b1, b2, b3⟩ := body p e s m args below meth c s₁ B hml hP s₁ hh0 (Stand.of_body B)
    exact ⟨t, o, a1, b1, b2, ⟨b3.1, b3.2⟩⟩
theorem am_setm {w : am_W} {a : Nat} {c c' : am_C} (h : w[a]? = some c) (hl : c'.2.length = c.2.length) : w.length ≤ (w.set a c').length ∧ am_sz w ≤ am_sz (w.set a c') :=
  ⟨by simp, Nat.le_of_eq (am_sz_set h hl).symm⟩
theorem am_appm (w : am_W) (c : am_C) : w.length ≤ (w ++ [c]).length ∧ am_sz w ≤ am_sz (w ++ [c]) := ⟨by simp, by rw [am_sz_app]; omega⟩
theorem am_rfm (w : am_W) : w.length ≤ w.length ∧ am_sz w ≤ am_sz w := ⟨Nat.le_refl _, Nat.le_refl _⟩
set_option maxHeartbeats 4000000 in
theorem am_hp_mono {c : Nat} {ini : Bool} {d : Nat} {i : Instr} {st st' : List Value} {w w' : am_W} (h : am_hp c ini d i st w = some (st', w')) : w.length ≤ w'.length ∧ am_sz w ≤ am_sz w' := by
  cases i with
  | invokestatic idx =>
    simp only [am_hp] at h
    repeat' (split at h)
    all_goals first
      | (cases h; done)
      | skip
    next hcond =>
      cases h
      obtain ⟨k1, k2, k3, k4, k5, k6, k7⟩ := hcond
      refine am_setm (am_at_some (by assumption)) ?_
      simp only [List.length_append, List.length_take, List.length_drop]
      omega
  | _ =>
    simp only [am_hp] at h
    repeat' (split at h)
    all_goals first
      | (cases h; done)
      | (cases h; exact am_rfm _)
      | (cases h; exact am_appm _ _)
      | (cases h; exact am_setm (am_at_some (by assumption)) (by simp))
      | (cases h; exact am_setm (by assumption) (by simp))
theorem am_one_mono {c : Nat} {ini : Bool} {d pc z : Nat} {i : Instr} {L L' : List (Option Value)} {st st' : List Value} {w w' : am_W} {pc' : Nat} (h : am_one c ini d pc i z L st w = some (pc', L', st', w')) : w.length ≤ w'.length ∧ am_sz w ≤ am_sz w' := by
  unfold am_one at h
  split at h
  · split at h
    · cases h; exact am_rfm _
    · cases h
  · split at h
    · split at h
      · cases h; exact am_rfm _
      · split at h
        · cases h; exact am_rfm _
        · split at h
          next hh => cases h; exact am_hp_mono hh
          next => cases h
    · cases h
theorem am_run_mono : ∀ (n : Nat) {d k pc : Nat} {L : List (Option Value)} {st : List Value} {w w' : am_W} {v : Option Value}, am_run n d k pc L st w = some (v, w') → w.length ≤ w'.length ∧ am_sz w ≤ am_sz w' := by
  intro n
  induction n with
  | zero => intro d k pc L st w w' v h; cases h
  | succ n ih =>
    intro d k pc L st w w' v h
    rw [am_run] at h
    split at h
    · split at h
      next h1 =>
        have a := am_one_mono h1
        have b := ih h
        omega
      · split at h
        · split at h
          · cases h; exact am_rfm _
          · cases h
        · split at h
          · split at h
            · cases h
            · split at h
              · split at h
                next h1 =>
                  have a := ih h1
                  have b := ih h
                  omega
                · cases h
              · cases h
          · split at h
            · split at h
              · exact ih h
              · cases h
            · cases h
    · cases h
/-- what an answer and a world are behind a method -/
def am_Q (D : va_G) (dA : Nat → ClassId) (B : Nat) (sa : Nat → Nat) (v : Option Value) (w : am_W) : Array Value → State → Outcome → State → Prop := fun _ s o t =>
  o = .returned (v.map (am_sh B sa)) ∧ va_P D vwCl (am_rz dA B sa 0 w) t.heap ∧ t.heap.size = B + w.length ∧ va_F (fun q => B ≤ q) s t
def am_rm (d mc ms : Nat) : Room := { frames := d, cells := mc, slots := ms, locals := 35 * d }
/-- what holds of a method's frame -/
def am_Fx (p : Program) (R : Room) (s : State) (m : MethodId) (args : Array Value) (meth : Method) (c : Code) (k d : Nat) : Prop :=
  p.tables.exec = Jvm.exec ∧ c.code = am_code k ∧ meth.sig.returnType = am_rt k ∧ c.maxLocals = am_mx k ∧ s.vm.findClass (am_R (am_kl k)) = some m.cls ∧ meth.locks = false ∧ meth.name = (am_y k).name ∧ (∀ w ∈ am_gw, w.before args s = true) ∧ d ≤ R.frames ∧ 35 * d ≤ R.locals
/-- X is of the tables and of what lies below B -/
def am_XM (B : Nat) (X : State → Prop) : Prop := ∀ s U : State, s.WarmedH U.vm → s.heap.size ≤ U.heap.size → (∀ q : Nat, q < s.heap.size → ¬ B ≤ q → U.heap[q]? = s.heap[q]?) → X s → X U
/-- the String constants' own members are sound -/
def am_XE (l : Launch) (D : va_G) (dA : Nat → ClassId) (B : Nat) (sa : Nat → Nat) (X : State → Prop) : Prop :=
  ∀ (p : Program) (e : Env) (R : Room) (s : State) (m : MethodId) (args : Array Value) (below : List Frame) (meth : Method) (c : Code) (H : Heap) (locs : List Loc) (cells slots : Nat) (Q : State → Prop) (pc : Nat) (ls : Array Slot) (k d : Nat) (i : Instr) (st st' : List Value),
    am_Fx p R s m args meth c k d → ls.size = am_mx k → am_Kx D dA sa s → X s → va_S (fun q => B ≤ q) s.heap H locs → B ≤ s.heap.size → cells ≤ R.cells → slots ≤ R.slots → am_xe (am_kl k) d i st = some st' → decode (am_code k) pc = .ok (i, 3) →
    W p l e R s m args below meth c H locs cells slots Q (F0 m (pc + 3) ls (st'.map (am_sh B sa))) → W p l e R s m args below meth c H locs cells slots Q (F0 m pc ls (st.map (am_sh B sa)))
theorem am_okM_of {k : Nat} (hk : k < am_N) : am_wd (am_m k).2.2.2.2.2 = some (.code (am_y k) (am_code k) (am_mx k) (am_rt k)) ∧ (am_y k).cls = am_R (am_kl k) ∧ am_wd (am_ini (am_kl k)) = some (.initialized (am_R (am_kl k))) ∧ plainFor (am_y k) = true ∧ ((am_y k).cls ≠ "java/lang/invoke/MethodHandle" ∧ (am_y k).cls ≠ "java/lang/invoke/VarHandle") ∧ am_mx k ≤ 16 ∧ 0 < am_mx k := by
  have h1 := List.all_eq_true.mp am_okM_all k (List.mem_range.mpr hk)
  simp only [am_okM, Bool.and_eq_true, decide_eq_true_eq] at h1
  obtain ⟨⟨⟨⟨⟨⟨⟨h2, h3⟩, h4⟩, h5⟩, h6⟩, h7⟩, h8⟩, h9⟩ := h1
  exact ⟨am_okC k hk, h2, h3, am_pl h4, ⟨h5, h6⟩, h8, h9⟩
theorem am_is_of {c idx : Nat} {q : Nat × Nat × Nat × Nat × Nat × Nat} (h : am_lk am_is c idx = some q) :
    (q.1 < 3 → am_wd q.2.2.2.1 = some (.methodLink (am_R c) idx (am_y q.2.1))) ∧ (q.1 = 0 ∨ q.1 = 4 → am_wd q.2.2.2.2.1 = some (.static (am_y q.2.1))) ∧ (¬ (q.1 = 0 ∨ q.1 = 4) → am_wd q.2.2.2.2.1 = some (.instanceMethod (am_y q.2.1))) ∧ (q.1 = 1 → am_wd q.2.2.2.2.2 = some (.selects (am_y q.2.1).cls (am_y q.2.1) (am_y q.2.1))) ∧ (q.1 = 2 ∨ q.1 = 3 → (am_y q.2.1).name = "<init>" ∧ am_rt q.2.1 = none) ∧ q.2.1 < am_N ∧ (parseMethodDescriptor (am_y q.2.1).desc).map (fun d => d.parameters.length) = some q.2.2.1 := by
  have h1 := List.all_eq_true.mp am_okI_all _ (am_lk_mem h)
  simp only [am_okI, Bool.and_eq_true, decide_eq_true_eq] at h1
  obtain ⟨⟨⟨⟨⟨⟨h2, h3⟩, h4⟩, h5⟩, h6⟩, h7⟩, h8⟩ := h1
  refine ⟨fun q => ?_, fun q => ?_, fun q => ?_, fun q => ?_, fun q => ?_, h6, h7⟩
  · rw [if_pos q] at h2; exact of_decide_eq_true h2
  · rw [if_pos q] at h3; exact of_decide_eq_true h3
  · rw [if_neg q] at h3; exact of_decide_eq_true h3
  · rw [if_pos q] at h4; exact of_decide_eq_true h4
  · rw [if_pos q, Bool.and_eq_true] at h5; exact ⟨of_decide_eq_true h5.1, of_decide_eq_true h5.2⟩
section AMR
variable {p : Program} {l : Launch} {e : Env} {R : Room} {s : State} {m : MethodId} {args : Array Value} {below : List Frame} {meth : Method} {c : Code} {H : Heap} {locs : List Loc} {cells slots : Nat} {Q : State → Prop}
variable {pc : Nat} {ls : Array Slot} {D : va_G} {dA : Nat → ClassId} {B : Nat} {sa : Nat → Nat}
theorem am_lo_ok {cc : ByteArray} (hx : p.tables.exec = Jvm.exec) (hb : c.code = cc) {nL : Nat} {i : Instr} {z : Nat} {L L' : List (Option Value)} {st st' : List Value} (h : am_lo i L st = some (L', st')) (hd : decode cc pc = .ok (i, z)) (hz : am_ln i = z) (hl : am_Lh B sa nL L ls)
    (kk : ∀ ls' : Array Slot, am_Lh B sa nL L' ls' → W p l e R s m args below meth c H locs cells slots Q (F0 m (pc + z) ls' (st'.map (am_sh B sa)))) : W p l e R s m args below meth c H locs cells slots Q (F0 m pc ls (st.map (am_sh B sa))) := by
  subst hz
  have keep1 : ∀ {j : Nat} {v : Value} {ls' : Array Slot}, j < L.length → lv_has ls' nL ((j, am_sh B sa v) :: (am_as B sa 0 L).filter (fun q => !(q.1 == j) && !(q.1 + 1 == j && q.2.category == 2))) → am_Lh B sa nL (am_s1 L j v) ls' :=
    fun hj h1 => ⟨by rw [am_s1_len]; exact hl.1, lv_weak h1 (am_s1_in hj)⟩
  have keep2 : ∀ {j : Nat} {v : Value} {ls' : Array Slot}, j + 1 < L.length → lv_has ls' nL ((j, am_sh B sa v) :: (am_as B sa 0 L).filter (fun q => !(q.1 == j) && (!(q.1 == j + 1) && !(q.1 + 1 == j && q.2.category == 2)))) → am_Lh B sa nL (am_s2 L j v) ls' :=
    fun hj h1 => ⟨by rw [am_s2_len]; exact hl.1, lv_weak h1 (am_s2_in hj)⟩
  cases i with
  | iload j =>
    simp only [am_lo, am_ldi] at h
    split at h
    next x hx2 => cases h; exact lv_iload hx hb hd (am_ld_at hl hx2) (kk ls hl)
    next => cases h
  | iload_n j =>
    simp only [am_lo, am_ldi] at h
    split at h
    next x hx2 => cases h; exact lv_iload_n hx hb hd rfl (am_ld_at hl hx2) (kk ls hl)
    next => cases h
  | lload j =>
    simp only [am_lo, am_ldl] at h
    split at h
    next x hx2 => cases h; exact lv_lload hx hb hd (am_ld_at hl hx2) (kk ls hl)
    next => cases h
  | lload_n j =>
    simp only [am_lo, am_ldl] at h
    split at h
    next x hx2 => cases h; exact lv_lload_n hx hb hd rfl (am_ld_at hl hx2) (kk ls hl)
    next => cases h
  | aload j =>
    simp only [am_lo, am_lda] at h
    split at h
    next x hx2 => cases h; exact lv_aload hx hb hd (am_ld_at hl hx2) (kk ls hl)
    next x hx2 => cases h; exact lv_aload hx hb hd (am_ld_at hl hx2) (kk ls hl)
    next => cases h
  | aload_n j =>
    simp only [am_lo, am_lda] at h
    split at h
    next x hx2 => cases h; exact lv_aload_n hx hb hd rfl (am_ld_at hl hx2) (kk ls hl)
    next x hx2 => cases h; exact lv_aload_n hx hb hd rfl (am_ld_at hl hx2) (kk ls hl)
    next => cases h
  | istore j =>
    simp only [am_lo, am_sti] at h
    split at h
    next x r =>
      split at h
      next hj => cases h; exact lv_istore hx hb hd hl.2 (by rw [← hl.1]; exact hj) rfl fun ls' h1 => kk ls' (keep1 (v := .int x) hj h1)
      next => cases h
    next => cases h
  | istore_n j =>
    simp only [am_lo, am_sti] at h
    split at h
    next x r =>
      split at h
      next hj => cases h; exact lv_istore_n hx hb hd rfl hl.2 (by rw [← hl.1]; exact hj) rfl fun ls' h1 => kk ls' (keep1 (v := .int x) hj h1)
      next => cases h
    next => cases h
  | lstore j =>
    simp only [am_lo, am_stl] at h
    split at h
    next x r =>
      split at h
      next hj => cases h; exact lv_lstore hx hb hd hl.2 (by rw [← hl.1]; exact hj) rfl fun ls' h1 => kk ls' (keep2 (v := .long x) hj h1)
      next => cases h
    next => cases h
  | lstore_n j =>
    simp only [am_lo, am_stl] at h
    split at h
    next x r =>
      split at h
      next hj => cases h; exact lv_lstore_n hx hb hd rfl hl.2 (by rw [← hl.1]; exact hj) rfl fun ls' h1 => kk ls' (keep2 (v := .long x) hj h1)
      next => cases h
    next => cases h
  | astore_n j =>
    simp only [am_lo, am_sta] at h
    split at h
    next x r =>
      split at h
      next hj => cases h; exact lv_astore_n hx hb hd rfl hl.2 (by rw [← hl.1]; exact hj) rfl fun ls' h1 => kk ls' (keep1 (v := .ref x) hj h1)
      next => cases h
    next => cases h
  | iinc j n =>
    simp only [am_lo] at h
    split at h
    next x hx2 =>
      split at h
      next hj =>
        cases h
        obtain ⟨q, hq⟩ := List.getElem?_of_mem (am_in (B := B) (sa := sa) hx2)
        exact lv_iinc hx hb hd hl.2 hq rfl (by rw [← hl.1]; exact hj) rfl fun ls' h1 => kk ls' (keep1 (v := .int (x + Int32.ofInt n)) hj h1)
      next => cases h
    next => cases h
  | _ => cases (show none = some (L', st') from h)
theorem am_call {y : Nat} {mc ms : Nat} {st0 r : List Value} {free : Addr → Prop} {Qa : State → Outcome → State → Prop} (hr : va_Run p l e R s m args below meth c H locs cells slots mc ms (F0 m pc ls st0) r Qa free)
    (kk : ∀ (v : Option Value) (st t : State) (L : List Loc), st.heap = H → (∀ q ∈ L, free q.base) → Qa st (.returned v) t → W p l e R s m args below meth c t.heap (locs ++ L) (cells + mc) (slots + ms) Q (F0 m (pc + 3) ls (v.toList ++ r))) : W p l e R s m args below meth c H locs cells slots Q (F0 m pc ls st0) := by
  intro T hT X
  obtain ⟨v, st₀, t, T', L, h0, X', hL, e1, e2, hq, st⟩ := hr T hT X
  obtain ⟨t2, a1, b1⟩ := kk v st₀ t L h0 hL hq T' e1 X'
  exact ⟨t2, st t2 a1, b1⟩
set_option maxHeartbeats 3000000 in
/-- a call of k', by its contract -/
theorem am_ca_ok {k d' : Nat} (F : am_Fx p R s m args meth c k (d' + 1)) (hK : am_Kx D dA sa s) {i : Instr} {st as r : List Value} {w : am_W} {k' : Nat} (h : am_ca (am_kl k) i st w = some (k', as, r)) (hd : decode (am_code k) pc = .ok (i, 3)) (hsz : ls.size = am_mx k)
    {mc ms : Nat} {Pc : Array Value → State → Prop} {Qc : Array Value → State → Outcome → State → Prop} {free : Addr → Prop} (hM : Met l (am_y k') (.code (am_y k') (am_code k') (am_mx k') (am_rt k') :: am_gw) (am_rm d' mc ms) Pc Qc mc ms free)
    (hbl : FrameBlind Pc) (hPc : ∀ U : State, U.heap = H → s.WarmedH U.vm → Pc (as.map (am_sh B sa)).toArray U) (hP : va_P D vwCl (am_rz dA B sa 0 w) H) (hf : cells + mc ≤ R.cells ∧ slots + ms ≤ R.slots) :
    va_Run p l e R s m args below meth c H locs cells slots mc ms (F0 m pc ls (st.map (am_sh B sa))) (r.map (am_sh B sa)) (Qc (as.map (am_sh B sa)).toArray) free := by
  obtain ⟨hx, hb, hrt, hml, hown, hlk, hnm, hts, hfr, hlo⟩ := F
  have base : ∀ {q : Nat × Nat × Nat × Nat × Nat × Nat} {idx : Nat}, am_lk am_is (am_kl k) idx = some q → q.2.1 = k' → ((am_rm d' mc ms).cells = mc ∧ (am_rm d' mc ms).slots = ms ∧ (am_rm d' mc ms).frames + 1 ≤ R.frames ∧ 8 + (am_mx k' + 11) + (am_rm d' mc ms).locals ≤ R.locals ∧ (∀ w ∈ (Cond.code (am_y k') (am_code k') (am_mx k') (am_rt k') :: am_gw), ∀ (a' : Array Value) (U : State), s.WarmedH U.vm → w.before a' U = true) ∧ Cond.code (am_y k') (am_code k') (am_mx k') (am_rt k') ∈ (Cond.code (am_y k') (am_code k') (am_mx k') (am_rt k') :: am_gw)) ∧
      (Cond.code (am_y k') (am_code k') (am_mx k') (am_rt k')).before args s = true ∧ (Cond.initialized (am_y k').cls).before args s = true ∧ ((am_y k').cls ≠ "java/lang/invoke/MethodHandle" ∧ (am_y k').cls ≠ "java/lang/invoke/VarHandle") ∧ (∀ sig, parseMethodDescriptor (am_y k').desc = some sig → q.2.2.1 = sig.parameters.length) := by
    intro q idx hq hk
    obtain ⟨-, -, -, -, -, hk2, har⟩ := am_is_of hq
    rw [hk] at hk2 har
    obtain ⟨h1, h2, h3, -, h5, h6, -⟩ := am_okM_of hk2
    have hcode := am_gw_in h1 rfl
    refine ⟨⟨rfl, rfl, hfr, by show 8 + (am_mx k' + 11) + 35 * d' ≤ R.locals; omega, pay_in hts fun w hw => ?_, List.mem_cons_self⟩, hts _ hcode, hts _ (by rw [h2]; exact am_gw_in h3 rfl), h5, fun sig h => ?_⟩
    · rcases List.mem_cons.mp hw with rfl | hw
      · exact ⟨hcode, good_of_word rfl⟩
      · exact ⟨hw, good_of_word (List.mem_filter.mp hw).2⟩
    · rw [h] at har
      exact (Option.some.inj har).symm
  have lr : ∀ {r : List Value}, r.length ≤ 4 → ∀ st0 : List Value, 2 * (F0 m pc ls st0).monitorRoom + ((r.map (am_sh B sa)).map fun v => v.category).sum ≤ 8 := fun {r} hr st0 => lv_room (by have := am_sum4 (B := B) (sa := sa) r; omega)
  have S : CallFix p m c (am_code k) (am_mx k) s args am_gw (am_R (am_kl k)) := ⟨hx, hb, hml, hown, hts⟩
  cases i with
  | invokestatic idx =>
    simp only [am_ca] at h
    split at h
    next q hq =>
      split at h
      next hc =>
        cases h
        obtain ⟨hkind, hn, hr⟩ := hc
        obtain ⟨w1, w2, -, -, -, -, -⟩ := am_is_of hq
        obtain ⟨b1, b2, b3, b4, b5⟩ := base hq rfl
        have hst : st.map (am_sh B sa) = ((st.take q.2.2.1).reverse.map (am_sh B sa)).reverse ++ (st.drop q.2.2.1).map (am_sh B sa) := by
          rw [List.map_reverse, List.reverse_reverse, ← List.map_append, List.take_append_drop]
        have hlen : ((st.take q.2.2.1).reverse.map (am_sh B sa)).length = q.2.2.1 := by simp; omega
        rcases hkind with hk | hk
        · exact va_runS S hM ⟨⟨b1.1, b1.2.1, b1.2.2.1, b1.2.2.2.1, b1.2.2.2.2.1, b1.2.2.2.2.2, b2, b3, b4, b5, hts _ (am_gw_in (w1 (by omega)) rfl)⟩, hts _ (am_gw_in (w2 (Or.inl hk)) rfl)⟩ ⟨hbl, hPc⟩ rfl hlen hsz hst (lr hr _) hd hf
        · have h3 : 3 ≤ q.1 := by omega
          have hN : va_Nw (.methodLinkNest (am_R (am_kl k)) idx (am_y q.2.1) RX8) s := hK.2.1 (am_kl k, idx, q) (am_lk_mem hq) h3
          have hN2 : (Cond.methodLinkNest (am_R (am_kl k)) idx (am_y q.2.1) RX8).before args s = true := va_Nw.use rfl hN
          exact va_runSN (host := RX8) S hM ⟨⟨b1, b2, b3, b4, b5, hN2⟩, hts _ (am_gw_in (w2 (Or.inr hk)) rfl), trivial⟩ ⟨hbl, hPc⟩ rfl hlen hsz hst (lr hr _) hd hf
      next => cases h
    next => cases h
  | invokespecial idx =>
    simp only [am_ca] at h
    split at h
    next q hq =>
      split at h
      next hc =>
        split at h
        next a r' hdrop =>
          cases h
          obtain ⟨hkind, hn, hr⟩ := hc
          obtain ⟨w1, -, w3, -, w5, -, -⟩ := am_is_of hq
          obtain ⟨b1, b2, b3, b4, b5⟩ := base hq rfl
          obtain ⟨n1, n2⟩ := w5 hkind
          have hr2 : r.length ≤ 4 := by
            have e := congrArg List.length hdrop
            rw [List.length_drop] at hr e
            simp at e
            omega
          have hst : st.map (am_sh B sa) = ((st.take q.2.2.1).reverse.map (am_sh B sa)).reverse ++ .ref (B + a) :: r.map (am_sh B sa) := by
            rw [List.map_reverse, List.reverse_reverse]
            have e : st.map (am_sh B sa) = (st.take q.2.2.1 ++ st.drop q.2.2.1).map (am_sh B sa) := by rw [List.take_append_drop]
            rw [e, hdrop, List.map_append]; rfl
          have hlen : ((st.take q.2.2.1).reverse.map (am_sh B sa)).length = q.2.2.1 := by simp; omega
          have hi := hts _ (am_gw_in (w3 (by omega)) rfl)
          rw [n2] at b1 b2 hM
          rcases hkind with hk | hk
          · exact va_runI (b := B + a) S hM ⟨⟨b1.1, b1.2.1, b1.2.2.1, b1.2.2.2.1, b1.2.2.2.2.1, b1.2.2.2.2.2, b2, b3, b4, b5, hts _ (am_gw_in (w1 (by omega)) rfl)⟩, n1, hi⟩ ⟨hbl, hPc⟩ rfl hlen hsz hst (lr hr2 _) hd hf
          · have h3 : 3 ≤ q.1 := by omega
            have hN : va_Nw (.methodLinkNest (am_R (am_kl k)) idx (am_y q.2.1) RX8) s := hK.2.1 (am_kl k, idx, q) (am_lk_mem hq) h3
            have hN2 : (Cond.methodLinkNest (am_R (am_kl k)) idx (am_y q.2.1) RX8).before args s = true := va_Nw.use rfl hN
            exact va_runIN (host := RX8) (b := B + a) S hM ⟨⟨b1, b2, b3, b4, b5, hN2⟩, n1, hi⟩ ⟨hbl, hPc⟩ rfl hlen hsz hst (lr hr2 _) hd hf
        next => cases h
      next => cases h
    next => cases h
  | invokevirtual idx =>
    simp only [am_ca] at h
    split at h
    next q hq =>
      split at h
      next hc =>
        split at h
        next a r' hdrop =>
          split at h
          next x hw =>
            split at h
            next ht =>
              cases h
              obtain ⟨hkind, hn, hr⟩ := hc
              obtain ⟨t, vs⟩ := x
              obtain ⟨ht1, ht2⟩ := ht
              simp only at ht1 ht2
              obtain ⟨w1, -, w3, w4, -, hkN, -⟩ := am_is_of hq
              obtain ⟨b1, b2, b3, b4, b5⟩ := base hq rfl
              have hr2 : r.length ≤ 4 := by
                have e := congrArg List.length hdrop
                rw [List.length_drop] at hr e
                simp at e
                omega
              have hst : st.map (am_sh B sa) = ((st.take q.2.2.1).reverse.map (am_sh B sa)).reverse ++ .ref (B + a) :: r.map (am_sh B sa) := by
                rw [List.map_reverse, List.reverse_reverse]
                have e : st.map (am_sh B sa) = (st.take q.2.2.1 ++ st.drop q.2.2.1).map (am_sh B sa) := by rw [List.take_append_drop]
                rw [e, hdrop, List.map_append]; rfl
              have hlen : ((st.take q.2.2.1).reverse.map (am_sh B sa)).length = q.2.2.1 := by simp; omega
              have he := am_get dA (B := B) (sa := sa) hw
              rw [am_E_obj ht1] at he
              have hC : (am_k t).2.1 = (am_y q.2.1).cls := by rw [(am_ks_of ht1).1, ht2, (am_okM_of hkN).2.1]
              have hrec := va_recv hK.1 hP (am_ks_cl _ ht1) he
              exact va_runV (b := B + a) (C := (am_y q.2.1).cls) S hM ⟨⟨b1.1, b1.2.1, b1.2.2.1, b1.2.2.2.1, b1.2.2.2.2.1, b1.2.2.2.2.2, b2, b3, b4, b5, hts _ (am_gw_in (w1 (by omega)) rfl)⟩, hts _ (am_gw_in (w3 (by omega)) rfl), hts _ (am_gw_in (w4 hkind) rfl)⟩ ⟨hbl, by rw [← hC]; exact hrec, hPc⟩ rfl hlen hsz hst (lr hr2 _) hd hf
            next => cases h
          next => cases h
        next => cases h
      next => cases h
    next => cases h
  | _ => cases (show none = some (k', as, r) from h)
theorem am_one_ok {k d : Nat} (F : am_Fx p R s m args meth c k d) (hK : am_Kx D dA sa s) {i : Instr} {z pc' : Nat} {L L' : List (Option Value)} {st st' : List Value} {w w' : am_W} (h : am_one (am_kl k) (decide ((am_y k).name = "<init>")) d pc i z L st w = some (pc', L', st', w')) (hd : decode (am_code k) pc = .ok (i, z))
    (hl : am_Lh B sa (am_mx k) L ls) (hP : va_P D vwCl (am_rz dA B sa 0 w) H) (hS : va_S (fun q => B ≤ q) s.heap H locs) (hB : B ≤ s.heap.size) (hc : s.heap.size + cells = B + w.length) {z0 : Nat} (hs : z0 + slots = am_sz w) (hcr : B + w'.length ≤ s.heap.size + R.cells) (hsr : am_sz w' ≤ z0 + R.slots)
    (kk : ∀ (H' : Heap) (locs' : List Loc) (cells' slots' : Nat) (ls' : Array Slot), am_Lh B sa (am_mx k) L' ls' → va_P D vwCl (am_rz dA B sa 0 w') H' → va_S (fun q => B ≤ q) s.heap H' locs' → s.heap.size + cells' = B + w'.length → z0 + slots' = am_sz w' → W p l e R s m args below meth c H' locs' cells' slots' Q (F0 m pc' ls' (st'.map (am_sh B sa)))) :
    W p l e R s m args below meth c H locs cells slots Q (F0 m pc ls (st.map (am_sh B sa))) := by
  obtain ⟨hx, hb, hrt, hml, hown, hlk, hnm, hts, hfr, hlo⟩ := F
  unfold am_one at h
  split at h
  next t st2 h1 =>
    split at h
    next hz =>
      cases h
      refine am_br_ok hx hb h1 hd ?_ (kk H locs cells slots ls hl hP hS hc hs)
      rintro (⟨o, rfl⟩ | ⟨a, o, rfl⟩ | ⟨a, o, rfl⟩)
      · exact (of_decide_eq_true hz).symm
      · exact (of_decide_eq_true hz).symm
      · exact (of_decide_eq_true hz).symm
    next => cases h
  next =>
    split at h
    next hz =>
      split at h
      next st2 h1 => cases h; exact am_stk_ok hx hb h1 hd hz (kk H locs cells slots ls hl hP hS hc hs)
      next =>
        split at h
        next L2 st2 h1 => cases h; exact am_lo_ok hx hb h1 hd hz hl fun ls' hl' => kk H locs cells slots ls' hl' hP hS hc hs
        next =>
          split at h
          next st2 w2 h1 => cases h; exact am_hp_ok hx hb (by rw [hml, hl.2.1]) hown hts hK (fun q => by rw [hnm]; exact of_decide_eq_true q) hfr hlo h1 hd hz hP hS hB hc hs hcr hsr fun H' locs' cells' slots' a1 a2 a3 a4 => kk H' locs' cells' slots' ls hl a1 a2 a3 a4
          next => cases h
    next => cases h
/-- the contract of a method, out of the soundness of its run -/
def am_Pc (D : va_G) (dA : Nat → ClassId) (B : Nat) (sa : Nat → Nat) (X : State → Prop) (as : List Value) (w : am_W) : Array Value → State → Prop :=
  va_Pc (as.map (am_sh B sa)) (fun U => am_Kx D dA sa U ∧ X U ∧ va_P D vwCl (am_rz dA B sa 0 w) U.heap ∧ U.heap.size = B + w.length)
def am_Ok (l : Launch) (D : va_G) (dA : Nat → ClassId) (B : Nat) (sa : Nat → Nat) (X : State → Prop) (n : Nat) : Prop :=
  ∀ (d k pc : Nat) (L : List (Option Value)) (st : List Value) (w w' : am_W) (v : Option Value), am_run n d k pc L st w = some (v, w') → k < am_N →
  ∀ (p : Program) (e : Env) (R : Room) (s : State) (m : MethodId) (args : Array Value) (below : List Frame) (meth : Method) (c : Code) (H : Heap) (locs : List Loc) (cells slots mc ms z0 : Nat) (ls : Array Slot),
    am_Fx p R s m args meth c k d → am_Kx D dA sa s → X s → am_Lh B sa (am_mx k) L ls → va_P D vwCl (am_rz dA B sa 0 w) H → va_S (fun q => B ≤ q) s.heap H locs → B ≤ s.heap.size → s.heap.size + cells = B + w.length → z0 + slots = am_sz w → s.heap.size + mc = B + w'.length → z0 + ms = am_sz w' → mc ≤ R.cells → ms ≤ R.slots →
    W p l e R s m args below meth c H locs cells slots (MQ below (am_Q D dA B sa v w') args s mc ms (fun q => B ≤ q)) (F0 m pc ls (st.map (am_sh B sa)))
theorem am_met {X : State → Prop} {n d k mc ms : Nat} (hn : am_Ok l D dA B sa X n) (hk : k < am_N) {as : List Value} {w w' : am_W} {v : Option Value} (he : (am_en as).length ≤ am_mx k) (h : am_run n d k 0 (am_en as ++ List.replicate (am_mx k - (am_en as).length) none) [] w = some (v, w')) (hmc : w.length + mc = w'.length) (hms : am_sz w + ms = am_sz w') :
    Met l (am_y k) (.code (am_y k) (am_code k) (am_mx k) (am_rt k) :: am_gw) (am_rm d mc ms) (am_Pc D dA B sa X as w) (am_Q D dA B sa v w') mc ms (fun q => B ≤ q) := by
  obtain ⟨h1, h2, h3, h4, h5, h6, -⟩ := am_okM_of hk
  refine am_ofW h4 rfl ?_
  intro p e s m args below meth c s₁ Bd hml hv
  obtain ⟨rfl, hK, hX, hP, hsz⟩ := hv
  have hts := atoms_spec (ws := .code (am_y k) (am_code k) (am_mx k) (am_rt k) :: am_gw) Bd.pre
  have hl := lv_entry (as.map (am_sh B sa)) (n := am_mx k) (by rw [am_en_len]; exact he)
  rw [lg_entry_eq]
  have hL : am_Lh B sa (am_mx k) (am_en as ++ List.replicate (am_mx k - (am_en as).length) none) ((lg_sl (as.map (am_sh B sa)) ++ List.replicate (am_mx k - (lg_sl (as.map (am_sh B sa))).length) Slot.unset).toArray) :=
    ⟨by rw [List.length_append, List.length_replicate]; omega, lv_weak hl (am_en_in as _ 0)⟩
  exact hn d k 0 _ [] w w' v h hk p e _ s m _ below meth c s.heap [] 0 0 mc ms (am_sz w) _ ⟨Bd.exec, Bd.bytes, Bd.returns, hml, by rw [← h2]; exact findClass_of_methodNamed Bd.named, Bd.notSynchronized, (name_of_methodNamed Bd.named Bd.method).1, fun w hw => hts w (List.mem_cons_of_mem _ hw), Nat.le_refl _, Nat.le_refl _⟩ hK hX hL hP va_S.rf (by omega) (by omega) rfl (by omega) hms (Nat.le_refl _) (Nat.le_refl _)
theorem am_blind {X : State → Prop} (hX : am_XM B X) {as : List Value} {w : am_W} : FrameBlind (am_Pc D dA B sa X as w) := by
  rintro a U g mk ⟨h1, hK, hx, hP, hsz⟩
  have hW : U.WarmedH (U.calling g mk a).vm := State.WarmedH.refl U
  exact ⟨h1, hK.warm hW, hX U (U.calling g mk a) hW (Nat.le_refl _) (fun _ _ _ => rfl) hx, hP, hsz⟩
set_option maxHeartbeats 4000000 in
theorem am_run_ok (l : Launch) {X : State → Prop} (hX : am_XM B X) (hxe : am_XE l D dA B sa X) : ∀ n : Nat, am_Ok l D dA B sa X n := by
  intro n
  induction n with
  | zero => intro d k pc L st w w' v h; cases h
  | succ n ih =>
    intro d k pc L st w w' v h hk p e R s m args below meth c H locs cells slots mc ms z0 ls F hK hXs hl hP hS hB hc hs hmc hms hcr hsr
    have F' := F
    obtain ⟨hx, hb, hrt, hml, hown, hlk, hnm, hts, hfr, hlo⟩ := F'
    rw [am_run] at h
    split at h
    next i z hd =>
      split at h
      next pc' L' st' w1 h1 =>
        have hm := am_run_mono n h
        exact am_one_ok F hK h1 hd hl hP hS hB hc hs (by omega) (by omega) fun H' locs' cells' slots' ls' a1 a2 a3 a4 a5 => ih d k pc' L' st' w1 w' v h hk p e R s m args below meth c H' locs' cells' slots' mc ms z0 ls' F hK hXs a1 a2 a3 hB a4 a5 hmc hms hcr hsr
      next =>
        split at h
        next v1 h1 =>
          split at h
          next hz =>
            cases h
            subst hz
            refine am_szW fun hle => ?_
            have hsz := am_size hP hS hB hc hle
            have e1 : cells = mc := by omega
            have e2 : slots = ms := by omega
            subst e1; subst e2
            unfold am_re at h1
            split at h1
            · split at h1
              · split at h1
                next hr => cases h1; exact W.vret hx hb (hrt.trans hr) (fun t ht hW => ⟨rfl, by rw [ht]; exact hP, by rw [ht]; exact hsz, hS.F ht⟩) hS.2.2 hd hlk
                next => cases h1
              · cases h1
            · split at h1
              · split at h1
                next hr =>
                  cases h1
                  rcases hr with hr | ⟨hr, hv⟩
                  · exact W.iret hx hb (hrt.trans hr) (fun t ht hW => ⟨rfl, by rw [ht]; exact hP, by rw [ht]; exact hsz, hS.F ht⟩) hS.2.2 hd hlk
                  · exact W.zret hx hb (hrt.trans hr) (by rcases hv with rfl | rfl <;> decide) (fun t ht hW => ⟨rfl, by rw [ht]; exact hP, by rw [ht]; exact hsz, hS.F ht⟩) hS.2.2 hd hlk
                next => cases h1
              · cases h1
            · split at h1
              · split at h1
                next hr => cases h1; exact W.lret hx hb (hrt.trans hr) (fun t ht hW => ⟨rfl, by rw [ht]; exact hP, by rw [ht]; exact hsz, hS.F ht⟩) hS.2.2 hd hlk
                next => cases h1
              · cases h1
            · cases h1
          next => cases h
        next =>
          split at h
          next k' as r h1 =>
            cases d with
            | zero => cases h
            | succ d' =>
              simp only at h
              split at h
              next hz =>
                obtain ⟨rfl, hen, hk'⟩ := hz
                split at h
                next v1 w1 h2 =>
                  have hm1 := am_run_mono n h2
                  have hm2 := am_run_mono n h
                  obtain ⟨mc1, hmc1⟩ : ∃ z, w.length + z = w1.length := ⟨w1.length - w.length, by omega⟩
                  obtain ⟨ms1, hms1⟩ : ∃ z, am_sz w + z = am_sz w1 := ⟨am_sz w1 - am_sz w, by omega⟩
                  refine am_szW fun hle => ?_
                  have hsz := am_size hP hS hB hc hle
                  refine am_call (y := 0) (am_ca_ok F hK h1 hd hl.2.1 (am_met ih hk' hen h2 hmc1 hms1) (am_blind hX) (fun U hU hW => ⟨rfl, hK.warm hW, hX s U hW (by rw [hU]; exact hS.1) (fun q q1 q2 => by rw [hU]; exact hS.2.1 q q1 q2) hXs, by rw [hU]; exact hP, by rw [hU]; exact hsz⟩) hP ⟨by omega, by omega⟩) fun v2 st0 t Lc e0 hLc hq => ?_
                  obtain ⟨q1, q2, q3, q4, q5⟩ := hq
                  cases q1
                  have hS2 : va_S (fun q => B ≤ q) s.heap t.heap (locs ++ Lc) := by
                    rw [e0] at q4 q5
                    exact ⟨Nat.le_trans hS.1 q4, fun q g1 g2 => (q5 q (Nat.lt_of_lt_of_le g1 hS.1) g2).trans (hS.2.1 q g1 g2), fun q hq => (List.mem_append.mp hq).elim (hS.2.2 q) (hLc q)⟩
                  have := ih (d' + 1) k (pc + 3) L (v1.toList ++ r) w1 w' v h hk p e R s m args below meth c t.heap (locs ++ Lc) (cells + mc1) (slots + ms1) mc ms z0 ls F hK hXs hl q2 hS2 hB (by omega) (by omega) hmc hms hcr hsr
                  cases v1 <;> exact this
                next => cases h
              next => cases h
          next =>
            split at h
            next st' h1 =>
              split at h
              next hz =>
                subst hz
                have hm := am_run_mono n h
                exact hxe p e R s m args below meth c H locs cells slots _ pc ls k d i st st' F hl.2.1 hK hXs hS hB (by omega) (by omega) h1 hd (ih d k (pc + 3) L st' w w' v h hk p e R s m args below meth c H locs cells slots mc ms z0 ls F hK hXs hl hP hS hB hc hs hmc hms hcr hsr)
              next => cases h
            next => cases h
    next => cases h
end AMR
