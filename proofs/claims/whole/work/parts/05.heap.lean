/-! locals and world: the abstract ones stand for the machine's -/
def am_as (B : Nat) (sa : Nat → Nat) : Nat → List (Option Value) → List (Nat × Value)
  | _, [] => []
  | i, some v :: t => (i, am_sh B sa v) :: am_as B sa (i + 1) t
  | i, none :: t => am_as B sa (i + 1) t
theorem am_as_mem {B : Nat} {sa : Nat → Nat} {q : Nat × Value} : ∀ {L : List (Option Value)} {i : Nat}, q ∈ am_as B sa i L ↔ ∃ k v, L[k]? = some (some v) ∧ q = (i + k, am_sh B sa v)
  | [], i => by simp [am_as]
  | none :: t, i => by
    rw [am_as, am_as_mem]
    constructor
    · rintro ⟨k, v, h1, h2⟩
      exact ⟨k + 1, v, by simpa using h1, by rw [h2]; congr 1; omega⟩
    · rintro ⟨k, v, h1, h2⟩
      cases k with
      | zero => simp at h1
      | succ k => exact ⟨k, v, by simpa using h1, by rw [h2]; congr 1; omega⟩
  | some u :: t, i => by
    rw [am_as, List.mem_cons, am_as_mem]
    constructor
    · rintro (h | ⟨k, v, h1, h2⟩)
      · exact ⟨0, u, by simp, by rw [h]; rfl⟩
      · exact ⟨k + 1, v, by simpa using h1, by rw [h2]; congr 1; omega⟩
    · rintro ⟨k, v, h1, h2⟩
      cases k with
      | zero => simp at h1; subst h1; exact Or.inl (by rw [h2]; rfl)
      | succ k => exact Or.inr ⟨k, v, by simpa using h1, by rw [h2]; congr 1; omega⟩
def am_Lh (B : Nat) (sa : Nat → Nat) (nL : Nat) (L : List (Option Value)) (ls : Array Slot) : Prop := L.length = nL ∧ lv_has ls nL (am_as B sa 0 L)
theorem am_ld_some {L : List (Option Value)} {j : Nat} {v : Value} (h : am_ld L j = some v) : L[j]? = some (some v) := by
  unfold am_ld at h
  cases hL : L[j]? with
  | none => rw [hL] at h; cases h
  | some o => rw [hL] at h; cases o with
    | none => cases h
    | some u => cases h; rfl
theorem am_in {B : Nat} {sa : Nat → Nat} {L : List (Option Value)} {j : Nat} {v : Value} (h : am_ld L j = some v) : (j, am_sh B sa v) ∈ am_as B sa 0 L :=
  am_as_mem.mpr ⟨j, v, am_ld_some h, by simp⟩
theorem am_ld_at {B : Nat} {sa : Nat → Nat} {nL : Nat} {L : List (Option Value)} {ls : Array Slot} {j : Nat} {v : Value} (hl : am_Lh B sa nL L ls) (h : am_ld L j = some v) : ls[j]? = some (.val (am_sh B sa v)) := hl.2.2.2 _ (am_in h)
theorem lv_weak {ls : Array Slot} {nL : Nat} {l l' : List (Nat × Value)} (h : lv_has ls nL l) (hs : ∀ q ∈ l', q ∈ l) : lv_has ls nL l' := ⟨h.1, h.2.1, fun q hq => h.2.2 q (hs q hq)⟩
theorem am_kill_len (L : List (Option Value)) (i : Nat) : (am_kill L i).length = L.length := by
  cases i with
  | zero => rfl
  | succ j =>
    simp only [am_kill]
    split
    · split
      · simp
      · rfl
    · rfl
theorem am_kill_get {L : List (Option Value)} {i k : Nat} {u : Value} (h : (am_kill L i)[k]? = some (some u)) : L[k]? = some (some u) ∧ ¬ (k + 1 = i ∧ u.category = 2) := by
  cases i with
  | zero => exact ⟨h, fun q => by omega⟩
  | succ j =>
    simp only [am_kill] at h
    split at h
    next v hv =>
      split at h
      next hc =>
        by_cases hk : k = j
        · subst hk
          rw [List.getElem?_set] at h
          simp at h
        · rw [List.getElem?_set_ne (Ne.symm hk)] at h
          exact ⟨h, fun q => hk (by omega)⟩
      next hc =>
        refine ⟨h, fun q => ?_⟩
        have hk : k = j := by omega
        subst hk
        have := am_ld_some hv
        rw [this] at h
        cases h
        exact hc q.2
    next hv =>
      refine ⟨h, fun q => ?_⟩
      have hk : k = j := by omega
      subst hk
      unfold am_ld at hv
      rw [h] at hv
      cases hv
theorem am_s1_in {B : Nat} {sa : Nat → Nat} {L : List (Option Value)} {i : Nat} {v : Value} (hi : i < L.length) : ∀ q ∈ am_as B sa 0 (am_s1 L i v), q ∈ (i, am_sh B sa v) :: (am_as B sa 0 L).filter (fun q => !(q.1 == i) && !(q.1 + 1 == i && q.2.category == 2)) := by
  intro q hq
  obtain ⟨k, u, h1, rfl⟩ := am_as_mem.mp hq
  rw [Nat.zero_add]
  unfold am_s1 at h1
  by_cases hk : k = i
  · subst hk
    rw [List.getElem?_set_self (by rw [am_kill_len]; exact hi)] at h1
    cases h1
    exact List.mem_cons_self
  · rw [List.getElem?_set_ne (Ne.symm hk)] at h1
    obtain ⟨h2, h3⟩ := am_kill_get h1
    refine List.mem_cons_of_mem _ (List.mem_filter.mpr ⟨am_as_mem.mpr ⟨k, u, h2, by simp⟩, ?_⟩)
    simp only [am_sh_cat]
    simp [hk]
    by_cases h4 : k + 1 = i
    · exact Or.inr fun h5 => h3 ⟨h4, h5⟩
    · exact Or.inl h4
theorem am_s2_in {B : Nat} {sa : Nat → Nat} {L : List (Option Value)} {i : Nat} {v : Value} (hi : i + 1 < L.length) : ∀ q ∈ am_as B sa 0 (am_s2 L i v), q ∈ (i, am_sh B sa v) :: (am_as B sa 0 L).filter (fun q => !(q.1 == i) && (!(q.1 == i + 1) && !(q.1 + 1 == i && q.2.category == 2))) := by
  intro q hq
  obtain ⟨k, u, h1, rfl⟩ := am_as_mem.mp hq
  rw [Nat.zero_add]
  unfold am_s2 at h1
  by_cases hk1 : k = i + 1
  · subst hk1
    rw [List.getElem?_set] at h1
    simp at h1
  · rw [List.getElem?_set_ne (Ne.symm hk1)] at h1
    by_cases hk : k = i
    · subst hk
      rw [List.getElem?_set_self (by rw [am_kill_len]; omega)] at h1
      cases h1
      exact List.mem_cons_self
    · rw [List.getElem?_set_ne (Ne.symm hk)] at h1
      obtain ⟨h2, h3⟩ := am_kill_get h1
      refine List.mem_cons_of_mem _ (List.mem_filter.mpr ⟨am_as_mem.mpr ⟨k, u, h2, by simp⟩, ?_⟩)
      simp only [am_sh_cat]
      simp [hk, hk1]
      by_cases h4 : k + 1 = i
      · exact Or.inr fun h5 => h3 ⟨h4, h5⟩
      · exact Or.inl h4
theorem am_s1_len (L : List (Option Value)) (i : Nat) (v : Value) : (am_s1 L i v).length = L.length := by simp [am_s1, am_kill_len]
theorem am_s2_len (L : List (Option Value)) (i : Nat) (v : Value) : (am_s2 L i v).length = L.length := by simp [am_s2, am_kill_len]
theorem am_en_in {B : Nat} {sa : Nat → Nat} : ∀ (as : List Value) (n i : Nat), ∀ q ∈ am_as B sa i (am_en as ++ List.replicate n none), q ∈ lv_args i (as.map (am_sh B sa))
  | [], n, i, q, h => by
    obtain ⟨k, u, h1, -⟩ := am_as_mem.mp h
    simp [am_en, List.getElem?_replicate] at h1
  | v :: t, n, i, q, h => by
    simp only [List.map_cons, lv_args, am_sh_cat]
    unfold am_en at h
    by_cases hc : v.category = 2
    · rw [if_pos hc] at h ⊢
      simp only [List.cons_append, am_as] at h
      rcases List.mem_cons.mp h with h | h
      · rw [h]; exact List.mem_cons_self
      · exact List.mem_cons_of_mem _ (am_en_in t n (i + 1 + 1) q h)
    · rw [if_neg hc] at h ⊢
      simp only [List.cons_append, am_as] at h
      rcases List.mem_cons.mp h with h | h
      · rw [h]; exact List.mem_cons_self
      · exact List.mem_cons_of_mem _ (am_en_in t n (i + 1) q h)
theorem am_en_len (B : Nat) (sa : Nat → Nat) : ∀ (as : List Value), (lg_sl (as.map (am_sh B sa))).length = (am_en as).length
  | [] => rfl
  | v :: t => by
    have h := am_en_len B sa t
    unfold lg_sl at h ⊢
    rw [List.map_cons, List.flatMap_cons, List.length_append, h, am_sh_cat, show am_en (v :: t) = if v.category = 2 then some v :: none :: am_en t else some v :: am_en t from rfl]
    by_cases hc : v.category = 2
    · rw [if_pos hc, if_pos hc]; simp; omega
    · rw [if_neg hc, if_neg hc]; simp; omega
/-! the world -/
def am_i : Value → Int32
  | .int x => x
  | _ => 0
def am_l : Value → Int64
  | .long x => x
  | _ => 0
def am_r (B : Nat) : Value → Option Nat
  | .ref a => some (B + a)
  | _ => none
def am_E (dA : Nat → ClassId) (B : Nat) (sa : Nat → Nat) (c : am_C) : va_E :=
  if c.1 < 100 then .inr (c.1, c.2.map (am_sh B sa)) else if c.1 = 101 then .inl (dA 1, c.2.length, .inr (.inl (fun j => am_l (c.2.getD j .null))))
  else if c.1 = 103 ∨ c.1 = 104 then .inl (dA (c.1 - 100), c.2.length, .inr (.inr (.inr (.inr (fun j => am_r B (c.2.getD j .null)))))) else .inl (dA (c.1 - 100), c.2.length, .inl (fun j => am_i (c.2.getD j .null)))
def am_rz (dA : Nat → ClassId) (B : Nat) (sa : Nat → Nat) : Nat → am_W → va_W
  | _, [] => []
  | i, c :: t => (B + i, am_E dA B sa c) :: am_rz dA B sa (i + 1) t
theorem am_rz_get (dA : Nat → ClassId) (B : Nat) (sa : Nat → Nat) : ∀ (w : am_W) (i k : Nat), (am_rz dA B sa i w)[k]? = (w[k]?).map (fun c => (B + (i + k), am_E dA B sa c))
  | [], i, k => by simp [am_rz]
  | c :: t, i, 0 => by simp [am_rz]
  | c :: t, i, k + 1 => by
    simp only [am_rz, List.getElem?_cons_succ]
    rw [am_rz_get dA B sa t (i + 1) k, show i + 1 + k = i + (k + 1) by omega]
theorem am_rz_set (dA : Nat → ClassId) (B : Nat) (sa : Nat → Nat) (c' : am_C) : ∀ (w : am_W) (i k : Nat), (am_rz dA B sa i w).set k (B + (i + k), am_E dA B sa c') = am_rz dA B sa i (w.set k c')
  | [], i, k => by simp [am_rz]
  | c :: t, i, 0 => by simp [am_rz]
  | c :: t, i, k + 1 => by
    simp only [am_rz, List.set_cons_succ]
    rw [← am_rz_set dA B sa c' t (i + 1) k, show i + 1 + k = i + (k + 1) by omega]
theorem am_rz_app (dA : Nat → ClassId) (B : Nat) (sa : Nat → Nat) (c : am_C) : ∀ (w : am_W) (i : Nat), am_rz dA B sa i (w ++ [c]) = am_rz dA B sa i w ++ [(B + (i + w.length), am_E dA B sa c)]
  | [], i => by simp [am_rz]
  | d :: t, i => by
    simp only [am_rz, List.cons_append, am_rz_app dA B sa c t (i + 1), List.length_cons]
    rw [show i + 1 + t.length = i + (t.length + 1) by omega]
theorem am_rz_D (dA : Nat → ClassId) (B : Nat) (sa : Nat → Nat) (w : am_W) : va_D (fun q => B ≤ q) (am_rz dA B sa 0 w) := by
  refine ⟨fun i j p q hi hj hpq => ?_, fun k q hk => ?_⟩
  · rw [am_rz_get] at hi hj
    cases h1 : w[i]? with
    | none => rw [h1] at hi; cases hi
    | some a =>
      cases h2 : w[j]? with
      | none => rw [h2] at hj; cases hj
      | some b =>
        rw [h1] at hi; rw [h2] at hj
        cases hi; cases hj
        simp only at hpq
        omega
  · rw [am_rz_get] at hk
    cases h1 : w[k]? with
    | none => rw [h1] at hk; cases hk
    | some a => rw [h1] at hk; cases hk; show B ≤ B + _; omega
theorem am_at_some {w : am_W} {a t : Nat} {vs : List Value} (h : am_at w a t = some vs) : w[a]? = some (t, vs) := by
  unfold am_at at h
  split at h
  next c hc =>
    split at h
    next ht => cases h; subst ht; exact hc
    next => cases h
  next => cases h
theorem am_ix_some {vs : List Value} {j : Int32} {v : Value} (h : am_ix vs j = some v) : ¬ j < 0 ∧ vs[j.toNatClampNeg]? = some v := by
  unfold am_ix at h
  split at h
  next => cases h
  next hj => exact ⟨hj, h⟩
theorem am_ix_in {vs : List Value} {j : Int32} {v : Value} (h : am_ix vs j = some v) : vp_in j vs.length := by
  obtain ⟨h1, h2⟩ := am_ix_some h
  have := (List.getElem?_eq_some_iff.mp h2).1
  exact fun q => by rcases q with q | q; exact h1 q; omega
def am_sz (w : am_W) : Nat := (w.map fun c => c.2.length).sum
theorem am_sz_set {w : am_W} {a : Nat} {c c' : am_C} (h : w[a]? = some c) (hl : c'.2.length = c.2.length) : am_sz (w.set a c') = am_sz w := by
  unfold am_sz
  rw [List.map_set, hl]
  congr 1
  apply List.ext_getElem?
  intro i
  rw [List.getElem?_set]
  split
  next e =>
    subst e
    have hlt := (List.getElem?_eq_some_iff.mp h).1
    rw [List.length_map, if_pos hlt, List.getElem?_map, h]; rfl
  next => rfl
theorem am_sz_app (w : am_W) (c : am_C) : am_sz (w ++ [c]) = am_sz w + c.2.length := by simp [am_sz]
theorem am_get (dA : Nat → ClassId) {B : Nat} {sa : Nat → Nat} {w : am_W} {a : Nat} {c : am_C} (h : w[a]? = some c) : (am_rz dA B sa 0 w)[a]? = some (B + a, am_E dA B sa c) := by
  rw [am_rz_get, h]; simp
theorem am_put {dA : Nat → ClassId} {B : Nat} {sa : Nat → Nat} {w : am_W} {a : Nat} {c : am_C} {x : va_E} (hx : x = am_E dA B sa c) : (am_rz dA B sa 0 w).set a (B + a, x) = am_rz dA B sa 0 (w.set a c) := by
  rw [hx, ← am_rz_set dA B sa c w 0 a, Nat.zero_add]
