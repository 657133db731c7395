/-! words, both sides -/
def wn (k : Nat) : Nat := if k = 1 then 6 else 4
def wc (k i : Nat) : Int32 := (am_tx.getD k []).getD i 0
/-- from b to e stands word k -/
def ma (T : Nat → Int32) (b e k : Nat) : Bool := decide (e - b = wn k) && pal (fun i => decide (T (b + i) = wc k i)) (wn k)
/-- which word: 6 is none -/
def whN (T : Nat → Int32) (b e : Nat) : Nat → Nat
  | 0 => 6
  | w + 1 => if ma T b e w = true then w else whN T b e w
theorem wc_1 : ∀ k, k < 6 → ∀ k', k' < 6 → wn k = wn k' → wc k 0 = wc k' 0 → k = k' := by decide +kernel
theorem ma_one {T : Nat → Int32} {b e k k' : Nat} (hk : k < 6) (hk' : k' < 6) (h : ma T b e k = true) (h' : ma T b e k' = true) : k = k' := by
  unfold ma at h h'
  rw [Bool.and_eq_true, pal_iff] at h h'
  have h1 := of_decide_eq_true h.1
  have h1' := of_decide_eq_true h'.1
  have hp : ∀ k, 0 < wn k := fun k => by unfold wn; split <;> omega
  have h2 := of_decide_eq_true (h.2 0 (hp k))
  have h2' := of_decide_eq_true (h'.2 0 (hp k'))
  exact wc_1 k hk k' hk' (by omega) (by rw [← h2, ← h2'])
theorem whN_le {T : Nat → Int32} {b e : Nat} : ∀ w, w ≤ 6 → whN T b e w ≤ 6
  | 0, _ => Nat.le_refl _
  | w + 1, h => by
    rw [whN]
    split
    · omega
    · exact whN_le w (by omega)
theorem whN_y {T : Nat → Int32} {b e k : Nat} (hk : k < 6) (h : ma T b e k = true) : ∀ w, w ≤ 6 → k < w → whN T b e w = k
  | 0, _, h0 => absurd h0 (by omega)
  | w + 1, hw, h0 => by
    rw [whN]
    by_cases q : ma T b e w = true
    · rw [if_pos q]
      exact ma_one (by omega) hk q h
    · rw [if_neg q]
      have : k ≠ w := fun z => q (by rw [← z]; exact h)
      exact whN_y hk h w (by omega) (by omega)
theorem whN_n {T : Nat → Int32} {b e : Nat} (h : ∀ k, k < 6 → ma T b e k = false) : ∀ w, w ≤ 6 → whN T b e w = 6
  | 0, _ => rfl
  | w + 1, hw => by
    rw [whN, if_neg (by rw [h w (by omega)]; decide)]
    exact whN_n h w (by omega)
section WORD
variable {d b e : Nat} {S : fm_S} {T : Nat → Int32}
theorem xe_len : ∀ k, k < 6 → ∀ x : Int32, am_xe (am_kl k_Reader_spells) (d + 6) (.invokevirtual 133) [.retAddr k, .int x] = some (.int (nI (wn k)) :: [.int x]) := by
  intro k hk x
  have : k = 0 ∨ k = 1 ∨ k = 2 ∨ k = 3 ∨ k = 4 ∨ k = 5 := by omega
  rcases this with rfl | rfl | rfl | rfl | rfl | rfl <;> rfl
theorem xe_chr : ∀ k, k < 6 → ∀ i, i < wn k → ∀ x : Int32, am_xe (am_kl k_Reader_spells) (d + 6) (.invokevirtual 137) [.int (nI i), .retAddr k, .int x] = some (.int (wc k i) :: [.int x]) := by
  intro k hk i hi x
  have h1 : k = 0 ∨ k = 1 ∨ k = 2 ∨ k = 3 ∨ k = 4 ∨ k = 5 := by omega
  have h2 : i = 0 ∨ i = 1 ∨ i = 2 ∨ i = 3 ∨ ((i = 4 ∨ i = 5) ∧ k = 1) := by
    unfold wn at hi
    split at hi <;> omega
  rcases h2 with rfl | rfl | rfl | rfl | ⟨rfl | rfl, rfl⟩
  · rcases h1 with rfl | rfl | rfl | rfl | rfl | rfl <;> rfl
  · rcases h1 with rfl | rfl | rfl | rfl | rfl | rfl <;> rfl
  · rcases h1 with rfl | rfl | rfl | rfl | rfl | rfl <;> rfl
  · rcases h1 with rfl | rfl | rfl | rfl | rfl | rfl <;> rfl
  · rfl
  · rfl
theorem s_xspells {Q : Int32 → fm_S → Prop} {k : Nat} (hk : k < 6) (h5 : S.1 67 5 = nI e) (h6 : S.1 67 6 = nI b) (hbe : b ≤ e) (he : e ≤ 150) (hT : ∀ i, i < e → S.1 121 i = T i) (W : Q (if ma T b e k = true then 1 else 0) S) :
    am_Ps vI (d + 6) k_Reader_spells [.ref 67, .retAddr k] S Q := by
  have hn : wn k ≤ 6 := by unfold wn; split <;> omega
  refine ps_of (L := [some (.ref 67), some (.retAddr k), none]) rfl (Nat.le_of_ble_eq_true rfl) (Nat.le_of_ble_eq_true rfl) ?_
  refine po_of (fun _ nx => b_Reader_spells_0 (xe_len k hk _) nx) ?_
  rw [h5, h6, nI_subI hbe]
  by_cases hl : e - b = wn k
  · refine po_of (fun _ nx => b_Reader_spells_13 (fun _ => nx) (fun z => absurd (by rw [hl]) z)) ?_
    refine po_of (fun _ nx => b_Reader_spells_18 nx) ?_
    have key : ∀ i, i ≤ wn k → pal (fun i => decide (T (b + i) = wc k i)) i = true → am_Po vI (d + 6) k_Reader_spells 20 [some (.ref 67), some (.retAddr k), some (.int (nI i))] [] S Q := by
      refine up_to (fun hp => ?_) fun i hi ih hp => ?_
      · unfold ma at W
        rw [hp, decide_eq_true hl] at W
        refine po_of (fun _ nx => b_Reader_spells_20 (xe_len k hk _) nx) ?_
        refine po_of (fun _ nx => b_Reader_spells_25 (fun _ => nx) (fun z => absurd (nI_le (Nat.le_refl _) (by omega)) z)) ?_
        exact ⟨1, S, b_Reader_spells_55, W⟩
      · refine po_of (fun _ nx => b_Reader_spells_20 (xe_len k hk _) nx) ?_
        refine po_of (fun _ nx => b_Reader_spells_25 (fun z => absurd z (nI_ge hi (by omega))) (fun _ => nx)) ?_
        refine po_of (fun _ nx => b_Reader_spells_28 (by rw [h6, nI_add]; exact vp_in_nI (by omega) (by decide)) (xe_chr k hk i hi _) nx) ?_
        rw [h6, nI_add, nI_clamp (by omega), hT (b + i) (by omega)]
        by_cases hc : T (b + i) = wc k i
        · refine po_of (fun _ nx => b_Reader_spells_44 (fun _ => nx) (fun z => absurd hc z)) ?_
          refine po_of (fun _ nx => b_Reader_spells_49 nx) ?_
          rw [nI_s]
          exact ih (by rw [pal, hp, decide_eq_true hc]; rfl)
        · refine po_of (fun _ nx => b_Reader_spells_44 (fun z => absurd z hc) (fun _ => nx)) ?_
          unfold ma at W
          rw [show pal (fun i => decide (T (b + i) = wc k i)) (wn k) = false from by
            rcases z : pal (fun i => decide (T (b + i) = wc k i)) (wn k) with _ | _
            · rfl
            · exact absurd (of_decide_eq_true (pal_iff.mp z i hi)) hc, Bool.and_false] at W
          exact ⟨0, S, b_Reader_spells_47, W⟩
    exact key 0 (Nat.zero_le _) rfl
  · refine po_of (fun _ nx => b_Reader_spells_13 (fun z => absurd ((nI_eq (by omega) (by omega)).mp z) hl) (fun _ => nx)) ?_
    unfold ma at W
    rw [decide_eq_false hl, Bool.false_and] at W
    exact ⟨0, S, b_Reader_spells_16, W⟩
theorem s_xword {Q : Int32 → fm_S → Prop} (h5 : S.1 67 5 = nI e) (h6 : S.1 67 6 = nI b) (hbe : b ≤ e) (he : e ≤ 150) (hT : ∀ i, i < e → S.1 121 i = T i)
    (W : Q (if whN T b e 6 < 6 then nI (whN T b e 6 + 1) else 0) S) :
    am_Ps vI (d + 7) k_Reader_word [.ref 67] S Q := by
  have yes : ∀ k, k < 6 → ma T b e k = true → Q (nI (k + 1)) S := fun k hk h => by
    rw [whN_y hk h 6 (Nat.le_refl _) hk, if_pos hk] at W
    exact W
  have sp := fun {Q : Int32 → fm_S → Prop} (k : Nat) (hk : k < 6) (W : Q (if ma T b e k = true then 1 else 0) S) => s_xspells (d := d) (Q := Q) hk h5 h6 hbe he hT W
  have cs : ∀ {b : Bool} {P R : Prop}, (b = false → P) → (b = true → R) → ((if b = true then (1 : Int32) else 0) = 0 → P) ∧ (¬ (if b = true then (1 : Int32) else 0) = 0 → R) := fun {b P R} h1 h2 => by
    cases b
    · exact ⟨fun _ => h1 rfl, fun z => absurd rfl z⟩
    · exact ⟨fun z => absurd z (by decide), fun _ => h2 rfl⟩
  refine e_Reader_word (d := d + 6) ?_
  refine sp 0 (by omega) (cs (fun n0 => ?_) (yes 0 (by omega)))
  refine sp 1 (by omega) (cs (fun n1 => ?_) (yes 1 (by omega)))
  refine sp 2 (by omega) (cs (fun n2 => ?_) (yes 2 (by omega)))
  refine sp 3 (by omega) (cs (fun n3 => ?_) (yes 3 (by omega)))
  refine sp 4 (by omega) (cs (fun n4 => ?_) (yes 4 (by omega)))
  refine sp 5 (by omega) ?_
  intro v19 e19
  rcases h : ma T b e 5 with _ | _
  · rw [h] at e19
    rw [whN_n (fun k hk => by
      have : k = 0 ∨ k = 1 ∨ k = 2 ∨ k = 3 ∨ k = 4 ∨ k = 5 := by omega
      rcases this with rfl | rfl | rfl | rfl | rfl | rfl
      · exact n0
      · exact n1
      · exact n2
      · exact n3
      · exact n4
      · exact h) 6 (Nat.le_refl _)] at W
    rw [e19]
    exact W
  · rw [h] at e19
    rw [e19]
    exact yes 5 (by omega) h
/-! the reference's letters -/
def cd (w : Nat) : Nat := if w = 0 then 20152314 else if w = 1 then 192018050520 else if w = 2 then 12011405 else if w = 3 then 7012005 else if w = 4 then 23091404 else 4091908
theorem cd_wc : ∀ w, w < 6 → ∀ i, i < wn w → wc w i = nI (cd w / 100 ^ (wn w - 1 - i) % 100 + 96) := by decide +kernel
theorem cd_lt : ∀ w, w < 6 → cd w < 200000000000 := by decide +kernel
theorem s_mletter {Q : Int32 → fm_S → Prop} {w i : Nat} (hw : w < 6) (hi : i < wn w) (W : Q (wc w i) S) : am_Ps vI d k_M_letterOf [.int (nI w), .int (nI i)] S Q := by
  have hn : wn w ≤ 6 := by unfold wn; split <;> omega
  have hc := cd_lt w hw
  refine e_M_letterOf fun v6 e6 v8 e8 => ?_
  have e6' : v6 = lN (cd w) := by
    rw [e6]
    have h1 : w = 0 ∨ w = 1 ∨ w = 2 ∨ w = 3 ∨ w = 4 ∨ w = 5 := by omega
    rcases h1 with rfl | rfl | rfl | rfl | rfl | rfl <;> decide
  have e8' : v8 = nI (wn w) := by
    rw [e8]
    have h1 : w = 0 ∨ w = 1 ∨ w = 2 ∨ w = 3 ∨ w = 4 ∨ w = 5 := by omega
    rcases h1 with rfl | rfl | rfl | rfl | rfl | rfl <;> decide
  subst e6' e8'
  rw [show (1 : Int32) = nI 1 from rfl, nI_subI (by omega)]
  have key : ∀ t, t ≤ wn w - 1 - i → am_Po vI d k_M_letterOf 80 [some (.int (nI w)), some (.int (nI i)), some (.long (lN (cd w))), none, some (.int (nI (wn w))), some (.long (lN (cd w / 100 ^ t))), none, some (.int (nI (wn w - 1 - t)))] [] S Q := by
    refine up_to ?_ fun t ht ih => ?_
    · have hq : cd w / 100 ^ (wn w - 1 - i) ≤ cd w := Nat.div_le_self _ _
      refine p_M_letterOf_80 ⟨fun _ v3 e3 => ?_, fun z => absurd (nI_le (by omega) (by omega)) z⟩
      rw [if_neg (nI_ge hi (by omega)), show (100 : Int64) = lN 100 from rfl, pk_lRem (by omega) (by decide) (by decide), lN_i] at e3
      rw [e3, show (96 : Int32) = nI 96 from rfl, nI_add, ← cd_wc w hw i hi]
      exact W
    · have hq : cd w / 100 ^ t ≤ cd w := Nat.div_le_self _ _
      refine p_M_letterOf_80 ⟨fun z => absurd z (nI_ge (by omega) (by omega)), fun _ => ?_⟩
      rw [show (100 : Int64) = lN 100 from rfl, pk_lDiv (by omega) (by decide) (by decide), Nat.div_div_eq_div_mul, ← Nat.pow_succ, nI_m1 (by omega), show wn w - 1 - t - 1 = wn w - 1 - (t + 1) by omega]
      exact ih
  have z := key 0 (Nat.zero_le _)
  rw [Nat.pow_zero, Nat.div_one] at z
  exact z
end WORD
