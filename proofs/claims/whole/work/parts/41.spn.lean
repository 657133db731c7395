/-! the spread, in natural numbers: rounds over the 64 pairs; behind seven rounds nothing rises -/
/-- how many of the first n are so -/
def cN (p : Nat → Bool) : Nat → Nat
  | 0 => 0
  | n + 1 => cN p n + (if p n = true then 1 else 0)
theorem cN_mono {p q : Nat → Bool} : ∀ {n : Nat}, (∀ z, z < n → p z = true → q z = true) → cN p n ≤ cN q n
  | 0, _ => Nat.le_refl _
  | n + 1, h => by
    have ih := cN_mono (n := n) fun z hz => h z (by omega)
    have hn := h n (by omega)
    simp only [cN]
    by_cases hp : p n = true
    · rw [if_pos hp, if_pos (hn hp)]; omega
    · rw [if_neg hp]; omega
theorem cN_more {p q : Nat → Bool} {a : Nat} : ∀ {n : Nat}, a < n → p a = false → q a = true → (∀ z, z < n → p z = true → q z = true) → cN p n + 1 ≤ cN q n
  | 0, h, _, _, _ => absurd h (by omega)
  | n + 1, h, ha, hb, hm => by
    have hn := hm n (by omega)
    simp only [cN]
    by_cases e : a = n
    · subst e
      have ih := cN_mono (n := a) fun z hz => hm z (by omega)
      rw [if_neg (by rw [ha]; decide), if_pos hb]; omega
    · have ih := cN_more (n := n) (by omega) ha hb fun z hz => hm z (by omega)
      by_cases hp : p n = true
      · rw [if_pos hp, if_pos (hn hp)]; omega
      · rw [if_neg hp]; omega
theorem cN_lt {p : Nat → Bool} {a n : Nat} (h : a < n) (ha : p a = false) : cN p n + 1 ≤ n := by
  have h1 := cN_more (q := fun _ => true) h ha rfl fun _ _ _ => rfl
  have h2 : ∀ k, cN (fun _ => true) k = k := fun k => by
    induction k with
    | zero => rfl
    | succ k ih => simp [cN, ih]
  rw [h2] at h1
  exact h1
/-- place j of a row -/
def u1 {α : Type} (f : Nat → α) (j : Nat) (x : α) : Nat → α := fun y => if y = j then x else f y
/-- step k: what comes to place k % 8 from place k / 8 -/
def sn_c (L : Nat → Nat → Bool) (C : Nat → Nat) (V : Nat → Nat) (k : Nat) : Nat := if L (k / 8) (k % 8) = true then V (k / 8) - C (k % 8) else 0
def sn_s (L : Nat → Nat → Bool) (C : Nat → Nat) (V : Nat → Nat) (k : Nat) : Nat → Nat := if sn_c L C V k ≤ V (k % 8) then V else u1 V (k % 8) (sn_c L C V k)
def sn_r (L : Nat → Nat → Bool) (C : Nat → Nat) (V : Nat → Nat) : Nat → Nat → Nat
  | 0 => V
  | k + 1 => sn_s L C (sn_r L C V k) k
def sn_f (L : Nat → Nat → Bool) (C : Nat → Nat) (V : Nat → Nat) : Nat → Bool
  | 0 => false
  | k + 1 => sn_f L C V k || decide (¬ sn_c L C (sn_r L C V k) k ≤ sn_r L C V k (k % 8))
def sn_n (L : Nat → Nat → Bool) (C : Nat → Nat) (V : Nat → Nat) : Nat → Nat → Nat
  | 0 => V
  | n + 1 => sn_r L C (sn_n L C V n) 64
section SN
variable {L : Nat → Nat → Bool} {C : Nat → Nat} {V : Nat → Nat}
theorem sn_id : ∀ {k : Nat}, sn_f L C V k = false → sn_r L C V k = V
  | 0, _ => rfl
  | k + 1, h => by
    rw [sn_f, Bool.or_eq_false_iff] at h
    have h2 := of_decide_eq_false h.2
    rw [sn_r, sn_s, if_pos (Classical.not_not.mp h2)]
    exact sn_id h.1
/-- what is above a place -/
def sn_a (V : Nat → Nat) (y : Nat) : Nat := cN (fun z => decide (V y < V z)) 8
/-- the last round in which each place rose -/
def sn_l (L : Nat → Nat → Bool) (C : Nat → Nat) (r : Nat) (V l : Nat → Nat) : Nat → Nat → Nat
  | 0 => l
  | k + 1 => if sn_c L C (sn_r L C V k) k ≤ sn_r L C V k (k % 8) then sn_l L C r V l k else u1 (sn_l L C r V l k) (k % 8) r
def sn_J (L : Nat → Nat → Bool) (C : Nat → Nat) (r k : Nat) (V l : Nat → Nat) : Prop :=
  (∀ y, y < 8 → l y ≤ sn_a V y) ∧
  (∀ j, j < 64 → L (j / 8) (j % 8) = true → (j < k → l (j / 8) < r → V (j / 8) - C (j % 8) ≤ V (j % 8)) ∧ (k ≤ j → l (j / 8) + 1 < r → V (j / 8) - C (j % 8) ≤ V (j % 8)))
theorem sn_step {r k : Nat} {l : Nat → Nat} (hC : ∀ y, 0 < C y) (hk : k < 64) (h : sn_J L C r k V l) :
    (sn_c L C V k ≤ V (k % 8) → sn_J L C r (k + 1) V l) ∧
    (¬ sn_c L C V k ≤ V (k % 8) → r ≤ sn_a (u1 V (k % 8) (sn_c L C V k)) (k % 8) ∧ sn_J L C r (k + 1) (u1 V (k % 8) (sn_c L C V k)) (u1 l (k % 8) r)) := by
  obtain ⟨h1, h2⟩ := h
  constructor
  · intro hc
    refine ⟨h1, fun j hj hL => ⟨fun hjk hl => ?_, fun hjk hl => (h2 j hj hL).2 (by omega) hl⟩⟩
    by_cases e : j = k
    · subst e
      unfold sn_c at hc
      rw [if_pos hL] at hc
      exact hc
    · exact (h2 j hj hL).1 (by omega) hl
  · intro hc
    have hL : L (k / 8) (k % 8) = true := by
      rcases hb : L (k / 8) (k % 8) with _ | _
      · exfalso
        apply hc
        unfold sn_c
        rw [if_neg (by rw [hb]; decide)]
        exact Nat.zero_le _
      · rfl
    have hcv : sn_c L C V k = V (k / 8) - C (k % 8) := by unfold sn_c; rw [if_pos hL]
    have hCk := hC (k % 8)
    rw [hcv] at hc ⊢
    have ha8 : k / 8 < 8 := by omega
    have hb8 : k % 8 < 8 := by omega
    have hlt : V (k / 8) - C (k % 8) < V (k / 8) := by omega
    have hne : k / 8 ≠ k % 8 := fun e => by rw [e] at hc hlt; omega
    have hlast : r ≤ l (k / 8) + 1 := by
      rcases Nat.lt_or_ge (l (k / 8) + 1) r with q | q
      · exact absurd ((h2 k hk hL).2 (Nat.le_refl k) q) hc
      · exact q
    generalize hx : V (k / 8) - C (k % 8) = x at *
    have hu : ∀ y, V y ≤ u1 V (k % 8) x y := fun y => by unfold u1; split <;> (try subst y) <;> omega
    have huo : ∀ y, y ≠ k % 8 → u1 V (k % 8) x y = V y := fun y hy => by unfold u1; rw [if_neg hy]
    have hus : u1 V (k % 8) x (k % 8) = x := by unfold u1; rw [if_pos rfl]
    have hr : r ≤ sn_a (u1 V (k % 8) x) (k % 8) := by
      have m := cN_more (p := fun z => decide (V (k / 8) < V z)) (q := fun z => decide (u1 V (k % 8) x (k % 8) < u1 V (k % 8) x z)) (a := k / 8) (n := 8) ha8 (by simp) (by rw [hus, huo _ hne]; exact decide_eq_true hlt) (fun z _ hz => by
        have hz := of_decide_eq_true hz
        rw [hus, huo z (fun e => by subst z; omega)]
        exact decide_eq_true (by omega))
      have b := h1 (k / 8) ha8
      unfold sn_a at b ⊢
      omega
    refine ⟨hr, fun y hy => ?_, fun j hj hLj => ⟨fun hjk hl => ?_, fun hjk hl => ?_⟩⟩
    · by_cases e : y = k % 8
      · subst e
        rw [show u1 l (k % 8) r (k % 8) = r by unfold u1; rw [if_pos rfl]]
        exact hr
      · rw [show u1 l (k % 8) r y = l y by unfold u1; rw [if_neg e]]
        refine Nat.le_trans (h1 y hy) ?_
        unfold sn_a
        refine cN_mono fun z _ hz => ?_
        have hz := of_decide_eq_true hz
        refine decide_eq_true ?_
        rw [huo y e]
        exact Nat.lt_of_lt_of_le hz (hu z)
    · have hs : j / 8 ≠ k % 8 := fun e => by
        rw [e, show u1 l (k % 8) r (k % 8) = r by unfold u1; rw [if_pos rfl]] at hl
        omega
      rw [show u1 l (k % 8) r (j / 8) = l (j / 8) by unfold u1; rw [if_neg hs]] at hl
      rw [huo _ hs]
      by_cases e : j = k
      · subst e
        rw [hus, hx]; exact Nat.le_refl _
      · exact Nat.le_trans ((h2 j hj hLj).1 (by omega) hl) (hu _)
    · have hs : j / 8 ≠ k % 8 := fun e => by
        rw [e, show u1 l (k % 8) r (k % 8) = r by unfold u1; rw [if_pos rfl]] at hl
        omega
      rw [show u1 l (k % 8) r (j / 8) = l (j / 8) by unfold u1; rw [if_neg hs]] at hl
      rw [huo _ hs]
      exact Nat.le_trans ((h2 j hj hLj).2 (by omega) hl) (hu _)
theorem sn_round {r : Nat} {l : Nat → Nat} (hC : ∀ y, 0 < C y) (h : sn_J L C r 0 V l) : ∀ k, k ≤ 64 → sn_J L C r k (sn_r L C V k) (sn_l L C r V l k)
  | 0, _ => h
  | k + 1, hk => by
    have s := sn_step hC (by omega) (sn_round hC h k (by omega))
    rw [sn_r, sn_l, sn_s]
    by_cases q : sn_c L C (sn_r L C V k) k ≤ sn_r L C V k (k % 8)
    · rw [if_pos q, if_pos q]; exact s.1 q
    · rw [if_neg q, if_neg q]; exact (s.2 q).2
theorem sn_next {r : Nat} {l : Nat → Nat} (h : sn_J L C r 64 V l) : sn_J L C (r + 1) 0 V l :=
  ⟨h.1, fun j hj hL => ⟨fun z => absurd z (by omega), fun _ hl => (h.2 j hj hL).1 hj (by omega)⟩⟩
theorem sn_rounds (hC : ∀ y, 0 < C y) : ∀ n, ∃ l, sn_J L C (n + 1) 0 (sn_n L C V n) l
  | 0 => ⟨fun _ => 0, fun _ _ => Nat.zero_le _, fun j _ _ => ⟨fun z => absurd z (by omega), fun _ z => absurd z (by omega)⟩⟩
  | n + 1 => by
    obtain ⟨l, hl⟩ := sn_rounds hC n
    exact ⟨_, sn_next (sn_round hC hl 64 (Nat.le_refl _))⟩
/-- nothing rises in the eighth round -/
theorem sn_stop (hC : ∀ y, 0 < C y) : sn_f L C (sn_n L C V 7) 64 = false := by
  obtain ⟨l, hl⟩ := sn_rounds (V := V) (L := L) hC 7
  have key : ∀ k, k ≤ 64 → sn_f L C (sn_n L C V 7) k = false := by
    intro k
    induction k with
    | zero => intro _; rfl
    | succ k ih =>
      intro hk
      rw [sn_f, ih (by omega), Bool.false_or]
      refine decide_eq_false fun q => ?_
      have s := ((sn_step hC (by omega) (sn_round hC hl k (by omega))).2 q).1
      have b := cN_lt (p := fun z => decide (u1 (sn_r L C (sn_n L C V 7) k) (k % 8) (sn_c L C (sn_r L C (sn_n L C V 7) k) k) (k % 8) < u1 (sn_r L C (sn_n L C V 7) k) (k % 8) (sn_c L C (sn_r L C (sn_n L C V 7) k) k) z)) (a := k % 8) (n := 8) (by omega) (by simp)
      unfold sn_a at s
      omega
  exact key 64 (Nat.le_refl _)
theorem sn_all {i : Nat} (h : sn_f L C (sn_n L C V i) 64 = false) : ∀ j, sn_n L C V (i + j) = sn_n L C V i
  | 0 => rfl
  | j + 1 => by rw [show i + (j + 1) = (i + j) + 1 by omega, sn_n, sn_all h j, sn_id h]
/-- bounds -/
theorem sn_r_le {B : Nat} (h : ∀ y, V y ≤ B) : ∀ k y, sn_r L C V k y ≤ B
  | 0, y => h y
  | k + 1, y => by
    have ih := sn_r_le h k
    rw [sn_r, sn_s]
    split
    · exact ih y
    · unfold u1
      split
      · unfold sn_c
        have := ih (k / 8)
        split <;> omega
      · exact ih y
theorem sn_n_le {B : Nat} (h : ∀ y, V y ≤ B) : ∀ n y, sn_n L C V n y ≤ B
  | 0, y => h y
  | n + 1, y => sn_r_le (sn_n_le h n) 64 y
end SN
