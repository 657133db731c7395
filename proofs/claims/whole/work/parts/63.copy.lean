/-! a town is copied, its days are kept, and gone back to -/
section COPY
variable {d n m q u y N : Nat} {S : fm_S} {A : Nat → Int32}
theorem RS_cp {S T : fm_S} {s t : Nat} (hn : n ≤ 8) (hm : m ≤ 6) (h0 : T.1 t 0 = S.1 s 0) (h7 : T.1 t 7 = S.1 s 7) (h : ∀ c k, 1 ≤ c → c ≤ 9 → k < (if c ≤ 4 then 8 else if c ≤ 6 then 4 else 6) → T.1 (t + c) k = S.1 (s + c) k) (hR : RS S s A n m) : RS T t A n m := by
  obtain ⟨r0, r7, r1, r2, r3, r4, r5, r6, r7', r8, r9⟩ := hR
  refine ⟨by rw [h0]; exact r0, by rw [h7]; exact r7, fun k hk => ?_, fun k hk => ?_, fun k hk => ?_, fun a b ha hb => ?_, fun k hk => ?_, fun k hk => ?_, fun k hk => ?_, fun k hk => ?_, fun k hk => ?_⟩
  · rw [h 1 k (by omega) (by omega) (by rw [if_pos (by omega)]; omega)]; exact r1 k hk
  · rw [h 2 k (by omega) (by omega) (by rw [if_pos (by omega)]; omega)]; exact r2 k hk
  · rw [h 3 k (by omega) (by omega) (by rw [if_pos (by omega)]; omega)]; exact r3 k hk
  · rw [h 4 a (by omega) (by omega) (by rw [if_pos (by omega)]; omega)]; exact r4 a b ha hb
  · rw [h 5 k (by omega) (by omega) (by rw [if_neg (by omega), if_pos (by omega)]; omega)]; exact r5 k hk
  · rw [h 6 k (by omega) (by omega) (by rw [if_neg (by omega), if_pos (by omega)]; omega)]; exact r6 k hk
  · rw [h 7 k (by omega) (by omega) (by rw [if_neg (by omega), if_neg (by omega)]; omega)]; exact r7' k hk
  · rw [h 8 k (by omega) (by omega) (by rw [if_neg (by omega), if_neg (by omega)]; omega)]; exact r8 k hk
  · rw [h 9 k (by omega) (by omega) (by rw [if_neg (by omega), if_neg (by omega)]; omega)]; exact r9 k hk
theorem RD_cp {S T : fm_S} {a b : Nat} {f : Nat → Int32} (hn : n ≤ 8) (h0 : T.1 b 0 = S.1 a 0) (h : ∀ c k, 1 ≤ c → c ≤ 3 → k < 8 → T.1 (b + c) k = S.1 (a + c) k) (hR : RD S a f n) : RD T b f n := by
  obtain ⟨d0, d1, d2, d3, d4⟩ := hR
  refine ⟨by rw [h0]; exact d0, fun k hk => ?_, fun k hk => ?_, fun k hk => ?_, fun k h1 h2 => ?_⟩
  · rw [h 1 k (by omega) (by omega) (by omega)]; exact d1 k hk
  · rw [h 2 k (by omega) (by omega) (by omega)]; exact d2 k hk
  · rw [h 3 k (by omega) (by omega) (by omega)]; exact d3 k hk
  · rw [h 1 k (by omega) (by omega) (by omega), h 2 k (by omega) (by omega) (by omega), h 3 k (by omega) (by omega) (by omega)]; exact d4 k h1 h2
theorem RN_cp {S T : fm_S} {s t : Nat} (h0 : T.1 (t + 10) 0 = S.1 (s + 10) 0) (h : ∀ c k, 11 ≤ c → c ≤ 15 → k < 6 → T.1 (t + c) k = S.1 (s + c) k) (hR : RN S s A q) : RN T t A q := by
  obtain ⟨q0, q1, q2, n1, n2, n3, n4, n5⟩ := hR
  refine ⟨q0, q1, by rw [h0]; exact q2, fun k hk => ?_, fun k hk => ?_, fun k hk => ?_, fun k hk => ?_, fun k hk => ?_⟩
  · rw [h 11 k (by omega) (by omega) (by omega)]; exact n1 k hk
  · rw [h 12 k (by omega) (by omega) (by omega)]; exact n2 k hk
  · rw [h 13 k (by omega) (by omega) (by omega)]; exact n3 k hk
  · rw [h 14 k (by omega) (by omega) (by omega)]; exact n4 k hk
  · rw [h 15 k (by omega) (by omega) (by omega)]; exact n5 k hk
/-- what the copy has done ahead of its loop -/
def cp0 (S : fm_S) (t s : Nat) : fm_S := fm_wI (fm_wI (fm_wI S t 0 (S.1 s 0)) t 7 ((fm_wI S t 0 (S.1 s 0)).1 s 7)) t 14 ((fm_wI (fm_wI S t 0 (S.1 s 0)) t 7 ((fm_wI S t 0 (S.1 s 0)).1 s 7)).1 s 14)
def cp1 (T : fm_S) (t s : Nat) : fm_S := fm_cp (fm_cp (fm_cp (fm_cp (fm_cp (fm_cp (fm_cp (fm_cp (fm_cp T (s + 1) 0 (t + 1) 0 8) (s + 2) 0 (t + 2) 0 8) (s + 3) 0 (t + 3) 0 8) (s + 4) 0 (t + 4) 0 8) (s + 5) 0 (t + 5) 0 4) (s + 6) 0 (t + 6) 0 4) (s + 7) 0 (t + 7) 0 6) (s + 8) 0 (t + 8) 0 6) (s + 9) 0 (t + 9) 0 6
def cpS (S : fm_S) (t s : Nat) : fm_S := g_Days_copy (g_Notes_copy (cp1 (cp0 S t s) t s) (t + 10) (s + 10)) (t + 16) (s + 16)
theorem cp0_o {S : fm_S} {t s c : Nat} (h : c ≠ t) : (cp0 S t s).1 c = S.1 c := by unfold cp0; rw [wI_ce h, wI_ce h, wI_ce h]
theorem cp0_0 {S : fm_S} {t s : Nat} : (cp0 S t s).1 t 0 = S.1 s 0 := by unfold cp0; rw [wI_place (by omega), wI_place (by omega), wI_same]
theorem cp0_7 {S : fm_S} {t s : Nat} (h : s ≠ t) : (cp0 S t s).1 t 7 = S.1 s 7 := by unfold cp0; rw [wI_place (by omega), wI_same, wI_cell h]
theorem cp0_14 {S : fm_S} {t s : Nat} (h : s ≠ t) : (cp0 S t s).1 t 14 = S.1 s 14 := by unfold cp0; rw [wI_same, wI_cell h, wI_cell h]
theorem cp1_o {T : fm_S} {t s c : Nat} (h : c ≤ t ∨ t + 9 < c) : (cp1 T t s).1 c = T.1 c := by
  unfold cp1
  rw [cp_ne (by omega), cp_ne (by omega), cp_ne (by omega), cp_ne (by omega), cp_ne (by omega), cp_ne (by omega), cp_ne (by omega), cp_ne (by omega), cp_ne (by omega)]
theorem cp1_k {T : fm_S} {t s c k : Nat} (hd : t + 52 < s ∨ s + 52 < t) (h1 : 1 ≤ c) (h2 : c ≤ 9) (hk : k < (if c ≤ 4 then 8 else if c ≤ 6 then 4 else 6)) : (cp1 T t s).1 (t + c) k = T.1 (s + c) k := by
  have : c = 1 ∨ c = 2 ∨ c = 3 ∨ c = 4 ∨ c = 5 ∨ c = 6 ∨ c = 7 ∨ c = 8 ∨ c = 9 := by omega
  unfold cp1
  rcases this with rfl | rfl | rfl | rfl | rfl | rfl | rfl | rfl | rfl <;> simp at hk <;> simp (disch := omega) only [cp_ne, cp_self]
theorem nc_fr {S : fm_S} {a b c : Nat} (h : c < a ∨ a + 5 < c) : (g_Notes_copy S a b).1 c = S.1 c := by
  unfold g_Notes_copy
  rw [cp_ne (by omega), cp_ne (by omega), cp_ne (by omega), cp_ne (by omega), cp_ne (by omega), wI_ce (by omega)]
theorem nc_0 {S : fm_S} {a b : Nat} : (g_Notes_copy S a b).1 a 0 = S.1 b 0 := by
  unfold g_Notes_copy
  rw [cp_ne (by omega), cp_ne (by omega), cp_ne (by omega), cp_ne (by omega), cp_ne (by omega), wI_same]
theorem nc_k {S : fm_S} {a b c k : Nat} (hd : a + 5 < b ∨ b + 5 < a) (h1 : 1 ≤ c) (h2 : c ≤ 5) (hk : k < 6) : (g_Notes_copy S a b).1 (a + c) k = S.1 (b + c) k := by
  have : c = 1 ∨ c = 2 ∨ c = 3 ∨ c = 4 ∨ c = 5 := by omega
  unfold g_Notes_copy
  rcases this with rfl | rfl | rfl | rfl | rfl
  · rw [cp_ne (by omega), cp_ne (by omega), cp_ne (by omega), cp_ne (by omega), cp_self hk, wI_ce (by omega)]
  · rw [cp_ne (by omega), cp_ne (by omega), cp_ne (by omega), cp_self hk, cp_ne (by omega), wI_ce (by omega)]
  · rw [cp_ne (by omega), cp_ne (by omega), cp_self hk, cp_ne (by omega), cp_ne (by omega), wI_ce (by omega)]
  · rw [cp_ne (by omega), cp_self hk, cp_ne (by omega), cp_ne (by omega), cp_ne (by omega), wI_ce (by omega)]
  · rw [cp_self hk, cp_ne (by omega), cp_ne (by omega), cp_ne (by omega), cp_ne (by omega), wI_ce (by omega)]
theorem dc_k {S : fm_S} {a b c k : Nat} (hd : a + 3 < b ∨ b + 3 < a) (h1 : 1 ≤ c) (h2 : c ≤ 3) (hk : k < 8) : (g_Days_copy S a b).1 (a + c) k = S.1 (b + c) k := by
  have : c = 1 ∨ c = 2 ∨ c = 3 := by omega
  rcases this with rfl | rfl | rfl
  · exact dc_1 hd hk
  · exact dc_2 hd hk
  · exact dc_3 hd hk
theorem cp_s2 {S : fm_S} {b sp a dp k : Nat} : (fm_cp S b sp a dp k).2 = S.2 := rfl
theorem wI_s2 {S : fm_S} {a i : Nat} {x : Int32} : (fm_wI S a i x).2 = S.2 := rfl
theorem dc_s2 {S : fm_S} {a b : Nat} : (g_Days_copy S a b).2 = S.2 := by unfold g_Days_copy; rw [cp_s2, cp_s2, cp_s2, wI_s2]
theorem nc_s2 {S : fm_S} {a b : Nat} : (g_Notes_copy S a b).2 = S.2 := by unfold g_Notes_copy; rw [cp_s2, cp_s2, cp_s2, cp_s2, cp_s2, wI_s2]
theorem cpS_s2 {S : fm_S} {t s : Nat} : (cpS S t s).2 = S.2 := by
  unfold cpS cp1 cp0
  rw [dc_s2, nc_s2, cp_s2, cp_s2, cp_s2, cp_s2, cp_s2, cp_s2, cp_s2, cp_s2, cp_s2, wI_s2, wI_s2, wI_s2]
theorem cpS_RT0 {t s : Nat} (hd : t + 52 < s ∨ s + 52 < t) (hR : RT S s A n m q u y N) :
    WS A n m ∧ RS (cpS S t s) t A n m ∧ RD (cpS S t s) (t + 16) (ow A) n ∧ RN (cpS S t s) t A q ∧ (cpS S t s).1 t 14 = nI u ∧ (∀ c, c < t ∨ t + 19 < c → (cpS S t s).1 c = S.1 c) ∧ (cpS S t s).2 = S.2 := by
  obtain ⟨h1, h2, h3, h4, h5, h6, h7⟩ := hR
  have hne : s ≠ t := by omega
  have fr : ∀ c, c < t ∨ t + 19 < c → (cpS S t s).1 c = S.1 c := fun c hc => by
    unfold cpS
    rw [dc_fr (by omega), nc_fr (by omega), cp1_o (by omega), cp0_o (by omega)]
  have tt : ∀ i, (cpS S t s).1 t i = (cp0 S t s).1 t i := fun i => by
    unfold cpS
    rw [dc_fr (by omega), nc_fr (by omega), cp1_o (by omega)]
  refine ⟨h1, RS_cp h1.1 h1.2.1 ?_ ?_ (fun c k c1 c2 hk => ?_) h2, RD_cp h1.1 ?_ (fun c k c1 c2 hk => ?_) h3, RN_cp ?_ (fun c k c1 c2 hk => ?_) h4, ?_, fr, cpS_s2⟩
  · rw [tt, cp0_0]
  · rw [tt, cp0_7 hne]
  · unfold cpS
    rw [dc_fr (by omega), nc_fr (by omega), cp1_k hd c1 c2 hk, cp0_o (by omega)]
  · unfold cpS
    rw [dc_0, nc_fr (by omega), cp1_o (by omega), cp0_o (by omega)]
  · unfold cpS
    rw [dc_k (by omega) c1 c2 hk, nc_fr (by omega), cp1_o (by omega), cp0_o (by omega)]
  · unfold cpS
    rw [dc_fr (by omega), nc_0, cp1_o (by omega), cp0_o (by omega)]
  · unfold cpS
    obtain ⟨c, rfl⟩ : ∃ e, c = 10 + e := ⟨c - 10, by omega⟩
    rw [dc_fr (by omega), show t + (10 + c) = t + 10 + c by omega, show s + (10 + c) = s + 10 + c by omega, nc_k (by omega) (by omega) (by omega) hk, cp1_o (by omega), cp0_o (by omega)]
  · rw [tt, cp0_14 hne]
    exact h5.2.2
/-- Town.copy -/
theorem s_copy {Q : Unit → fm_S → Prop} {t s : Nat} (hR : RT S s A n m q u y N) (hPt : PP S t) (hPs : PP S s) (hd : t + 52 < s ∨ s + 52 < t)
    (k1 : fm_tg t = 6 ∧ fm_tg (t + 10) = 4 ∧ fm_tg (t + 16) = 2) (k2 : fm_tg s = 6 ∧ fm_tg (s + 10) = 4 ∧ fm_tg (s + 16) = 2) (kt : ∀ i, i < 8 → fm_tg (t + 21 + 4 * i) = 2) (ks : ∀ i, i < 8 → fm_tg (s + 21 + 4 * i) = 2)
    (W : ∀ S', (∀ c, c < t ∨ t + 52 < c → S'.1 c = S.1 c) → S'.2 = S.2 → RT S' t A n m q u y N → Q () S') :
    am_Ps vV (d + 2) k_Town_copy [.ref t, .ref s] S Q := by
  refine e_Town_copy ⟨k2.1, k1.1, k2.2.1, k1.2.1, k2.2.2, k1.2.2, ?_⟩
  obtain ⟨c1, c2, c3, c4, c5, c6, c7⟩ := cpS_RT0 (t := t) hd hR
  have hn := c1.1
  obtain ⟨_, _, _, _, h5, h6, h7⟩ := hR
  show H_Town_copy_181 d t s 0 (cpS S t s) Q
  generalize cpS S t s = T at *
  have e2 : T.2.2 = S.2.2 := by rw [c7]
  have key : ∀ j, j ≤ u → ∀ U, (∀ c, c < t + 21 ∨ t + 52 < c → U.1 c = T.1 c) → U.2 = S.2 → (∀ j', j' < j → RD U (S.2.2 (t + 20) j') (fun i => A (173 + 25 * j' + i)) n) → H_Town_copy_181 d t s (nI j) U Q := by
    refine up_to (fun U hU hU2 hD => ?_) fun j hj ih U hU hU2 hD => ?_
    · refine p_Town_copy_181 ⟨k1.1, fun _ => ?_, fun z => absurd ?_ z⟩
      · refine W U (fun c hc => by rw [hU c (by omega), c6 c (by omega)]) hU2 ⟨c1, RS_fr (fun c a b => hU c (by omega)) c2, RD_fr (fun c a b => hU c (by omega)) c3, RN_fr (fun c a b => hU c (by omega)) c4, ⟨h5.1, h5.2.1, ?_⟩, fun j hj => ?_, h7⟩
        · rw [hU t (by omega)]; exact c5
        · rw [hU2]; exact hD j hj
      · rw [hU t (by omega), c5]; exact nI_le (Nat.le_refl u) (by have := h5.1; omega)
    · have hj8 : j < 8 := by have := h5.1; omega
      obtain ⟨i, hi, ei⟩ := hPt.1 j hj8
      obtain ⟨i', hi', ei'⟩ := hPs.1 j hj8
      have hg : ¬ U.1 t 14 ≤ nI j := by rw [hU t (by omega), c5]; exact nI_ge hj (by have := h5.1; omega)
      have hU22 : U.2.2 = S.2.2 := by rw [hU2]
      refine p_Town_copy_181 ⟨k1.1, fun z => absurd z hg, fun _ => ⟨fun z => absurd z (nI_ge (b := 8) hj8 (by decide)), fun _ => ⟨vp_in_nI hj8 (by decide), k2.1, ?_⟩⟩⟩
      rw [hU22, nI_clamp (by omega), ei, ei']
      refine ⟨kt i hi, ks i' hi', ?_⟩
      rw [nI_s]
      have hsrc : RD U (s + 21 + 4 * i') (fun i => A (173 + 25 * j + i)) n := by
        have z := h6 j hj
        rw [ei'] at z
        exact RD_fr (fun c a b => by rw [hU c (by omega), c6 c (by omega)]) z
      refine ih _ (fun c hc => ?_) (dc_s2.trans hU2) fun j' hj' => ?_
      · rw [dc_fr (by omega)]; exact hU c hc
      · by_cases e : j' = j
        · subst e
          rw [ei]
          exact dc_RD hsrc hn (by omega)
        · obtain ⟨i2, hi2, ei2⟩ := hPt.1 j' (by omega)
          have hne := hPt.2 j' j (by omega) hj8 e
          rw [ei, ei2] at hne
          have z := hD j' (by omega)
          rw [ei2] at z ⊢
          exact RD_fr (fun c a b => dc_fr (by omega)) z
  exact key 0 (Nat.zero_le _) T (fun _ _ => rfl) c7 fun j' h => absurd h (by omega)
end COPY
