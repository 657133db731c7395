/-! the String constants' own members are sound -/
theorem am_sum5 {B : Nat} {sa : Nat → Nat} {r : List Value} (h : r.length ≤ 4) : (((r.map (am_sh B sa)).map fun v => v.category).sum) ≤ 8 := by
  have := am_sum4 (B := B) (sa := sa) r
  omega
theorem JX_XE (l : Launch) {D : va_G} {dA : Nat → ClassId} {B : Nat} {adK adV : Nat → Nat} : am_XE l D dA B adK (JX adK adV B) := by
  intro p e R s m args below meth c H locs cells slots Q pc ls k d i st st' F hsz hK hX hS hB hc hs h hd kk
  obtain ⟨hx, hb, hrt, hml, hown, hlk, hnm, hts, hfr, hlo⟩ := F
  cases i with
  | invokevirtual idx =>
    simp only [am_xe] at h
    split at h
    next q hq =>
      split at h
      next hd6 =>
        obtain ⟨d', rfl⟩ : ∃ d', d = d' + 4 := ⟨d - 4, by omega⟩
        have hm := am_lk_mem hq
        have hS2 : CallFix p m c (am_code k) (am_mx k) s args am_gw (am_R (am_kl k)) := ⟨hx, hb, hml, hown, hts⟩
        simp only [am_ex, List.mem_cons, List.not_mem_nil, or_false, Prod.mk.injEq] at hm
        rcases hm with ⟨hk, rfl, hq2⟩ | ⟨hk, rfl, hq2⟩
        · subst hq2
          cases st with
          | nil => cases h
          | cons v r =>
            cases v with
            | retAddr j =>
              change (match am_tx[j]? with
                | some t => if r.length ≤ 4 then some (Value.int (Int32.ofNat t.length) :: r) else none
                | none => none) = some st' at h
              split at h
              next t ht =>
                split at h
                next hr =>
                  cases h
                  have hj : j < 6 := (List.getElem?_eq_some_iff.mp ht).1
                  have hg : am_tx.getD j [] = t := by rw [List.getD_eq_getElem?_getD, ht]; rfl
                  rw [hk] at hS2
                  have hM := j_length (l := l) (adK := adK) (adV := adV) (B := B) hj (d' + 2)
                  rw [hg] at hM
                  exact jd_runV (As := []) (rest := r.map (am_sh B adK)) hS2 hsz hfr hlo hX hS hj hM rfl wJ0_length_8abf5 (by decide) (by decide +kernel) wJl0 wJn0 wJs0 rfl (am_sum5 hr) hd ⟨hc, hs⟩ kk
                next => cases h
              next => cases h
            | _ => cases h
        · subst hq2
          cases st with
          | nil => cases h
          | cons v r1 =>
            cases v with
            | int x =>
              cases r1 with
              | nil => cases h
              | cons v2 r =>
                cases v2 with
                | retAddr j =>
                  change (match am_tx[j]? with
                    | some t => if x < 0 ∨ 4 < r.length then none else (match t[x.toNatClampNeg]? with
                      | some y => some (Value.int y :: r)
                      | none => none)
                    | none => none) = some st' at h
                  split at h
                  next t ht =>
                    split at h
                    next => cases h
                    next hr =>
                      split at h
                      next ch hch =>
                        cases h
                        have hj : j < 6 := (List.getElem?_eq_some_iff.mp ht).1
                        have hg : am_tx.getD j [] = t := by rw [List.getD_eq_getElem?_getD, ht]; rfl
                        obtain ⟨jj, hjj, rfl⟩ := nI_of (fun z => hr (Or.inl z))
                        rw [nI_clamp hjj] at hch
                        have hlt : jj < t.length := (List.getElem?_eq_some_iff.mp hch).1
                        rw [hk] at hS2
                        have hM := j_charAt (l := l) (adK := adK) (adV := adV) (B := B) (j := jj) hj (by rw [hg]; exact hlt) d'
                        rw [hg, show t.getD jj 0 = ch from by rw [List.getD_eq_getElem?_getD, hch]; rfl] at hM
                        exact jd_runV (As := [.int (nI jj)]) (rest := r.map (am_sh B adK)) hS2 hsz hfr hlo hX hS hj hM rfl wJ0_charAt_5068e (by decide) (show (parseMethodDescriptor yJ0_charAt_5068e.desc).map (fun d => d.parameters.length) = some 1 by decide +kernel) wJl2 wJn2 wJs2 rfl (am_sum5 (Nat.le_of_not_lt fun z => hr (Or.inr z))) hd ⟨hc, hs⟩ kk
                      next => cases h
                  next => cases h
                | _ => cases h
            | _ => cases h
      next => cases h
    next => cases h
  | _ => cases (show none = some st' from h)
