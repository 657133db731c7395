/-! a run with a postcondition -/
abbrev vI : Int32 → Option Value := fun x => some (.int x)
abbrev vL : Int64 → Option Value := fun x => some (.long x)
abbrev vV : Unit → Option Value := fun _ => none
section PO
variable {α : Type} {e : α → Option Value} {d k pc pc' : Nat} {L L' : List (Option Value)} {st st' as : List Value} {S S' : fm_S} {Q Q' : α → fm_S → Prop}
def am_Po (e : α → Option Value) (d k pc : Nat) (L : List (Option Value)) (st : List Value) (S : fm_S) (Q : α → fm_S → Prop) : Prop := ∃ x S', am_Ev d k pc L st (fm_mk S) (e x, fm_mk S') ∧ Q x S'
def am_Ps (e : α → Option Value) (d k : Nat) (as : List Value) (S : fm_S) (Q : α → fm_S → Prop) : Prop := ∃ x S', am_Sp d k as (fm_mk S) (e x) (fm_mk S') ∧ Q x S'
theorem po_of (f : ∀ r, am_Ev d k pc' L' st' (fm_mk S') r → am_Ev d k pc L st (fm_mk S) r) (h : am_Po e d k pc' L' st' S' Q) : am_Po e d k pc L st S Q := by
  obtain ⟨x, S1, h1, h2⟩ := h
  exact ⟨x, S1, f _ h1, h2⟩
theorem ps_of {L : List (Option Value)} (hL : am_en as ++ List.replicate (am_mx k - (am_en as).length) none = L) (he : (am_en as).length ≤ am_mx k) (hk : k < am_N) (h : am_Po e d k 0 L [] S Q) : am_Ps e d k as S Q := by
  obtain ⟨x, S1, h1, h2⟩ := h
  exact ⟨x, S1, sp_of hL he hk h1, h2⟩
theorem ps_mono (h : am_Ps e d k as S Q) (m : ∀ x S', Q x S' → Q' x S') : am_Ps e d k as S Q' := by
  obtain ⟨x, S1, h1, h2⟩ := h
  exact ⟨x, S1, h1, m _ _ h2⟩
theorem po_mono (h : am_Po e d k pc L st S Q) (m : ∀ x S', Q x S' → Q' x S') : am_Po e d k pc L st S Q' := by
  obtain ⟨x, S1, h1, h2⟩ := h
  exact ⟨x, S1, h1, m _ _ h2⟩
theorem ps_sp {x : α} (h : am_Sp d k as (fm_mk S) (e x) (fm_mk S')) (q : Q x S') : am_Ps e d k as S Q := ⟨x, S', h, q⟩
end PO
