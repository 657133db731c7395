/-! the plain groups are sound: by the kit's rows -/
def am_sh (B : Nat) (sa : Nat → Nat) : Value → Value
  | .ref a => .ref (B + a)
  | .retAddr k => .ref (sa k)
  | v => v
theorem am_sh_cat (B : Nat) (sa : Nat → Nat) (v : Value) : (am_sh B sa v).category = v.category := by cases v <;> rfl
theorem am_b2_of {f : Int32 → Int32 → Int32} {st st' : List Value} (h : am_b2 f st = some st') : ∃ x y r, st = .int y :: .int x :: r ∧ st' = .int (f x y) :: r := by
  unfold am_b2 at h
  split at h
  · cases h; exact ⟨_, _, _, rfl, rfl⟩
  · cases h
theorem am_d2_of {f : Int32 → Int32 → Int32} {st st' : List Value} (h : am_d2 f st = some st') : ∃ x y r, st = .int y :: .int x :: r ∧ ¬ y = 0 ∧ st' = .int (f x y) :: r := by
  unfold am_d2 at h
  split at h
  · split at h
    · cases h
    next hy => cases h; exact ⟨_, _, _, rfl, hy, rfl⟩
  · cases h
theorem am_l2_of {f : Int64 → Int64 → Int64} {st st' : List Value} (h : am_l2 f st = some st') : ∃ x y r, st = .long y :: .long x :: r ∧ st' = .long (f x y) :: r := by
  unfold am_l2 at h
  split at h
  · cases h; exact ⟨_, _, _, rfl, rfl⟩
  · cases h
theorem am_e2_of {f : Int64 → Int64 → Int64} {st st' : List Value} (h : am_e2 f st = some st') : ∃ x y r, st = .long y :: .long x :: r ∧ ¬ y = 0 ∧ st' = .long (f x y) :: r := by
  unfold am_e2 at h
  split at h
  · split at h
    · cases h
    next hy => cases h; exact ⟨_, _, _, rfl, hy, rfl⟩
  · cases h
section AMP
variable {p : Program} {l : Launch} {e : Env} {R : Room} {s : State} {m : MethodId} {args : Array Value} {below : List Frame} {meth : Method} {c : Code} {H : Heap} {locs : List Loc} {cells slots : Nat} {Q : State → Prop}
variable {cc : ByteArray} {pc : Nat} {ls : Array Slot} {B : Nat} {sa : Nat → Nat}
set_option maxHeartbeats 2000000 in
theorem am_stk_ok (hx : p.tables.exec = Jvm.exec) (hb : c.code = cc) {i : Instr} {z : Nat} {st st' : List Value} (h : am_stk i st = some st') (hd : decode cc pc = .ok (i, z)) (hz : am_ln i = z)
    (kk : W p l e R s m args below meth c H locs cells slots Q (F0 m (pc + z) ls (st'.map (am_sh B sa)))) : W p l e R s m args below meth c H locs cells slots Q (F0 m pc ls (st.map (am_sh B sa))) := by
  subst hz
  cases i with
  | iconst n => cases h; exact lv_iconst hx hb hd rfl kk
  | bipush n => cases h; exact lv_bipush hx hb hd rfl kk
  | sipush n => cases h; exact lv_sipush hx hb hd rfl kk
  | lconst n => cases h; exact lv_lconst hx hb hd rfl kk
  | iadd => obtain ⟨x, y, r, rfl, rfl⟩ := am_b2_of h; exact lv_iadd hx hb hd kk
  | isub => obtain ⟨x, y, r, rfl, rfl⟩ := am_b2_of h; exact lv_isub hx hb hd kk
  | imul => obtain ⟨x, y, r, rfl, rfl⟩ := am_b2_of h; exact lv_imul hx hb hd kk
  | iand => obtain ⟨x, y, r, rfl, rfl⟩ := am_b2_of h; exact lv_iand hx hb hd kk
  | ior => obtain ⟨x, y, r, rfl, rfl⟩ := am_b2_of h; exact lv_ior hx hb hd kk
  | ixor => obtain ⟨x, y, r, rfl, rfl⟩ := am_b2_of h; exact lv_ixor hx hb hd kk
  | ishl => obtain ⟨x, y, r, rfl, rfl⟩ := am_b2_of h; exact lv_ishl hx hb hd kk
  | ishr => obtain ⟨x, y, r, rfl, rfl⟩ := am_b2_of h; exact lv_ishr hx hb hd kk
  | iushr => obtain ⟨x, y, r, rfl, rfl⟩ := am_b2_of h; exact lv_iushr hx hb hd rfl kk
  | idiv => obtain ⟨x, y, r, rfl, hy, rfl⟩ := am_d2_of h; exact lv_idiv hx hb hd hy kk
  | irem => obtain ⟨x, y, r, rfl, hy, rfl⟩ := am_d2_of h; exact lv_irem hx hb hd hy kk
  | ladd => obtain ⟨x, y, r, rfl, rfl⟩ := am_l2_of h; exact lv_ladd hx hb hd kk
  | lmul => obtain ⟨x, y, r, rfl, rfl⟩ := am_l2_of h; exact lv_lmul hx hb hd kk
  | ldiv => obtain ⟨x, y, r, rfl, hy, rfl⟩ := am_e2_of h; exact lv_ldiv hx hb hd hy kk
  | lrem => obtain ⟨x, y, r, rfl, hy, rfl⟩ := am_e2_of h; exact lv_lrem hx hb hd hy kk
  | lcmp =>
    simp only [am_stk] at h
    split at h
    · cases h; exact W.lcmp hx hb hd kk
    · cases h
  | i2l =>
    simp only [am_stk] at h
    split at h
    · cases h; exact lv_i2l hx hb hd rfl kk
    · cases h
  | l2i =>
    simp only [am_stk] at h
    split at h
    · cases h; exact lv_l2i hx hb hd rfl kk
    · cases h
  | dup =>
    simp only [am_stk] at h
    split at h
    · split at h
      next hv => cases h; exact lv_dup hx hb hd ((am_sh_cat B sa _).trans hv) kk
      next => cases h
    · cases h
  | dup2 =>
    simp only [am_stk] at h
    split at h
    · split at h
      next hv => cases h; exact lv_dup2_11 hx hb hd ((am_sh_cat B sa _).trans hv.1) ((am_sh_cat B sa _).trans hv.2) kk
      next => cases h
    · cases h
  | pop =>
    simp only [am_stk] at h
    split at h
    · split at h
      next hv => cases h; exact lv_pop hx hb hd ((am_sh_cat B sa _).trans hv) kk
      next => cases h
    · cases h
  | _ => cases (show none = some st' from h)
theorem am_tg_of {pc : Nat} {off : Int} {t : Nat} (h : am_tg pc off = some t) : (pc : Int) + off = (t : Int) := by
  unfold am_tg at h
  split at h
  next hh => cases h; exact (Int.toNat_of_nonneg hh).symm
  next => cases h
theorem am_go_of {pc : Nat} {off : Int} {C : Prop} [Decidable C] {r r' : List Value} {t' : Nat} (h : am_go pc off C r = some (t', r')) : r' = r ∧ ∃ t : Nat, (pc : Int) + off = (t : Int) ∧ ((C ∧ t' = t) ∨ (¬ C ∧ t' = pc + 3)) := by
  unfold am_go at h
  split at h
  next t ht =>
    split at h
    next hc => cases h; exact ⟨rfl, _, am_tg_of ht, Or.inl ⟨hc, rfl⟩⟩
    next hc => cases h; exact ⟨rfl, _, am_tg_of ht, Or.inr ⟨hc, rfl⟩⟩
  next => cases h
theorem am_br_ok (hx : p.tables.exec = Jvm.exec) (hb : c.code = cc) {i : Instr} {z : Nat} {st st' : List Value} {t : Nat} (h : am_br pc i st = some (t, st')) (hd : decode cc pc = .ok (i, z)) (hz : (∃ o, i = .goto o) ∨ (∃ a o, i = .ifCond a o) ∨ (∃ a o, i = .if_icmp a o) → z = 3)
    (kk : W p l e R s m args below meth c H locs cells slots Q (F0 m t ls (st'.map (am_sh B sa)))) : W p l e R s m args below meth c H locs cells slots Q (F0 m pc ls (st.map (am_sh B sa))) := by
  cases i with
  | goto off =>
    obtain rfl := hz (Or.inl ⟨_, rfl⟩)
    simp only [am_br] at h
    split at h
    next t ht => cases h; exact lv_goto hx hb hd (am_tg_of ht) kk
    next => cases h
  | ifCond cd off =>
    obtain rfl := hz (Or.inr (Or.inl ⟨_, _, rfl⟩))
    simp only [am_br] at h
    split at h
    next x r =>
      cases cd with
      | eq => obtain ⟨rfl, t, ht, hc⟩ := am_go_of h; exact lv_if_eq (tgt := t) hx hb hd ht (fun k => by rcases hc with ⟨-, rfl⟩ | ⟨q, -⟩; exact kk; exact absurd k q) (fun k => by rcases hc with ⟨q, -⟩ | ⟨-, rfl⟩; exact absurd q k; exact kk)
      | ne => obtain ⟨rfl, t, ht, hc⟩ := am_go_of h; exact lv_if_ne (tgt := t) hx hb hd ht (fun k => by rcases hc with ⟨-, rfl⟩ | ⟨q, -⟩; exact kk; exact absurd k q) (fun k => by rcases hc with ⟨q, -⟩ | ⟨-, rfl⟩; exact absurd k q; exact kk)
      | lt => obtain ⟨rfl, t, ht, hc⟩ := am_go_of h; exact lv_if_lt (tgt := t) hx hb hd ht (fun k => by rcases hc with ⟨-, rfl⟩ | ⟨q, -⟩; exact kk; exact absurd k q) (fun k => by rcases hc with ⟨q, -⟩ | ⟨-, rfl⟩; exact absurd q k; exact kk)
      | ge => obtain ⟨rfl, t, ht, hc⟩ := am_go_of h; exact lv_if_ge (tgt := t) hx hb hd ht (fun k => by rcases hc with ⟨-, rfl⟩ | ⟨q, -⟩; exact kk; exact absurd k q) (fun k => by rcases hc with ⟨q, -⟩ | ⟨-, rfl⟩; exact absurd q k; exact kk)
      | gt => obtain ⟨rfl, t, ht, hc⟩ := am_go_of h; exact lv_if_gt (tgt := t) hx hb hd ht (fun k => by rcases hc with ⟨-, rfl⟩ | ⟨q, -⟩; exact kk; exact absurd k q) (fun k => by rcases hc with ⟨q, -⟩ | ⟨-, rfl⟩; exact absurd q k; exact kk)
      | le => obtain ⟨rfl, t, ht, hc⟩ := am_go_of h; exact lv_if_le (tgt := t) hx hb hd ht (fun k => by rcases hc with ⟨-, rfl⟩ | ⟨q, -⟩; exact kk; exact absurd k q) (fun k => by rcases hc with ⟨q, -⟩ | ⟨-, rfl⟩; exact absurd q k; exact kk)
    next => cases h
  | if_icmp cd off =>
    obtain rfl := hz (Or.inr (Or.inr ⟨_, _, rfl⟩))
    simp only [am_br] at h
    split at h
    next y x r =>
      cases cd with
      | eq => obtain ⟨rfl, t, ht, hc⟩ := am_go_of h; exact lv_icmp_eq (tgt := t) hx hb hd ht (fun k => by rcases hc with ⟨-, rfl⟩ | ⟨q, -⟩; exact kk; exact absurd k q) (fun k => by rcases hc with ⟨q, -⟩ | ⟨-, rfl⟩; exact absurd q k; exact kk)
      | ne => obtain ⟨rfl, t, ht, hc⟩ := am_go_of h; exact lv_icmp_ne (tgt := t) hx hb hd ht (fun k => by rcases hc with ⟨-, rfl⟩ | ⟨q, -⟩; exact kk; exact absurd k q) (fun k => by rcases hc with ⟨q, -⟩ | ⟨-, rfl⟩; exact absurd k q; exact kk)
      | lt => obtain ⟨rfl, t, ht, hc⟩ := am_go_of h; exact lv_icmp_lt (tgt := t) hx hb hd ht (fun k => by rcases hc with ⟨-, rfl⟩ | ⟨q, -⟩; exact kk; exact absurd k q) (fun k => by rcases hc with ⟨q, -⟩ | ⟨-, rfl⟩; exact absurd q k; exact kk)
      | ge => obtain ⟨rfl, t, ht, hc⟩ := am_go_of h; exact lv_icmp_ge (tgt := t) hx hb hd ht (fun k => by rcases hc with ⟨-, rfl⟩ | ⟨q, -⟩; exact kk; exact absurd k q) (fun k => by rcases hc with ⟨q, -⟩ | ⟨-, rfl⟩; exact absurd q k; exact kk)
      | gt => obtain ⟨rfl, t, ht, hc⟩ := am_go_of h; exact lv_icmp_gt (tgt := t) hx hb hd ht (fun k => by rcases hc with ⟨-, rfl⟩ | ⟨q, -⟩; exact kk; exact absurd k q) (fun k => by rcases hc with ⟨q, -⟩ | ⟨-, rfl⟩; exact absurd q k; exact kk)
      | le => obtain ⟨rfl, t, ht, hc⟩ := am_go_of h; exact lv_icmp_le (tgt := t) hx hb hd ht (fun k => by rcases hc with ⟨-, rfl⟩ | ⟨q, -⟩; exact kk; exact absurd k q) (fun k => by rcases hc with ⟨q, -⟩ | ⟨-, rfl⟩; exact absurd q k; exact kk)
    next => cases h
  | tableswitch dflt lo hi offs =>
    simp only [am_br] at h
    split at h
    · split at h
      next ho =>
        split at h
        next t ht => cases h; exact lv_tableOut hx hb hd ho (am_tg_of ht) kk
        next => cases h
      next ho =>
        split at h
        next off hoff =>
          split at h
          next t ht => cases h; exact lv_tableIn hx hb hd (fun q => ho (Or.inl q)) (fun q => ho (Or.inr q)) hoff (am_tg_of ht) kk
          next => cases h
        next => cases h
    · cases h
  | lookupswitch dflt ps =>
    simp only [am_br] at h
    split at h
    · split at h
      next hp =>
        split at h
        next t ht => cases h; exact lv_lookup hx hb hd hp rfl (am_tg_of ht) kk
        next => cases h
      next => cases h
    · cases h
  | _ => cases (show none = some (t, st') from h)
end AMP
