/-! the run as a relation: fuel forgotten -/
theorem am_run_up : ∀ (n : Nat) {d k pc : Nat} {L : List (Option Value)} {st : List Value} {w : am_W} {r : Option Value × am_W}, am_run n d k pc L st w = some r → am_run (n + 1) d k pc L st w = some r := by
  intro n
  induction n with
  | zero => intro d k pc L st w r h; cases h
  | succ n ih =>
    intro d k pc L st w r h
    rw [am_run] at h ⊢
    split at h
    next i z hd =>
      split at h
      next pc' L' st' w1 h1 => exact ih h
      next =>
        split at h
        next v1 h1 => exact h
        next =>
          split at h
          next k' as r1 h1 =>
            cases d with
            | zero => exact h
            | succ d' =>
              simp only at h ⊢
              split at h
              next hz =>
                rw [if_pos hz]
                split at h
                next v1 w1 h2 =>
                  rw [ih h2]
                  exact ih h
                next => cases h
              next => cases h
          next =>
            split at h
            next st' h1 =>
              split at h
              next hz => rw [if_pos hz]; exact ih h
              next => cases h
            next => cases h
    next => cases h
theorem am_run_le {n n' : Nat} (hn : n ≤ n') {d k pc : Nat} {L : List (Option Value)} {st : List Value} {w : am_W} {r : Option Value × am_W} (h : am_run n d k pc L st w = some r) : am_run n' d k pc L st w = some r := by
  obtain ⟨j, rfl⟩ := Nat.exists_eq_add_of_le hn
  induction j with
  | zero => exact h
  | succ j ih => exact am_run_up _ (ih (by omega))
def am_Ev (d k pc : Nat) (L : List (Option Value)) (st : List Value) (w : am_W) (r : Option Value × am_W) : Prop := ∃ n : Nat, am_run n d k pc L st w = some r
/-- a whole call -/
def am_Sp (d k : Nat) (as : List Value) (w : am_W) (v : Option Value) (w' : am_W) : Prop := (am_en as).length ≤ am_mx k ∧ k < am_N ∧ am_Ev d k 0 (am_en as ++ List.replicate (am_mx k - (am_en as).length) none) [] w (v, w')
section EV
variable {d k pc pc' z : Nat} {L L' : List (Option Value)} {st st' : List Value} {w w' w1 : am_W} {r : Option Value × am_W} {i : Instr}
theorem ev_one (hd : decode (am_code k) pc = .ok (i, z)) (h : am_one (am_kl k) (decide ((am_y k).name = "<init>")) d pc i z L st w = some (pc', L', st', w')) (nx : am_Ev d k pc' L' st' w' r) : am_Ev d k pc L st w r := by
  obtain ⟨n, hn⟩ := nx
  exact ⟨n + 1, by rw [am_run, hd]; simp only [h]; exact hn⟩
theorem ev_ret {v : Option Value} (hd : decode (am_code k) pc = .ok (i, 1)) (h1 : am_one (am_kl k) (decide ((am_y k).name = "<init>")) d pc i 1 L st w = none) (h : am_re (am_rt k) i st = some v) : am_Ev d k pc L st w (v, w) :=
  ⟨1, by rw [am_run, hd]; simp only [h1, h]; rfl⟩
theorem ev_call {k' : Nat} {as rs : List Value} {v : Option Value} (hd : decode (am_code k) pc = .ok (i, 3)) (h1 : am_one (am_kl k) (decide ((am_y k).name = "<init>")) (d + 1) pc i 3 L st w = none) (h2 : am_re (am_rt k) i st = none) (h : am_ca (am_kl k) i st w = some (k', as, rs))
    (hc : am_Sp d k' as w v w1) (nx : am_Ev (d + 1) k (pc + 3) L (v.toList ++ rs) w1 r) : am_Ev (d + 1) k pc L st w r := by
  obtain ⟨he, hk, n1, hn1⟩ := hc
  obtain ⟨n2, hn2⟩ := nx
  refine ⟨max n1 n2 + 1, ?_⟩
  rw [am_run, hd]
  simp only [h1, h2, h]
  rw [if_pos ⟨trivial, he, hk⟩, am_run_le (Nat.le_max_left n1 n2) hn1]
  exact am_run_le (Nat.le_max_right n1 n2) hn2
theorem ev_ext (hd : decode (am_code k) pc = .ok (i, 3)) (h1 : am_one (am_kl k) (decide ((am_y k).name = "<init>")) d pc i 3 L st w = none) (h2 : am_re (am_rt k) i st = none) (h : am_ca (am_kl k) i st w = none) (h3 : am_xe (am_kl k) d i st = some st')
    (nx : am_Ev d k (pc + 3) L st' w r) : am_Ev d k pc L st w r := by
  obtain ⟨n, hn⟩ := nx
  exact ⟨n + 1, by rw [am_run, hd]; simp only [h1, h2, h, h3]; exact hn⟩
end EV
section EVM
variable {l : Launch} {D : va_G} {dA : Nat → ClassId} {B : Nat} {sa : Nat → Nat}
/-- a call's contract for the machine -/
theorem am_Sp.met {X : State → Prop} (hX : am_XM B X) (hxe : am_XE l D dA B sa X) {d k mc ms : Nat} {as : List Value} {w w' : am_W} {v : Option Value} (h : am_Sp d k as w v w') (hmc : w.length + mc = w'.length) (hms : am_sz w + ms = am_sz w') :
    Met l (am_y k) (.code (am_y k) (am_code k) (am_mx k) (am_rt k) :: am_gw) (am_rm d mc ms) (am_Pc D dA B sa X as w) (am_Q D dA B sa v w') mc ms (fun q => B ≤ q) := by
  obtain ⟨he, hk, n, hn⟩ := h
  exact am_met (am_run_ok l hX hxe n) hk he hn hmc hms
end EVM
