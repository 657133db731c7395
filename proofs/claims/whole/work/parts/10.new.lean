/-! the memory behind the constructors: printed by wip/whole/gen10.py -/
def fm_i0 : List (Nat × Nat × Int32) := [(7, 1, 1), (7, 2, 2), (7, 3, 3), (18, 0, -1), (18, 1, -1), (18, 2, -1), (18, 3, -1), (18, 4, -1), (18, 5, -1), (18, 6, -1), (18, 7, -1), (19, 0, -1), (19, 1, -1), (19, 2, -1), (19, 3, -1), (19, 4, -1), (19, 5, -1), (19, 6, -1), (19, 7, -1), (74, 1, 1), (74, 2, 2), (74, 3, 3), (85, 0, -1), (85, 1, -1), (85, 2, -1), (85, 3, -1), (85, 4, -1), (85, 5, -1), (85, 6, -1), (85, 7, -1), (86, 0, -1), (86, 1, -1), (86, 2, -1), (86, 3, -1), (86, 4, -1), (86, 5, -1), (86, 6, -1), (86, 7, -1), (130, 1, 1), (130, 2, 2), (130, 3, 3), (141, 0, -1), (141, 1, -1), (141, 2, -1), (141, 3, -1), (141, 4, -1), (141, 5, -1), (141, 6, -1), (141, 7, -1), (142, 0, -1), (142, 1, -1), (142, 2, -1), (142, 3, -1), (142, 4, -1), (142, 5, -1), (142, 6, -1), (142, 7, -1), (183, 1, 1), (183, 2, 2), (183, 3, 3), (194, 0, -1), (194, 1, -1), (194, 2, -1), (194, 3, -1), (194, 4, -1), (194, 5, -1), (194, 6, -1), (194, 7, -1), (195, 0, -1), (195, 1, -1), (195, 2, -1), (195, 3, -1), (195, 4, -1), (195, 5, -1), (195, 6, -1), (195, 7, -1), (232, 122, 1), (232, 123, 2), (232, 124, 3)]
def fm_l0 : List (Nat × Nat × Int64) := [(122, 1, 1), (231, 7, 1)]
def fm_lk {α : Type} (d : α) : List (Nat × Nat × α) → Nat → Nat → α
  | [], _, _ => d
  | (a, i, x) :: t, b, j => if a = b ∧ i = j then x else fm_lk d t b j
def fm_S0 : fm_S := (fm_lk 0 fm_i0, fm_lk 0 fm_l0, fun a i => a + 1 + 4 * i)
def fm_nx : Nat := 231
/-! the constructors by the kernel, over code that is decoded once: printed by wip/whole/gen10.py -/
def am_fl0 : List (Nat × Instr × Nat) := [(0, .aload_n 0, 1), (1, .invokespecial 1, 3), (4, .aload_n 0, 1), (5, .new 7, 3), (8, .dup, 1), (9, .invokespecial 9, 3), (12, .putfield 10, 3), (15, .aload_n 0, 1), (16, .new 16, 3), (19, .dup, 1), (20, .aload_n 0, 1), (21, .getfield 10, 3), (24, .invokespecial 18, 3), (27, .putfield 21, 3), (30, .aload_n 0, 1), (31, .new 25, 3), (34, .dup, 1), (35, .invokespecial 27, 3), (38, .putfield 28, 3), (41, .aload_n 0, 1), (42, .new 32, 3), (45, .dup, 1), (46, .invokespecial 34, 3), (49, .putfield 35, 3), (52, .aload_n 0, 1), (53, .iconst 2, 1), (54, .anewarray 7, 3), (57, .putfield 39, 3), (60, .iconst 0, 1), (61, .istore_n 1, 1), (62, .iload_n 1, 1), (63, .aload_n 0, 1), (64, .getfield 39, 3), (67, .arraylength, 1), (68, .if_icmp .ge 22, 3), (71, .aload_n 0, 1), (72, .getfield 39, 3), (75, .iload_n 1, 1), (76, .new 7, 3), (79, .dup, 1), (80, .invokespecial 9, 3), (83, .aastore, 1), (84, .iinc 1 1, 3), (87, .goto (-25), 3), (90, .aload_n 0, 1), (91, .iconst 2, 1), (92, .newarray .boolean, 2), (94, .putfield 43, 3), (97, .return_, 1)]
def am_fl1 : List (Nat × Instr × Nat) := [(0, .aload_n 0, 1), (1, .invokespecial 3, 3), (4, .aload_n 0, 1), (5, .bipush 8, 2), (7, .newarray .int, 2), (9, .putfield 9, 3), (12, .aload_n 0, 1), (13, .bipush 8, 2), (15, .newarray .int, 2), (17, .putfield 15, 3), (20, .aload_n 0, 1), (21, .bipush 8, 2), (23, .newarray .int, 2), (25, .putfield 18, 3), (28, .aload_n 0, 1), (29, .bipush 8, 2), (31, .newarray .int, 2), (33, .putfield 21, 3), (36, .aload_n 0, 1), (37, .iconst 4, 1), (38, .newarray .int, 2), (40, .putfield 24, 3), (43, .aload_n 0, 1), (44, .iconst 4, 1), (45, .newarray .int, 2), (47, .putfield 27, 3), (50, .aload_n 0, 1), (51, .bipush 6, 2), (53, .newarray .int, 2), (55, .putfield 30, 3), (58, .aload_n 0, 1), (59, .bipush 6, 2), (61, .newarray .int, 2), (63, .putfield 33, 3), (66, .aload_n 0, 1), (67, .bipush 6, 2), (69, .newarray .int, 2), (71, .putfield 36, 3), (74, .aload_n 0, 1), (75, .new 39, 3), (78, .dup, 1), (79, .invokespecial 41, 3), (82, .putfield 42, 3), (85, .aload_n 0, 1), (86, .new 46, 3), (89, .dup, 1), (90, .invokespecial 48, 3), (93, .putfield 49, 3), (96, .aload_n 0, 1), (97, .bipush 8, 2), (99, .anewarray 46, 3), (102, .putfield 53, 3), (105, .iconst 0, 1), (106, .istore_n 1, 1), (107, .iload_n 1, 1), (108, .aload_n 0, 1), (109, .getfield 53, 3), (112, .arraylength, 1), (113, .if_icmp .ge 22, 3), (116, .aload_n 0, 1), (117, .getfield 53, 3), (120, .iload_n 1, 1), (121, .new 46, 3), (124, .dup, 1), (125, .invokespecial 48, 3), (128, .aastore, 1), (129, .iinc 1 1, 3), (132, .goto (-25), 3), (135, .aload_n 0, 1), (136, .invokevirtual 57, 3), (139, .return_, 1)]
def am_fl2 : List (Nat × Instr × Nat) := [(0, .aload_n 0, 1), (1, .invokespecial 3, 3), (4, .aload_n 0, 1), (5, .bipush 6, 2), (7, .newarray .int, 2), (9, .putfield 9, 3), (12, .aload_n 0, 1), (13, .bipush 6, 2), (15, .newarray .int, 2), (17, .putfield 15, 3), (20, .aload_n 0, 1), (21, .bipush 6, 2), (23, .newarray .int, 2), (25, .putfield 18, 3), (28, .aload_n 0, 1), (29, .bipush 6, 2), (31, .newarray .int, 2), (33, .putfield 21, 3), (36, .aload_n 0, 1), (37, .bipush 6, 2), (39, .newarray .int, 2), (41, .putfield 24, 3), (44, .return_, 1)]
def am_fl3 : List (Nat × Instr × Nat) := [(0, .aload_n 0, 1), (1, .invokespecial 3, 3), (4, .aload_n 0, 1), (5, .bipush 8, 2), (7, .newarray .int, 2), (9, .putfield 9, 3), (12, .aload_n 0, 1), (13, .bipush 8, 2), (15, .newarray .int, 2), (17, .putfield 15, 3), (20, .aload_n 0, 1), (21, .bipush 8, 2), (23, .newarray .int, 2), (25, .putfield 18, 3), (28, .return_, 1)]
def am_fl6 : List (Nat × Instr × Nat) := [(0, .aload_n 0, 1), (1, .invokespecial 3, 3), (4, .aload_n 0, 1), (5, .iconst 4, 1), (6, .newarray .int, 2), (8, .putfield 9, 3), (11, .aload_n 0, 1), (12, .new 15, 3), (15, .dup, 1), (16, .invokespecial 17, 3), (19, .putfield 18, 3), (22, .aload_n 0, 1), (23, .new 22, 3), (26, .dup, 1), (27, .invokespecial 24, 3), (30, .putfield 25, 3), (33, .aload_n 0, 1), (34, .iconst 4, 1), (35, .newarray .int, 2), (37, .putfield 29, 3), (40, .aload_n 0, 1), (41, .bipush 24, 2), (43, .newarray .int, 2), (45, .putfield 32, 3), (48, .aload_n 0, 1), (49, .bipush 6, 2), (51, .newarray .int, 2), (53, .putfield 35, 3), (56, .aload_n 0, 1), (57, .bipush 63, 2), (59, .newarray .int, 2), (61, .putfield 38, 3), (64, .aload_n 0, 1), (65, .aload_n 1, 1), (66, .putfield 41, 3), (69, .return_, 1)]
def am_fl7 : List (Nat × Instr × Nat) := [(0, .aload_n 0, 1), (1, .invokespecial 3, 3), (4, .aload_n 0, 1), (5, .bipush 8, 2), (7, .newarray .int, 2), (9, .putfield 9, 3), (12, .aload_n 0, 1), (13, .bipush 8, 2), (15, .newarray .int, 2), (17, .putfield 15, 3), (20, .return_, 1)]
def am_fl8 : List (Nat × Instr × Nat) := [(0, .aload_n 0, 1), (1, .invokespecial 3, 3), (4, .aload_n 0, 1), (5, .new 9, 3), (8, .dup, 1), (9, .invokespecial 11, 3), (12, .putfield 12, 3), (15, .aload_n 0, 1), (16, .sipush 150, 3), (19, .newarray .int, 2), (21, .putfield 18, 3), (24, .return_, 1)]
def am_fl9 : List (Nat × Instr × Nat) := [(0, .aload_n 0, 1), (1, .invokespecial 1, 3), (4, .aload_n 0, 1), (5, .lconst 0, 1), (6, .putfield 7, 3), (9, .aload_n 0, 1), (10, .lconst 1, 1), (11, .putfield 13, 3), (14, .return_, 1)]
def am_fl134 : List (Nat × Instr × Nat) := [(0, .aload_n 0, 1), (1, .invokespecial 1, 3), (4, .aload_n 0, 1), (5, .sipush 373, 3), (8, .newarray .int, 2), (10, .putfield 7, 3), (13, .aload_n 0, 1), (14, .sipush 373, 3), (17, .newarray .int, 2), (19, .putfield 13, 3), (22, .aload_n 0, 1), (23, .sipush 746, 3), (26, .newarray .int, 2), (28, .putfield 16, 3), (31, .aload_n 0, 1), (32, .iconst 2, 1), (33, .newarray .int, 2), (35, .putfield 19, 3), (38, .aload_n 0, 1), (39, .sipush 150, 3), (42, .newarray .int, 2), (44, .putfield 22, 3), (47, .aload_n 0, 1), (48, .iconst 3, 1), (49, .newarray .int, 2), (51, .putfield 25, 3), (54, .aload_n 0, 1), (55, .bipush 8, 2), (57, .newarray .int, 2), (59, .putfield 28, 3), (62, .aload_n 0, 1), (63, .bipush 25, 2), (65, .newarray .int, 2), (67, .putfield 31, 3), (70, .aload_n 0, 1), (71, .iconst 4, 1), (72, .newarray .int, 2), (74, .putfield 34, 3), (77, .aload_n 0, 1), (78, .bipush 6, 2), (80, .newarray .int, 2), (82, .putfield 37, 3), (85, .aload_n 0, 1), (86, .bipush 63, 2), (88, .newarray .int, 2), (90, .putfield 40, 3), (93, .aload_n 0, 1), (94, .bipush 9, 2), (96, .newarray .long, 2), (98, .putfield 43, 3), (101, .aload_n 0, 1), (102, .lconst 1, 1), (103, .putfield 47, 3), (106, .aload_n 0, 1), (107, .getfield 7, 3), (110, .invokestatic 51, 3), (113, .return_, 1)]
def am_fl4 : List (Nat × Instr × Nat) := [(0, .aload_n 0, 1), (1, .iconst 0, 1), (2, .putfield 60, 3), (5, .aload_n 0, 1), (6, .iconst 0, 1), (7, .putfield 64, 3), (10, .aload_n 0, 1), (11, .getfield 42, 3), (14, .iconst 0, 1), (15, .putfield 67, 3), (18, .aload_n 0, 1), (19, .iconst 0, 1), (20, .putfield 70, 3), (23, .aload_n 0, 1), (24, .getfield 49, 3), (27, .invokevirtual 73, 3), (30, .iconst 0, 1), (31, .istore_n 1, 1), (32, .iload_n 1, 1), (33, .iconst 4, 1), (34, .if_icmp .ge 23, 3), (37, .aload_n 0, 1), (38, .getfield 24, 3), (41, .iload_n 1, 1), (42, .iconst 0, 1), (43, .iastore, 1), (44, .aload_n 0, 1), (45, .getfield 27, 3), (48, .iload_n 1, 1), (49, .iload_n 1, 1), (50, .iastore, 1), (51, .iinc 1 1, 3), (54, .goto (-22), 3), (57, .iconst 0, 1), (58, .istore_n 1, 1), (59, .iload_n 1, 1), (60, .bipush 8, 2), (62, .if_icmp .ge 16, 3), (65, .aload_n 0, 1), (66, .getfield 21, 3), (69, .iload_n 1, 1), (70, .iconst 0, 1), (71, .iastore, 1), (72, .iinc 1 1, 3), (75, .goto (-16), 3), (78, .return_, 1)]
def am_fl5 : List (Nat × Instr × Nat) := [(0, .aload_n 0, 1), (1, .iconst 0, 1), (2, .putfield 21, 3), (5, .iconst 0, 1), (6, .istore_n 1, 1), (7, .iload_n 1, 1), (8, .bipush 8, 2), (10, .if_icmp .ge 30, 3), (13, .aload_n 0, 1), (14, .getfield 9, 3), (17, .iload_n 1, 1), (18, .iconst (-1), 1), (19, .iastore, 1), (20, .aload_n 0, 1), (21, .getfield 15, 3), (24, .iload_n 1, 1), (25, .iconst (-1), 1), (26, .iastore, 1), (27, .aload_n 0, 1), (28, .getfield 18, 3), (31, .iload_n 1, 1), (32, .iconst 0, 1), (33, .iastore, 1), (34, .iinc 1 1, 3), (37, .goto (-30), 3), (40, .return_, 1)]
def am_fl135 : List (Nat × Instr × Nat) := [(0, .iconst 0, 1), (1, .istore_n 1, 1), (2, .iload_n 1, 1), (3, .sipush 373, 3), (6, .if_icmp .ge 13, 3), (9, .aload_n 0, 1), (10, .iload_n 1, 1), (11, .iconst 0, 1), (12, .iastore, 1), (13, .iinc 1 1, 3), (16, .goto (-14), 3), (19, .iconst 0, 1), (20, .istore_n 1, 1), (21, .iload_n 1, 1), (22, .iconst 4, 1), (23, .if_icmp .ge 16, 3), (26, .aload_n 0, 1), (27, .bipush 121, 2), (29, .iload_n 1, 1), (30, .iadd, 1), (31, .iload_n 1, 1), (32, .iastore, 1), (33, .iinc 1 1, 3), (36, .goto (-15), 3), (39, .return_, 1)]
def am_fz : List (Nat × List (Nat × Instr × Nat)) := [(0, am_fl0), (1, am_fl1), (2, am_fl2), (3, am_fl3), (6, am_fl6), (7, am_fl7), (8, am_fl8), (9, am_fl9), (134, am_fl134), (4, am_fl4), (5, am_fl5), (135, am_fl135)]
def am_f1 {α : Type} : List (Nat × α) → Nat → Option α
  | [], _ => none
  | (a, x) :: t, b => if a = b then some x else am_f1 t b
theorem am_f1_mem {α : Type} {b : Nat} {x : α} : ∀ {l : List (Nat × α)}, am_f1 l b = some x → (b, x) ∈ l
  | [], h => by cases h
  | (a, y) :: t, h => by
    unfold am_f1 at h
    split at h
    next e => subst e; cases h; exact List.mem_cons_self
    next => exact List.mem_cons_of_mem _ (am_f1_mem h)
def am_fcode (k pc : Nat) : Option (Instr × Nat) := match am_f1 am_fz k with
  | some l => am_f1 l pc
  | none => none
theorem am_fk0 : ∀ q ∈ am_fl0, decode (am_code 0) q.1 = .ok q.2 := by decide +kernel
theorem am_fk1 : ∀ q ∈ am_fl1, decode (am_code 1) q.1 = .ok q.2 := by decide +kernel
theorem am_fk2 : ∀ q ∈ am_fl2, decode (am_code 2) q.1 = .ok q.2 := by decide +kernel
theorem am_fk3 : ∀ q ∈ am_fl3, decode (am_code 3) q.1 = .ok q.2 := by decide +kernel
theorem am_fk4 : ∀ q ∈ am_fl6, decode (am_code 6) q.1 = .ok q.2 := by decide +kernel
theorem am_fk5 : ∀ q ∈ am_fl7, decode (am_code 7) q.1 = .ok q.2 := by decide +kernel
theorem am_fk6 : ∀ q ∈ am_fl8, decode (am_code 8) q.1 = .ok q.2 := by decide +kernel
theorem am_fk7 : ∀ q ∈ am_fl9, decode (am_code 9) q.1 = .ok q.2 := by decide +kernel
theorem am_fk8 : ∀ q ∈ am_fl134, decode (am_code 134) q.1 = .ok q.2 := by decide +kernel
theorem am_fk9 : ∀ q ∈ am_fl4, decode (am_code 4) q.1 = .ok q.2 := by decide +kernel
theorem am_fk10 : ∀ q ∈ am_fl5, decode (am_code 5) q.1 = .ok q.2 := by decide +kernel
theorem am_fk11 : ∀ q ∈ am_fl135, decode (am_code 135) q.1 = .ok q.2 := by decide +kernel
theorem am_fok {k pc : Nat} {q : Instr × Nat} (h : am_fcode k pc = some q) : decode (am_code k) pc = .ok q := by
  unfold am_fcode at h
  split at h
  next l hl =>
    have h2 := am_f1_mem h
    have h1 := am_f1_mem hl
    simp only [am_fz, List.mem_cons, List.not_mem_nil, or_false, Prod.mk.injEq] at h1
    rcases h1 with ⟨rfl, rfl⟩ | ⟨rfl, rfl⟩ | ⟨rfl, rfl⟩ | ⟨rfl, rfl⟩ | ⟨rfl, rfl⟩ | ⟨rfl, rfl⟩ | ⟨rfl, rfl⟩ | ⟨rfl, rfl⟩ | ⟨rfl, rfl⟩ | ⟨rfl, rfl⟩ | ⟨rfl, rfl⟩ | ⟨rfl, rfl⟩
    · exact am_fk0 (pc, q) h2
    · exact am_fk1 (pc, q) h2
    · exact am_fk2 (pc, q) h2
    · exact am_fk3 (pc, q) h2
    · exact am_fk4 (pc, q) h2
    · exact am_fk5 (pc, q) h2
    · exact am_fk6 (pc, q) h2
    · exact am_fk7 (pc, q) h2
    · exact am_fk8 (pc, q) h2
    · exact am_fk9 (pc, q) h2
    · exact am_fk10 (pc, q) h2
    · exact am_fk11 (pc, q) h2
  next => cases h
/-- the run over decoded code -/
def am_runF : Nat → Nat → Nat → Nat → List (Option Value) → List Value → am_W → Option (Option Value × am_W)
  | 0, _, _, _, _, _, _ => none
  | n + 1, d, k, pc, L, st, w => match am_fcode k pc with
    | some (i, z) => match am_one (am_kl k) (decide ((am_y k).name = "<init>")) d pc i z L st w with
      | some (pc', L', st', w') => am_runF n d k pc' L' st' w'
      | none => match am_re (am_rt k) i st with
        | some v => if z = 1 then some (v, w) else none
        | none => match am_ca (am_kl k) i st w with
          | some (k', as, r) => match d with
            | 0 => none
            | d' + 1 => if z = 3 ∧ (am_en as).length ≤ am_mx k' ∧ k' < am_N then (match am_runF n d' k' 0 (am_en as ++ List.replicate (am_mx k' - (am_en as).length) none) [] w with
              | some (v, w') => am_runF n (d' + 1) k (pc + 3) L (v.toList ++ r) w'
              | none => none) else none
          | none => none
    | none => none
theorem am_runF_ok : ∀ (n : Nat) {d k pc : Nat} {L : List (Option Value)} {st : List Value} {w : am_W} {r : Option Value × am_W}, am_runF n d k pc L st w = some r → am_run n d k pc L st w = some r := by
  intro n
  induction n with
  | zero => intro d k pc L st w r h; cases h
  | succ n ih =>
    intro d k pc L st w r h
    rw [am_runF] at h
    split at h
    next i z hd =>
      rw [am_run, am_fok hd]
      simp only
      split at h
      next pc' L' st' w1 h1 => simp only [h1]; exact ih h
      next h0 =>
        simp only [h0]
        split at h
        next v1 h1 => simp only [h1]; exact h
        next h1 =>
          simp only [h1]
          split at h
          next k' as r1 h2 =>
            simp only [h2]
            cases d with
            | zero => cases h
            | succ d' =>
              simp only at h ⊢
              split at h
              next hz =>
                rw [if_pos hz]
                split at h
                next v1 w1 h3 =>
                  rw [ih h3]
                  exact ih h
                next => cases h
              next => cases h
          next => cases h
    next => cases h
