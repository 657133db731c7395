/-! THE ABSTRACT MACHINE: values are the machine's own, but a reference is the place of a cell in the world (a list of cells; a cell: a kind and its values; 100 int[], 101 long[], 102 boolean[], 103 Days[], 104 Town[]); retAddr k is the k-th string constant -/
def am_tg (pc : Nat) (off : Int) : Option Nat := if 0 ≤ (pc : Int) + off then some ((pc : Int) + off).toNat else none
def am_ln : Instr → Nat
  | .bipush _ | .iload _ | .lload _ | .aload _ | .istore _ | .lstore _ | .astore _ | .newarray _ | .ldc _ => 2
  | .sipush _ | .iinc _ _ | .getfield _ | .putfield _ | .ldc_w _ | .ldc2_w _ | .new _ | .anewarray _ | .invokespecial _ | .invokestatic _ | .invokevirtual _ | .ifCond _ _ | .if_icmp _ _ | .goto _ => 3
  | _ => 1
def am_b2 (f : Int32 → Int32 → Int32) : List Value → Option (List Value)
  | .int y :: .int x :: r => some (.int (f x y) :: r)
  | _ => none
def am_d2 (f : Int32 → Int32 → Int32) : List Value → Option (List Value)
  | .int y :: .int x :: r => if y = 0 then none else some (.int (f x y) :: r)
  | _ => none
def am_l2 (f : Int64 → Int64 → Int64) : List Value → Option (List Value)
  | .long y :: .long x :: r => some (.long (f x y) :: r)
  | _ => none
def am_e2 (f : Int64 → Int64 → Int64) : List Value → Option (List Value)
  | .long y :: .long x :: r => if y = 0 then none else some (.long (f x y) :: r)
  | _ => none
/-- what works on the stack alone -/
def am_stk (i : Instr) (st : List Value) : Option (List Value) := match i with
  | .iconst n => some (.int (Int32.ofInt n) :: st)
  | .bipush n => some (.int (Int8.ofInt n).toInt32 :: st)
  | .sipush n => some (.int (Int16.ofInt n).toInt32 :: st)
  | .lconst n => some (.long (Int64.ofNat (n : Nat)) :: st)
  | .iadd => am_b2 (fun x y => x + y) st
  | .isub => am_b2 (fun x y => x - y) st
  | .imul => am_b2 (fun x y => x * y) st
  | .iand => am_b2 (fun x y => x &&& y) st
  | .ior => am_b2 (fun x y => x ||| y) st
  | .ixor => am_b2 (fun x y => x ^^^ y) st
  | .ishl => am_b2 (fun x y => x <<< (y &&& 31)) st
  | .ishr => am_b2 (fun x y => x >>> (y &&& 31)) st
  | .iushr => am_b2 (fun x y => (x.toUInt32 >>> (y.toUInt32 &&& Int32.toUInt32 31)).toInt32) st
  | .idiv => am_d2 (fun x y => x / y) st
  | .irem => am_d2 (fun x y => x - x / y * y) st
  | .ladd => am_l2 (fun x y => x + y) st
  | .lmul => am_l2 (fun x y => x * y) st
  | .ldiv => am_e2 (fun x y => x / y) st
  | .lrem => am_e2 (fun x y => x - x / y * y) st
  | .lcmp => match st with
    | .long y :: .long x :: r => some (.int (lg_cmp x y) :: r)
    | _ => none
  | .i2l => match st with
    | .int x :: r => some (.long x.toInt64 :: r)
    | _ => none
  | .l2i => match st with
    | .long x :: r => some (.int x.toInt32 :: r)
    | _ => none
  | .dup => match st with
    | v :: r => if v.category = 1 then some (v :: v :: r) else none
    | _ => none
  | .dup2 => match st with
    | v :: u :: r => if v.category = 1 ∧ u.category = 1 then some (v :: u :: v :: u :: r) else none
    | _ => none
  | .pop => match st with
    | v :: r => if v.category = 1 then some r else none
    | _ => none
  | _ => none
/-- the locals: a long's second place is none -/
def am_ld (L : List (Option Value)) (i : Nat) : Option Value := (L[i]?).join
def am_kill (L : List (Option Value)) : Nat → List (Option Value)
  | 0 => L
  | j + 1 => match am_ld L j with
    | some v => if v.category = 2 then L.set j none else L
    | none => L
def am_s1 (L : List (Option Value)) (i : Nat) (v : Value) : List (Option Value) := (am_kill L i).set i (some v)
def am_s2 (L : List (Option Value)) (i : Nat) (v : Value) : List (Option Value) := ((am_kill L i).set i (some v)).set (i + 1) none
def am_ldi (L : List (Option Value)) (st : List Value) (i : Nat) : Option (List (Option Value) × List Value) := match am_ld L i with
  | some (.int x) => some (L, .int x :: st)
  | _ => none
def am_ldl (L : List (Option Value)) (st : List Value) (i : Nat) : Option (List (Option Value) × List Value) := match am_ld L i with
  | some (.long x) => some (L, .long x :: st)
  | _ => none
def am_lda (L : List (Option Value)) (st : List Value) (i : Nat) : Option (List (Option Value) × List Value) := match am_ld L i with
  | some (.ref x) => some (L, .ref x :: st)
  | some (.retAddr x) => some (L, .retAddr x :: st)
  | _ => none
def am_sti (L : List (Option Value)) (st : List Value) (i : Nat) : Option (List (Option Value) × List Value) := match st with
  | .int x :: r => if i < L.length then some (am_s1 L i (.int x), r) else none
  | _ => none
def am_stl (L : List (Option Value)) (st : List Value) (i : Nat) : Option (List (Option Value) × List Value) := match st with
  | .long x :: r => if i + 1 < L.length then some (am_s2 L i (.long x), r) else none
  | _ => none
def am_sta (L : List (Option Value)) (st : List Value) (i : Nat) : Option (List (Option Value) × List Value) := match st with
  | .ref x :: r => if i < L.length then some (am_s1 L i (.ref x), r) else none
  | _ => none
/-- what works on locals and stack -/
def am_lo (i : Instr) (L : List (Option Value)) (st : List Value) : Option (List (Option Value) × List Value) := match i with
  | .iload j => am_ldi L st j
  | .iload_n j => am_ldi L st j
  | .lload j => am_ldl L st j
  | .lload_n j => am_ldl L st j
  | .aload j => am_lda L st j
  | .aload_n j => am_lda L st j
  | .istore j => am_sti L st j
  | .istore_n j => am_sti L st j
  | .lstore j => am_stl L st j
  | .lstore_n j => am_stl L st j
  | .astore_n j => am_sta L st j
  | .iinc j n => match am_ld L j with
    | some (.int x) => if j < L.length then some (am_s1 L j (.int (x + Int32.ofInt n)), st) else none
    | _ => none
  | _ => none
def am_go (pc : Nat) (off : Int) (c : Prop) [Decidable c] (r : List Value) : Option (Nat × List Value) := match am_tg pc off with
  | some t => if c then some (t, r) else some (pc + 3, r)
  | none => none
/-- the branches -/
def am_br (pc : Nat) (i : Instr) (st : List Value) : Option (Nat × List Value) := match i with
  | .goto off => match am_tg pc off with
    | some t => some (t, st)
    | none => none
  | .ifCond cd off => match st with
    | .int x :: r => match cd with
      | .eq => am_go pc off (x = 0) r
      | .ne => am_go pc off (¬ x = 0) r
      | .lt => am_go pc off (x < 0) r
      | .ge => am_go pc off (0 ≤ x) r
      | .gt => am_go pc off (0 < x) r
      | .le => am_go pc off (x ≤ 0) r
    | _ => none
  | .if_icmp cd off => match st with
    | .int y :: .int x :: r => match cd with
      | .eq => am_go pc off (x = y) r
      | .ne => am_go pc off (¬ x = y) r
      | .lt => am_go pc off (x < y) r
      | .ge => am_go pc off (y ≤ x) r
      | .gt => am_go pc off (y < x) r
      | .le => am_go pc off (x ≤ y) r
    | _ => none
  | .tableswitch dflt lo hi offs => match st with
    | .int x :: r => if x.toInt < lo ∨ hi < x.toInt then (match am_tg pc dflt with
        | some t => some (t, r)
        | none => none) else (match offs[(x.toInt - lo).toNat]? with
        | some off => (match am_tg pc off with
          | some t => some (t, r)
          | none => none)
        | none => none)
    | _ => none
  | .lookupswitch dflt ps => match st with
    | .int x :: r => if (ps.toList.zip (ps.toList.drop 1)).all (fun (a, next) => a.1 < next.1) = true then (match am_tg pc (Op.lookupswitch.offset ps.toList dflt x.toInt) with
        | some t => some (t, r)
        | none => none) else none
    | _ => none
  | _ => none
def am_vk : Nat → Value → Bool
  | 0, .int _ => true
  | 1, .long _ => true
  | 2, .ref _ => true
  | 2, .null => true
  | _, _ => false
/-- a kind's new object -/
def am_df (t : Nat) : List Value := (List.range (am_k t).2.2.2.1).map fun j => defaultValue ((am_k t).2.2.2.2.1 j)
def am_at (w : am_W) (a : Nat) (t : Nat) : Option (List Value) := match w[a]? with
  | some c => if c.1 = t then some c.2 else none
  | none => none
def am_ix (vs : List Value) (j : Int32) : Option Value := if j < 0 then none else vs[j.toNatClampNeg]?
/-- what works on the world too: class number, is it a constructor, depth -/
def am_hp (c : Nat) (ini : Bool) (d : Nat) (i : Instr) (st : List Value) (w : am_W) : Option (List Value × am_W) := match i with
  | .getfield idx => match st with
    | .ref a :: r => match am_lk am_fs c idx with
      | some q => match am_at w a q.1 with
        | some vs => match vs[q.2.1]? with
          | some v => some (v :: r, w)
          | none => none
        | none => none
      | none => none
    | _ => none
  | .putfield idx => match st with
    | v :: .ref a :: r => match am_lk am_fs c idx with
      | some q => match am_at w a q.1 with
        | some vs => if am_vk q.2.2.1 v = true ∧ q.2.1 < vs.length ∧ (¬ q.2.2.2.1 = 1 ∨ (ini = true ∧ (am_k q.1).1 = c)) then some (r, w.set a (q.1, vs.set q.2.1 v)) else none
        | none => none
      | none => none
    | _ => none
  | .iaload => match st with
    | .int j :: .ref a :: r => match am_at w a 100 with
      | some vs => match am_ix vs j with
        | some (.int x) => some (.int x :: r, w)
        | _ => none
      | none => none
    | _ => none
  | .laload => match st with
    | .int j :: .ref a :: r => match am_at w a 101 with
      | some vs => match am_ix vs j with
        | some (.long x) => some (.long x :: r, w)
        | _ => none
      | none => none
    | _ => none
  | .baload => match st with
    | .int j :: .ref a :: r => match am_at w a 102 with
      | some vs => match am_ix vs j with
        | some (.int x) => some (.int x :: r, w)
        | _ => none
      | none => none
    | _ => none
  | .aaload => match st with
    | .int j :: .ref a :: r => match w[a]? with
      | some c => if c.1 = 103 ∨ c.1 = 104 then (match am_ix c.2 j with
        | some (.ref x) => some (.ref x :: r, w)
        | _ => none) else none
      | none => none
    | _ => none
  | .iastore => match st with
    | .int x :: .int j :: .ref a :: r => match am_at w a 100 with
      | some vs => match am_ix vs j with
        | some _ => some (r, w.set a (100, vs.set j.toNatClampNeg (.int x)))
        | none => none
      | none => none
    | _ => none
  | .lastore => match st with
    | .long x :: .int j :: .ref a :: r => match am_at w a 101 with
      | some vs => match am_ix vs j with
        | some _ => some (r, w.set a (101, vs.set j.toNatClampNeg (.long x)))
        | none => none
      | none => none
    | _ => none
  | .bastore => match st with
    | .int x :: .int j :: .ref a :: r => match am_at w a 102 with
      | some vs => match am_ix vs j with
        | some _ => if x = 1 then some (r, w.set a (102, vs.set j.toNatClampNeg (.int 1))) else none
        | none => none
      | none => none
    | _ => none
  | .aastore => match st with
    | .ref b :: .int j :: .ref a :: r => match w[a]? with
      | some c => match am_ix c.2 j with
        | some _ => match w[b]? with
          | some e => if (c.1 = 103 ∧ e.1 = 2) ∨ (c.1 = 104 ∧ e.1 = 6) then some (r, w.set a (c.1, c.2.set j.toNatClampNeg (.ref b))) else none
          | none => none
        | none => none
      | none => none
    | _ => none
  | .arraylength => match st with
    | .ref a :: r => match w[a]? with
      | some c => if 100 ≤ c.1 ∧ c.1 ≤ 104 then some (.int (Int32.ofNat c.2.length) :: r, w) else none
      | none => none
    | _ => none
  | .new idx => match am_lk am_ns c idx with
    | some q => some (.ref w.length :: st, w ++ [(q.1, am_df q.1)])
    | none => none
  | .newarray t => match st with
    | .int n :: r => if n < 0 ∨ 100000 < n.toNatClampNeg then none else (match t with
      | .int => some (.ref w.length :: r, w ++ [(100, List.replicate n.toNatClampNeg (.int 0))])
      | .long => some (.ref w.length :: r, w ++ [(101, List.replicate n.toNatClampNeg (.long 0))])
      | .boolean => some (.ref w.length :: r, w ++ [(102, List.replicate n.toNatClampNeg (.int 0))])
      | _ => none)
    | _ => none
  | .anewarray idx => match st with
    | .int n :: r => if n < 0 ∨ 100000 < n.toNatClampNeg then none else (match am_lk am_ns c idx with
      | some q => if q.1 = 2 then some (.ref w.length :: r, w ++ [(103, List.replicate n.toNatClampNeg .null)]) else if q.1 = 6 then some (.ref w.length :: r, w ++ [(104, List.replicate n.toNatClampNeg .null)]) else none
      | none => none)
    | _ => none
  | .ldc idx => match am_lk am_ci c idx with
    | some q => some (.int q.1 :: st, w)
    | none => match am_lk am_ct c idx with
      | some q => some (.retAddr q.1 :: st, w)
      | none => none
  | .ldc_w idx => match am_lk am_ci c idx with
    | some q => some (.int q.1 :: st, w)
    | none => none
  | .ldc2_w idx => match am_lk am_cl c idx with
    | some q => some (.long q.1 :: st, w)
    | none => none
  | .invokespecial idx => match st with
    | .ref a :: r => match am_lk am_oi c idx with
      | some _ => if 0 < d ∧ r.length ≤ 4 then some (r, w) else none
      | none => none
    | _ => none
  | .invokestatic idx => match st with
    | .int n :: .int dp :: .ref a :: .int sp :: .ref b :: r => match am_lk am_ac c idx with
      | some _ => match am_at w b 100 with
        | some vs => match am_at w a 100 with
          | some us => if ¬ sp < 0 ∧ ¬ dp < 0 ∧ ¬ n < 0 ∧ sp.toNatClampNeg + n.toNatClampNeg ≤ vs.length ∧ dp.toNatClampNeg + n.toNatClampNeg ≤ us.length ∧ 0 < d ∧ r.length ≤ 2 then
              some (r, w.set a (100, us.take dp.toNatClampNeg ++ (vs.drop sp.toNatClampNeg).take n.toNatClampNeg ++ us.drop (dp.toNatClampNeg + n.toNatClampNeg))) else none
          | none => none
        | none => none
      | none => none
    | _ => none
  | _ => none
def am_zb (i : Instr) (z : Nat) : Bool := match i with
  | .tableswitch _ _ _ _ => true
  | .lookupswitch _ _ => true
  | _ => decide (am_ln i = z)
/-- one instruction that is no call and no return -/
def am_one (c : Nat) (ini : Bool) (d pc : Nat) (i : Instr) (z : Nat) (L : List (Option Value)) (st : List Value) (w : am_W) : Option (Nat × List (Option Value) × List Value × am_W) :=
  match am_br pc i st with
  | some (t, st') => if am_zb i z = true then some (t, L, st', w) else none
  | none => if am_ln i = z then (match am_stk i st with
    | some st' => some (pc + z, L, st', w)
    | none => match am_lo i L st with
      | some (L', st') => some (pc + z, L', st', w)
      | none => match am_hp c ini d i st w with
        | some (st', w') => some (pc + z, L, st', w')
        | none => none) else none
/-- a return: the answer -/
def am_re (rt : Option FieldType) (i : Instr) (st : List Value) : Option (Option Value) := match i with
  | .return_ => match st with
    | [] => if rt = none then some none else none
    | _ => none
  | .ireturn => match st with
    | [.int v] => if rt = some .int ∨ (rt = some .boolean ∧ (v = 0 ∨ v = 1)) then some (some (.int v)) else none
    | _ => none
  | .lreturn => match st with
    | [.long v] => if rt = some .long then some (some (.long v)) else none
    | _ => none
  | _ => none
/-- the locals at a method's entry -/
def am_en : List Value → List (Option Value)
  | [] => []
  | v :: t => if v.category = 2 then some v :: none :: am_en t else some v :: am_en t
/-- a call: the method, its arguments, what stays on the stack -/
def am_ca (c : Nat) (i : Instr) (st : List Value) (w : am_W) : Option (Nat × List Value × List Value) := match i with
  | .invokestatic idx => match am_lk am_is c idx with
    | some q => if (q.1 = 0 ∨ q.1 = 4) ∧ q.2.2.1 ≤ st.length ∧ (st.drop q.2.2.1).length ≤ 4 then some (q.2.1, (st.take q.2.2.1).reverse, st.drop q.2.2.1) else none
    | none => none
  | .invokespecial idx => match am_lk am_is c idx with
    | some q => if (q.1 = 2 ∨ q.1 = 3) ∧ q.2.2.1 + 1 ≤ st.length ∧ (st.drop (q.2.2.1 + 1)).length ≤ 4 then (match st.drop q.2.2.1 with
      | .ref a :: r => some (q.2.1, .ref a :: (st.take q.2.2.1).reverse, r)
      | _ => none) else none
    | none => none
  | .invokevirtual idx => match am_lk am_is c idx with
    | some q => if q.1 = 1 ∧ q.2.2.1 + 1 ≤ st.length ∧ (st.drop (q.2.2.1 + 1)).length ≤ 4 then (match st.drop q.2.2.1 with
      | .ref a :: r => match w[a]? with
        | some e => if e.1 < 9 ∧ (am_k e.1).1 = am_kl q.2.1 then some (q.2.1, .ref a :: (st.take q.2.2.1).reverse, r) else none
        | none => none
      | _ => none) else none
    | none => none
  | _ => none
/-- what String's own members answer of a constant: 0 length, 1 charAt -/
def am_tx : List (List Int32) := [[116, 111, 119, 110], [115, 116, 114, 101, 101, 116], [108, 97, 110, 101], [103, 97, 116, 101], [119, 105, 110, 100], [100, 105, 115, 104]]
def am_xe (c d : Nat) (i : Instr) (st : List Value) : Option (List Value) := match i with
  | .invokevirtual idx => match am_lk am_ex c idx with
    | some q => if 6 ≤ d then (match q.1, st with
      | 0, .retAddr k :: r => match am_tx[k]? with
        | some t => if r.length ≤ 4 then some (.int (Int32.ofNat t.length) :: r) else none
        | none => none
      | 1, .int j :: .retAddr k :: r => match am_tx[k]? with
        | some t => if j < 0 ∨ 4 < r.length then none else (match t[j.toNatClampNeg]? with
          | some x => some (.int x :: r)
          | none => none)
        | none => none
      | _, _ => none) else none
    | none => none
  | _ => none
/-- THE RUN of method k at depth d from pc; n: how many instructions at most -/
def am_run : Nat → Nat → Nat → Nat → List (Option Value) → List Value → am_W → Option (Option Value × am_W)
  | 0, _, _, _, _, _, _ => none
  | n + 1, d, k, pc, L, st, w => match decode (am_code k) pc with
    | .ok (i, z) => match am_one (am_kl k) (decide ((am_y k).name = "<init>")) d pc i z L st w with
      | some (pc', L', st', w') => am_run n d k pc' L' st' w'
      | none => match am_re (am_rt k) i st with
        | some v => if z = 1 then some (v, w) else none
        | none => match am_ca (am_kl k) i st w with
          | some (k', as, r) => match d with
            | 0 => none
            | d' + 1 => if z = 3 ∧ (am_en as).length ≤ am_mx k' ∧ k' < am_N then (match am_run n d' k' 0 (am_en as ++ List.replicate (am_mx k' - (am_en as).length) none) [] w with
              | some (v, w') => am_run n (d' + 1) k (pc + 3) L (v.toList ++ r) w'
              | none => none) else none
          | none => match am_xe (am_kl k) d i st with
            | some st' => if z = 3 then am_run n d k (pc + 3) L st' w else none
            | none => none
    | _ => none
