/-! the JDK's own members that a String constant needs -/
def RJ0 : String := "java/lang/String"
def RJ1 : String := "java/lang/StringLatin1"
def RJ3 : String := "jdk/internal/util/Preconditions"
abbrev cJ0_length_8abf5 : ByteArray := prog_14_method_54_code
def yJ0_length_8abf5 : MethodName := ⟨RJ0, "length", "()I"⟩
abbrev cJ0_coder_7d493 : ByteArray := prog_14_method_152_code
def yJ0_coder_7d493 : MethodName := ⟨RJ0, "coder", "()B"⟩
abbrev cJ0_charAt_5068e : ByteArray := prog_14_method_56_code
def yJ0_charAt_5068e : MethodName := ⟨RJ0, "charAt", "(I)C"⟩
abbrev cJ0_isLatin1_aae02 : ByteArray := prog_14_method_154_code
def yJ0_isLatin1_aae02 : MethodName := ⟨RJ0, "isLatin1", "()Z"⟩
abbrev cJ1_charAt_3b067 : ByteArray := prog_15_method_2_code
def yJ1_charAt_3b067 : MethodName := ⟨RJ1, "charAt", "([BI)C"⟩
abbrev cJ0_checkIndex_df160 : ByteArray := prog_14_method_155_code
def yJ0_checkIndex_df160 : MethodName := ⟨RJ0, "checkIndex", "(II)V"⟩
abbrev cJ3_checkIndex_8e157 : ByteArray := prog_18_method_11_code
def yJ3_checkIndex_8e157 : MethodName := ⟨RJ3, "checkIndex", "(IILjava/util/function/BiFunction;)I"⟩
theorem dJ0_length_8abf5_0 : decode cJ0_length_8abf5 0 = .ok (.aload_n 0, 1) := by decide +kernel
theorem dJ0_length_8abf5_1 : decode cJ0_length_8abf5 1 = .ok (.getfield 9, 3) := by decide +kernel
theorem dJ0_length_8abf5_4 : decode cJ0_length_8abf5 4 = .ok (.arraylength, 1) := by decide +kernel
theorem dJ0_length_8abf5_5 : decode cJ0_length_8abf5 5 = .ok (.aload_n 0, 1) := by decide +kernel
theorem dJ0_length_8abf5_6 : decode cJ0_length_8abf5 6 = .ok (.invokevirtual 335, 3) := by decide +kernel
theorem dJ0_length_8abf5_9 : decode cJ0_length_8abf5 9 = .ok (.ishr, 1) := by decide +kernel
theorem dJ0_length_8abf5_10 : decode cJ0_length_8abf5 10 = .ok (.ireturn, 1) := by decide +kernel
theorem dJ0_coder_7d493_0 : decode cJ0_coder_7d493 0 = .ok (.getstatic 38, 3) := by decide +kernel
theorem dJ0_coder_7d493_3 : decode cJ0_coder_7d493 3 = .ok (.ifCond .eq 10, 3) := by decide +kernel
theorem dJ0_coder_7d493_6 : decode cJ0_coder_7d493 6 = .ok (.aload_n 0, 1) := by decide +kernel
theorem dJ0_coder_7d493_7 : decode cJ0_coder_7d493 7 = .ok (.getfield 15, 3) := by decide +kernel
theorem dJ0_coder_7d493_10 : decode cJ0_coder_7d493 10 = .ok (.goto 4, 3) := by decide +kernel
theorem dJ0_coder_7d493_13 : decode cJ0_coder_7d493 13 = .ok (.iconst 1, 1) := by decide +kernel
theorem dJ0_coder_7d493_14 : decode cJ0_coder_7d493 14 = .ok (.ireturn, 1) := by decide +kernel
theorem dJ0_charAt_5068e_0 : decode cJ0_charAt_5068e 0 = .ok (.aload_n 0, 1) := by decide +kernel
theorem dJ0_charAt_5068e_1 : decode cJ0_charAt_5068e 1 = .ok (.invokevirtual 492, 3) := by decide +kernel
theorem dJ0_charAt_5068e_4 : decode cJ0_charAt_5068e 4 = .ok (.ifCond .eq 12, 3) := by decide +kernel
theorem dJ0_charAt_5068e_7 : decode cJ0_charAt_5068e 7 = .ok (.aload_n 0, 1) := by decide +kernel
theorem dJ0_charAt_5068e_8 : decode cJ0_charAt_5068e 8 = .ok (.getfield 9, 3) := by decide +kernel
theorem dJ0_charAt_5068e_11 : decode cJ0_charAt_5068e 11 = .ok (.iload_n 1, 1) := by decide +kernel
theorem dJ0_charAt_5068e_12 : decode cJ0_charAt_5068e 12 = .ok (.invokestatic 495, 3) := by decide +kernel
theorem dJ0_charAt_5068e_15 : decode cJ0_charAt_5068e 15 = .ok (.ireturn, 1) := by decide +kernel
theorem dJ0_charAt_5068e_16 : decode cJ0_charAt_5068e 16 = .ok (.aload_n 0, 1) := by decide +kernel
theorem dJ0_charAt_5068e_17 : decode cJ0_charAt_5068e 17 = .ok (.getfield 9, 3) := by decide +kernel
theorem dJ0_charAt_5068e_20 : decode cJ0_charAt_5068e 20 = .ok (.iload_n 1, 1) := by decide +kernel
theorem dJ0_charAt_5068e_21 : decode cJ0_charAt_5068e 21 = .ok (.invokestatic 498, 3) := by decide +kernel
theorem dJ0_charAt_5068e_24 : decode cJ0_charAt_5068e 24 = .ok (.ireturn, 1) := by decide +kernel
theorem dJ0_isLatin1_aae02_0 : decode cJ0_isLatin1_aae02 0 = .ok (.getstatic 38, 3) := by decide +kernel
theorem dJ0_isLatin1_aae02_3 : decode cJ0_isLatin1_aae02 3 = .ok (.ifCond .eq 14, 3) := by decide +kernel
theorem dJ0_isLatin1_aae02_6 : decode cJ0_isLatin1_aae02 6 = .ok (.aload_n 0, 1) := by decide +kernel
theorem dJ0_isLatin1_aae02_7 : decode cJ0_isLatin1_aae02 7 = .ok (.getfield 15, 3) := by decide +kernel
theorem dJ0_isLatin1_aae02_10 : decode cJ0_isLatin1_aae02 10 = .ok (.ifCond .ne 7, 3) := by decide +kernel
theorem dJ0_isLatin1_aae02_13 : decode cJ0_isLatin1_aae02 13 = .ok (.iconst 1, 1) := by decide +kernel
theorem dJ0_isLatin1_aae02_14 : decode cJ0_isLatin1_aae02 14 = .ok (.goto 4, 3) := by decide +kernel
theorem dJ0_isLatin1_aae02_17 : decode cJ0_isLatin1_aae02 17 = .ok (.iconst 0, 1) := by decide +kernel
theorem dJ0_isLatin1_aae02_18 : decode cJ0_isLatin1_aae02 18 = .ok (.ireturn, 1) := by decide +kernel
theorem dJ1_charAt_3b067_0 : decode cJ1_charAt_3b067 0 = .ok (.iload_n 1, 1) := by decide +kernel
theorem dJ1_charAt_3b067_1 : decode cJ1_charAt_3b067 1 = .ok (.aload_n 0, 1) := by decide +kernel
theorem dJ1_charAt_3b067_2 : decode cJ1_charAt_3b067 2 = .ok (.arraylength, 1) := by decide +kernel
theorem dJ1_charAt_3b067_3 : decode cJ1_charAt_3b067 3 = .ok (.invokestatic 9, 3) := by decide +kernel
theorem dJ1_charAt_3b067_6 : decode cJ1_charAt_3b067 6 = .ok (.aload_n 0, 1) := by decide +kernel
theorem dJ1_charAt_3b067_7 : decode cJ1_charAt_3b067 7 = .ok (.iload_n 1, 1) := by decide +kernel
theorem dJ1_charAt_3b067_8 : decode cJ1_charAt_3b067 8 = .ok (.baload, 1) := by decide +kernel
theorem dJ1_charAt_3b067_9 : decode cJ1_charAt_3b067 9 = .ok (.sipush 255, 3) := by decide +kernel
theorem dJ1_charAt_3b067_12 : decode cJ1_charAt_3b067 12 = .ok (.iand, 1) := by decide +kernel
theorem dJ1_charAt_3b067_13 : decode cJ1_charAt_3b067 13 = .ok (.i2c, 1) := by decide +kernel
theorem dJ1_charAt_3b067_14 : decode cJ1_charAt_3b067 14 = .ok (.ireturn, 1) := by decide +kernel
theorem dJ0_checkIndex_df160_0 : decode cJ0_checkIndex_df160 0 = .ok (.iload_n 0, 1) := by decide +kernel
theorem dJ0_checkIndex_df160_1 : decode cJ0_checkIndex_df160 1 = .ok (.iload_n 1, 1) := by decide +kernel
theorem dJ0_checkIndex_df160_2 : decode cJ0_checkIndex_df160 2 = .ok (.getstatic 1053, 3) := by decide +kernel
theorem dJ0_checkIndex_df160_5 : decode cJ0_checkIndex_df160 5 = .ok (.invokestatic 1059, 3) := by decide +kernel
theorem dJ0_checkIndex_df160_8 : decode cJ0_checkIndex_df160 8 = .ok (.pop, 1) := by decide +kernel
theorem dJ0_checkIndex_df160_9 : decode cJ0_checkIndex_df160 9 = .ok (.return_, 1) := by decide +kernel
theorem dJ3_checkIndex_8e157_0 : decode cJ3_checkIndex_8e157 0 = .ok (.iload_n 0, 1) := by decide +kernel
theorem dJ3_checkIndex_8e157_1 : decode cJ3_checkIndex_8e157 1 = .ok (.ifCond .lt 8, 3) := by decide +kernel
theorem dJ3_checkIndex_8e157_4 : decode cJ3_checkIndex_8e157 4 = .ok (.iload_n 0, 1) := by decide +kernel
theorem dJ3_checkIndex_8e157_5 : decode cJ3_checkIndex_8e157 5 = .ok (.iload_n 1, 1) := by decide +kernel
theorem dJ3_checkIndex_8e157_6 : decode cJ3_checkIndex_8e157 6 = .ok (.if_icmp .lt 10, 3) := by decide +kernel
theorem dJ3_checkIndex_8e157_9 : decode cJ3_checkIndex_8e157 9 = .ok (.aload_n 2, 1) := by decide +kernel
theorem dJ3_checkIndex_8e157_10 : decode cJ3_checkIndex_8e157 10 = .ok (.iload_n 0, 1) := by decide +kernel
theorem dJ3_checkIndex_8e157_11 : decode cJ3_checkIndex_8e157 11 = .ok (.iload_n 1, 1) := by decide +kernel
theorem dJ3_checkIndex_8e157_12 : decode cJ3_checkIndex_8e157 12 = .ok (.invokestatic 95, 3) := by decide +kernel
theorem dJ3_checkIndex_8e157_15 : decode cJ3_checkIndex_8e157 15 = .ok (.athrow, 1) := by decide +kernel
theorem dJ3_checkIndex_8e157_16 : decode cJ3_checkIndex_8e157 16 = .ok (.iload_n 0, 1) := by decide +kernel
theorem dJ3_checkIndex_8e157_17 : decode cJ3_checkIndex_8e157 17 = .ok (.ireturn, 1) := by decide +kernel
theorem wJ0_length_8abf5 : Cond.code yJ0_length_8abf5 cJ0_length_8abf5 1 (some .int) ∈ am_gw := am_gw_in (p := 474) (by decide +kernel) rfl
theorem wJ0_coder_7d493 : Cond.code yJ0_coder_7d493 cJ0_coder_7d493 1 (some .byte) ∈ am_gw := am_gw_in (p := 478) (by decide +kernel) rfl
theorem wJ0_charAt_5068e : Cond.code yJ0_charAt_5068e cJ0_charAt_5068e 2 (some .char) ∈ am_gw := am_gw_in (p := 484) (by decide +kernel) rfl
theorem wJ0_isLatin1_aae02 : Cond.code yJ0_isLatin1_aae02 cJ0_isLatin1_aae02 1 (some .boolean) ∈ am_gw := am_gw_in (p := 488) (by decide +kernel) rfl
theorem wJ1_charAt_3b067 : Cond.code yJ1_charAt_3b067 cJ1_charAt_3b067 2 (some .char) ∈ am_gw := am_gw_in (p := 491) (by decide +kernel) rfl
theorem wJ0_checkIndex_df160 : Cond.code yJ0_checkIndex_df160 cJ0_checkIndex_df160 2 none ∈ am_gw := am_gw_in (p := 494) (by decide +kernel) rfl
theorem wJ3_checkIndex_8e157 : Cond.code yJ3_checkIndex_8e157 cJ3_checkIndex_8e157 3 (some .int) ∈ am_gw := am_gw_in (p := 499) (by decide +kernel) rfl
theorem wJi0 : Cond.initialized RJ0 ∈ am_gw := am_gw_in (p := 67) (by decide +kernel) rfl
theorem wJi1 : Cond.initialized RJ1 ∈ am_gw := am_gw_in (p := 68) (by decide +kernel) rfl
theorem wJi3 : Cond.initialized RJ3 ∈ am_gw := am_gw_in (p := 69) (by decide +kernel) rfl
theorem wJl0 : Cond.methodLink (am_R 6) 133 yJ0_length_8abf5 ∈ am_gw := am_gw_in (p := 471) (by decide +kernel) rfl
theorem wJn0 : Cond.instanceMethod yJ0_length_8abf5 ∈ am_gw := am_gw_in (p := 472) (by decide +kernel) rfl
theorem wJs0 : Cond.selects RJ0 yJ0_length_8abf5 yJ0_length_8abf5 ∈ am_gw := am_gw_in (p := 473) (by decide +kernel) rfl
theorem wJl1 : Cond.methodLink RJ0 335 yJ0_coder_7d493 ∈ am_gw := am_gw_in (p := 475) (by decide +kernel) rfl
theorem wJn1 : Cond.instanceMethod yJ0_coder_7d493 ∈ am_gw := am_gw_in (p := 476) (by decide +kernel) rfl
theorem wJs1 : Cond.selects RJ0 yJ0_coder_7d493 yJ0_coder_7d493 ∈ am_gw := am_gw_in (p := 477) (by decide +kernel) rfl
theorem wJf0 : Cond.fieldLink RJ0 38 RJ0 "COMPACT_STRINGS" "Z" ∈ am_gw := am_gw_in (p := 479) (by decide +kernel) rfl
theorem wJl2 : Cond.methodLink (am_R 6) 137 yJ0_charAt_5068e ∈ am_gw := am_gw_in (p := 481) (by decide +kernel) rfl
theorem wJn2 : Cond.instanceMethod yJ0_charAt_5068e ∈ am_gw := am_gw_in (p := 482) (by decide +kernel) rfl
theorem wJs2 : Cond.selects RJ0 yJ0_charAt_5068e yJ0_charAt_5068e ∈ am_gw := am_gw_in (p := 483) (by decide +kernel) rfl
theorem wJl3 : Cond.methodLink RJ0 492 yJ0_isLatin1_aae02 ∈ am_gw := am_gw_in (p := 485) (by decide +kernel) rfl
theorem wJn3 : Cond.instanceMethod yJ0_isLatin1_aae02 ∈ am_gw := am_gw_in (p := 486) (by decide +kernel) rfl
theorem wJs3 : Cond.selects RJ0 yJ0_isLatin1_aae02 yJ0_isLatin1_aae02 ∈ am_gw := am_gw_in (p := 487) (by decide +kernel) rfl
theorem wJl4 : Cond.methodLink RJ0 495 yJ1_charAt_3b067 ∈ am_gw := am_gw_in (p := 489) (by decide +kernel) rfl
theorem wJt4 : Cond.static yJ1_charAt_3b067 ∈ am_gw := am_gw_in (p := 490) (by decide +kernel) rfl
theorem wJl5 : Cond.methodLink RJ1 9 yJ0_checkIndex_df160 ∈ am_gw := am_gw_in (p := 492) (by decide +kernel) rfl
theorem wJt5 : Cond.static yJ0_checkIndex_df160 ∈ am_gw := am_gw_in (p := 493) (by decide +kernel) rfl
theorem wJf1 : Cond.fieldLink RJ0 1053 RJ3 "SIOOBE_FORMATTER" "Ljava/util/function/BiFunction;" ∈ am_gw := am_gw_in (p := 495) (by decide +kernel) rfl
theorem wJl6 : Cond.methodLink RJ0 1059 yJ3_checkIndex_8e157 ∈ am_gw := am_gw_in (p := 497) (by decide +kernel) rfl
theorem wJt6 : Cond.static yJ3_checkIndex_8e157 ∈ am_gw := am_gw_in (p := 498) (by decide +kernel) rfl
theorem wJf2 : Cond.fieldLink RJ0 9 RJ0 "value" "[B" ∈ am_gw := am_gw_in (p := 1300) (by decide +kernel) rfl
theorem wJf3 : Cond.fieldLink RJ0 15 RJ0 "coder" "B" ∈ am_gw := am_gw_in (p := 1301) (by decide +kernel) rfl
/-- what a String constant is, below B -/
def JX (adK adV : Nat → Nat) (B : Nat) (U : State) : Prop := vk_S 6 (am_tx.map List.length) am_tx adK adV (fun q => B ≤ q) U U.heap ∧ va_Z RJ0 "COMPACT_STRINGS" "Z" (.int 1) (fun q => B ≤ q) U U.heap ∧ va_Zq RJ3 "SIOOBE_FORMATTER" "Ljava/util/function/BiFunction;" (fun q => B ≤ q) U U.heap
theorem JX_XM {adK adV : Nat → Nat} {B : Nat} : am_XM B (JX adK adV B) := by
  intro s U hW _ hk ⟨h1, h2, h3⟩
  have hk' : ∀ a : Nat, a < s.heap.size → ¬ (fun q => B ≤ q) a → U.heap[a]? = s.heap[a]? := hk
  exact ⟨vk_S.moved hW.alike (h1.kept hk'), va_Z.moved hW.alike (h2.kept hk'), va_Zq.moved hW.alike (h3.kept hk')⟩
def jP (adK adV : Nat → Nat) (B : Nat) (as : List Value) : Array Value → State → Prop := va_Pc as (fun U => JX adK adV B U)
def jQ (v : Option Value) : Array Value → State → Outcome → State → Prop := fun _ s o t => o = .returned v ∧ t.heap = s.heap
theorem jP_blind {adK adV : Nat → Nat} {B : Nat} {as : List Value} : FrameBlind (jP adK adV B as) := by
  rintro a U g mk ⟨h1, hx⟩
  exact ⟨h1, JX_XM U (U.calling g mk a) (State.WarmedH.refl U) (Nat.le_refl _) (fun _ _ _ => rfl) hx⟩
abbrev jM (l : Launch) (adK adV : Nat → Nat) (B : Nat) (y : MethodName) (cc : ByteArray) (n : Nat) (ret : Option FieldType) (d : Nat) (as : List Value) (v : Option Value) : Prop :=
  Met l y (.code y cc n ret :: am_gw) (am_rm d 0 0) (jP adK adV B as) (jQ v) 0 0 (fun _ => False)
def jF (p : Program) (s : State) (m : MethodId) (args : Array Value) (meth : Method) (c : Code) (y : MethodName) (cc : ByteArray) (n : Nat) (ret : Option FieldType) : Prop :=
  p.tables.exec = Jvm.exec ∧ c.code = cc ∧ meth.sig.returnType = ret ∧ c.maxLocals = n ∧ s.vm.findClass y.cls = some m.cls ∧ meth.locks = false ∧ ∀ w ∈ am_gw, w.before args s = true
theorem jd_of {l : Launch} {adK adV : Nat → Nat} {B : Nat} {y : MethodName} {cc : ByteArray} {n : Nat} {ret : Option FieldType} {d : Nat} {as : List Value} {v : Option Value} (hy : plainFor y = true) (hen : (lg_sl as).length ≤ n)
    (body : ∀ (p : Program) (e : Env) (s : State) (m : MethodId) (args : Array Value) (below : List Frame) (meth : Method) (c : Code) (ls : Array Slot), jF p s m args meth c y cc n ret → JX adK adV B s → lv_has ls n (lv_args 0 as) →
      W p l e (am_rm d 0 0) s m args below meth c s.heap [] 0 0 (MQ below (jQ v) args s 0 0 (fun _ => False)) (F0 m 0 ls [])) : jM l adK adV B y cc n ret d as v := by
  refine am_ofW hy rfl ?_
  intro p e s m args below meth c s₁ Bd hml hv
  obtain ⟨rfl, hX⟩ := hv
  have hts := atoms_spec (ws := .code y cc n ret :: am_gw) Bd.pre
  have hl := lv_entry as (n := n) hen
  rw [lg_entry_eq]
  exact body p e s m _ below meth c _ ⟨Bd.exec, Bd.bytes, Bd.returns, hml, findClass_of_methodNamed Bd.named, Bd.notSynchronized, fun w hw => hts w (List.mem_cons_of_mem _ hw)⟩ hX hl
section JD
variable {p : Program} {l : Launch} {e : Env} {R : Room} {s : State} {m : MethodId} {args : Array Value} {below : List Frame} {meth : Method} {c : Code} {H : Heap} {locs : List Loc} {cells slots : Nat} {Q : State → Prop}
variable {pc : Nat} {ls : Array Slot} {B : Nat} {adK adV : Nat → Nat} {cc cc2 : ByteArray} {nL n2 d' index : Nat} {own : String} {y2 : MethodName} {ret2 : Option FieldType} {As rest st0 : List Value} {v : Option Value}
theorem jd_base {na : Nat} (hts : ∀ w ∈ am_gw, w.before args s = true) (hcode : Cond.code y2 cc2 n2 ret2 ∈ am_gw) (hini : Cond.initialized y2.cls ∈ am_gw) (h5 : y2.cls ≠ "java/lang/invoke/MethodHandle" ∧ y2.cls ≠ "java/lang/invoke/VarHandle") (h6 : n2 ≤ 16)
    (har : (parseMethodDescriptor y2.desc).map (fun d => d.parameters.length) = some na) (hfr : d' + 1 ≤ R.frames) (hlo : 35 * (d' + 1) ≤ R.locals) :
    ((am_rm d' 0 0).cells = 0 ∧ (am_rm d' 0 0).slots = 0 ∧ (am_rm d' 0 0).frames + 1 ≤ R.frames ∧ 8 + (n2 + 11) + (am_rm d' 0 0).locals ≤ R.locals ∧ (∀ w ∈ (Cond.code y2 cc2 n2 ret2 :: am_gw), ∀ (a' : Array Value) (U : State), s.WarmedH U.vm → w.before a' U = true) ∧ Cond.code y2 cc2 n2 ret2 ∈ (Cond.code y2 cc2 n2 ret2 :: am_gw)) ∧
      (Cond.code y2 cc2 n2 ret2).before args s = true ∧ (Cond.initialized y2.cls).before args s = true ∧ (y2.cls ≠ "java/lang/invoke/MethodHandle" ∧ y2.cls ≠ "java/lang/invoke/VarHandle") ∧ (∀ sig, parseMethodDescriptor y2.desc = some sig → na = sig.parameters.length) := by
  refine ⟨⟨rfl, rfl, hfr, by show 8 + (n2 + 11) + 35 * d' ≤ R.locals; omega, pay_in hts fun w hw => ?_, List.mem_cons_self⟩, hts _ hcode, hts _ hini, h5, fun sig h => ?_⟩
  · rcases List.mem_cons.mp hw with rfl | hw
    · exact ⟨hcode, good_of_word rfl⟩
    · exact ⟨hw, good_of_word (List.mem_filter.mp hw).2⟩
  · rw [h] at har
    exact (Option.some.inj har).symm
theorem jd_call {A : Array Value} (hr : va_Run p l e R s m args below meth c H locs cells slots 0 0 (F0 m pc ls st0) rest (jQ v A) (fun _ => False))
    (kk : W p l e R s m args below meth c H locs cells slots Q (F0 m (pc + 3) ls (v.toList ++ rest))) : W p l e R s m args below meth c H locs cells slots Q (F0 m pc ls st0) := by
  refine am_call (y := 0) hr fun v' st t L h0 hL hq => ?_
  obtain ⟨q1, q2⟩ := hq
  cases q1
  have hL0 : L = [] := List.eq_nil_iff_forall_not_mem.mpr fun a ha => hL a ha
  subst hL0
  rw [q2, h0, List.append_nil]
  exact kk
theorem jd_runV (S : CallFix p m c cc nL s args am_gw own) (hsz : ls.size = nL) (hfr : d' + 1 ≤ R.frames) (hlo : 35 * (d' + 1) ≤ R.locals) (hX : JX adK adV B s) (hS : va_S (fun q => B ≤ q) s.heap H locs) {i : Nat} (hi : i < 6)
    (hM : jM l adK adV B y2 cc2 n2 ret2 d' (.ref (adK i) :: As) v) (hcls : y2.cls = RJ0) (hcode : Cond.code y2 cc2 n2 ret2 ∈ am_gw) (h6 : n2 ≤ 16) (har : (parseMethodDescriptor y2.desc).map (fun d => d.parameters.length) = some As.length)
    (hl : Cond.methodLink own index y2 ∈ am_gw) (hin : Cond.instanceMethod y2 ∈ am_gw) (hse : Cond.selects RJ0 y2 y2 ∈ am_gw) (hst : st0 = As.reverse ++ .ref (adK i) :: rest) (hW : (rest.map fun v => v.category).sum ≤ 8) (hd : decode cc pc = .ok (.invokevirtual index, 3)) (hf : cells ≤ R.cells ∧ slots ≤ R.slots)
    (kk : W p l e R s m args below meth c H locs cells slots Q (F0 m (pc + 3) ls (v.toList ++ rest))) : W p l e R s m args below meth c H locs cells slots Q (F0 m pc ls st0) := by
  have hts := S.2.2.2.2
  obtain ⟨b1, b2, b3, b4, b5⟩ := jd_base (R := R) hts hcode (by rw [hcls]; exact wJi0) (by rw [hcls]; decide) h6 har hfr hlo
  exact jd_call (va_runV (b := adK i) (C := RJ0) S hM ⟨⟨b1.1, b1.2.1, b1.2.2.1, b1.2.2.2.1, b1.2.2.2.2.1, b1.2.2.2.2.2, b2, b3, b4, b5, hts _ hl⟩, hts _ hin, hts _ hse⟩
    ⟨jP_blind, vk_recv hX.1 hi hS, fun U hU hW => ⟨rfl, JX_XM s U hW (by rw [hU]; exact hS.1) (fun q q1 q2 => by rw [hU]; exact hS.2.1 q q1 q2) hX⟩⟩ rfl rfl hsz hst (lv_room hW) hd hf) kk
theorem jd_runS (S : CallFix p m c cc nL s args am_gw own) (hsz : ls.size = nL) (hfr : d' + 1 ≤ R.frames) (hlo : 35 * (d' + 1) ≤ R.locals) (hX : JX adK adV B s) (hS : va_S (fun q => B ≤ q) s.heap H locs)
    (hM : jM l adK adV B y2 cc2 n2 ret2 d' As v) (hini : Cond.initialized y2.cls ∈ am_gw) (hcls : y2.cls ≠ "java/lang/invoke/MethodHandle" ∧ y2.cls ≠ "java/lang/invoke/VarHandle") (hcode : Cond.code y2 cc2 n2 ret2 ∈ am_gw) (h6 : n2 ≤ 16) (har : (parseMethodDescriptor y2.desc).map (fun d => d.parameters.length) = some As.length)
    (hl : Cond.methodLink own index y2 ∈ am_gw) (hin : Cond.static y2 ∈ am_gw) (hst : st0 = As.reverse ++ rest) (hW : (rest.map fun v => v.category).sum ≤ 8) (hd : decode cc pc = .ok (.invokestatic index, 3)) (hf : cells ≤ R.cells ∧ slots ≤ R.slots)
    (kk : W p l e R s m args below meth c H locs cells slots Q (F0 m (pc + 3) ls (v.toList ++ rest))) : W p l e R s m args below meth c H locs cells slots Q (F0 m pc ls st0) := by
  have hts := S.2.2.2.2
  obtain ⟨b1, b2, b3, b4, b5⟩ := jd_base (R := R) hts hcode hini hcls h6 har hfr hlo
  exact jd_call (va_runS S hM ⟨⟨b1.1, b1.2.1, b1.2.2.1, b1.2.2.2.1, b1.2.2.2.2.1, b1.2.2.2.2.2, b2, b3, b4, b5, hts _ hl⟩, hts _ hin⟩
    ⟨jP_blind, fun U hU hW => ⟨rfl, JX_XM s U hW (by rw [hU]; exact hS.1) (fun q q1 q2 => by rw [hU]; exact hS.2.1 q q1 q2) hX⟩⟩ rfl rfl hsz hst (lv_room hW) hd hf) kk
end JD
section JM
variable {l : Launch} {adK adV : Nat → Nat} {B : Nat}
theorem j_coder {i : Nat} (hi : i < 6) (d : Nat) : jM l adK adV B yJ0_coder_7d493 cJ0_coder_7d493 1 (some .byte) d [.ref (adK i)] (some (.int 0)) := by
  refine jd_of (by decide) (Nat.le_of_ble_eq_true rfl) fun p e s m args below meth c ls F hX hl => ?_
  obtain ⟨hx, hb, hr, hml, hown, hlk, hts⟩ := F
  have hS : va_S (fun q => B ≤ q) s.heap s.heap [] := va_S.rf
  have hl : lv_has ls 1 [(0, .ref (adK i))] := hl
  refine va_gets hx hb hX.2.1 hS hown (hts _ wJf0) (fun _ h => h) dJ0_coder_7d493_0 ?_
  refine lv_if_eq hx hb dJ0_coder_7d493_3 (tgt := 13) rfl (fun z => absurd z (by decide)) fun _ => ?_
  refine lv_aload_n hx hb dJ0_coder_7d493_6 rfl (lv_at hl 0 rfl) ?_
  refine vk_getf hx hb (hX.1.1 i hi).2.1 hS hown (hts _ wJf3) (fun _ h => h) dJ0_coder_7d493_7 ?_
  refine lv_goto hx hb dJ0_coder_7d493_10 (tgt := 14) rfl ?_
  exact W.zret hx hb hr (by decide) (fun t ht _ => ⟨rfl, ht⟩) (fun q h => by cases h) dJ0_coder_7d493_14 hlk
theorem j_latin {i : Nat} (hi : i < 6) (d : Nat) : jM l adK adV B yJ0_isLatin1_aae02 cJ0_isLatin1_aae02 1 (some .boolean) d [.ref (adK i)] (some (.int 1)) := by
  refine jd_of (by decide) (Nat.le_of_ble_eq_true rfl) fun p e s m args below meth c ls F hX hl => ?_
  obtain ⟨hx, hb, hr, hml, hown, hlk, hts⟩ := F
  have hS : va_S (fun q => B ≤ q) s.heap s.heap [] := va_S.rf
  have hl : lv_has ls 1 [(0, .ref (adK i))] := hl
  refine va_gets hx hb hX.2.1 hS hown (hts _ wJf0) (fun _ h => h) dJ0_isLatin1_aae02_0 ?_
  refine lv_if_eq hx hb dJ0_isLatin1_aae02_3 (tgt := 17) rfl (fun z => absurd z (by decide)) fun _ => ?_
  refine lv_aload_n hx hb dJ0_isLatin1_aae02_6 rfl (lv_at hl 0 rfl) ?_
  refine vk_getf hx hb (hX.1.1 i hi).2.1 hS hown (hts _ wJf3) (fun _ h => h) dJ0_isLatin1_aae02_7 ?_
  refine lv_if_ne hx hb dJ0_isLatin1_aae02_10 (tgt := 17) rfl (fun z => absurd rfl z) fun _ => ?_
  refine lv_iconst (v := 1) hx hb dJ0_isLatin1_aae02_13 (by decide) ?_
  refine lv_goto hx hb dJ0_isLatin1_aae02_14 (tgt := 18) rfl ?_
  exact W.zret hx hb hr (by decide) (fun t ht _ => ⟨rfl, ht⟩) (fun q h => by cases h) dJ0_isLatin1_aae02_18 hlk
theorem j_check3 {x y : Int32} {z : Value} (h0 : ¬ x < 0) (h1 : x < y) (hz : z.category = 1) (d : Nat) : jM l adK adV B yJ3_checkIndex_8e157 cJ3_checkIndex_8e157 3 (some .int) d [.int x, .int y, z] (some (.int x)) := by
  refine jd_of (by decide) (by cases z <;> first | (cases hz; done) | exact Nat.le_of_ble_eq_true rfl) fun p e s m args below meth c ls F hX hl => ?_
  obtain ⟨hx, hb, hr, hml, hown, hlk, hts⟩ := F
  have hl : lv_has ls 3 [(0, .int x), (1, .int y)] := lv_weak hl (by
    intro q hq
    have h3 : lv_args 0 [.int x, .int y, z] = [(0, .int x), (1, .int y), (2, z)] := rfl
    rw [h3]
    simp at hq ⊢
    rcases hq with h | h
    · exact Or.inl h
    · exact Or.inr (Or.inl h))
  refine lv_iload_n hx hb dJ3_checkIndex_8e157_0 rfl (lv_at hl 0 rfl) ?_
  refine lv_if_lt hx hb dJ3_checkIndex_8e157_1 (tgt := 9) rfl (fun q => absurd q h0) fun _ => ?_
  refine lv_iload_n hx hb dJ3_checkIndex_8e157_4 rfl (lv_at hl 0 rfl) ?_
  refine lv_iload_n hx hb dJ3_checkIndex_8e157_5 rfl (lv_at hl 1 rfl) ?_
  refine lv_icmp_lt hx hb dJ3_checkIndex_8e157_6 (tgt := 16) rfl (fun _ => ?_) fun q => absurd h1 q
  refine lv_iload_n hx hb dJ3_checkIndex_8e157_16 rfl (lv_at hl 0 rfl) ?_
  exact W.iret hx hb hr (fun t ht _ => ⟨rfl, ht⟩) (fun q h => by cases h) dJ3_checkIndex_8e157_17 hlk
theorem j_check0 {x y : Int32} (h0 : ¬ x < 0) (h1 : x < y) (d : Nat) : jM l adK adV B yJ0_checkIndex_df160 cJ0_checkIndex_df160 2 none (d + 1) [.int x, .int y] none := by
  refine jd_of (by decide) (Nat.le_of_ble_eq_true rfl) fun p e s m args below meth c ls F hX hl => ?_
  obtain ⟨hx, hb, hr, hml, hown, hlk, hts⟩ := F
  have hS : va_S (fun q => B ≤ q) s.heap s.heap [] := va_S.rf
  have hl : lv_has ls 2 [(0, .int x), (1, .int y)] := hl
  refine lv_iload_n hx hb dJ0_checkIndex_df160_0 rfl (lv_at hl 0 rfl) ?_
  refine lv_iload_n hx hb dJ0_checkIndex_df160_1 rfl (lv_at hl 1 rfl) ?_
  have go : ∀ z : Value, z.category = 1 → W p l e (am_rm (d + 1) 0 0) s m args below meth c s.heap [] 0 0 (MQ below (jQ none) args s 0 0 (fun _ => False)) (F0 m 5 ls [z, .int y, .int x]) := fun z hz => by
    refine jd_runS (As := [.int x, .int y, z]) (rest := []) ⟨hx, hb, hml, hown, hts⟩ hl.1 (Nat.le_refl _) (Nat.le_refl _) hX hS (j_check3 h0 h1 hz d) wJi3 (by decide) wJ3_checkIndex_8e157 (by decide) (show (parseMethodDescriptor yJ3_checkIndex_8e157.desc).map (fun d => d.parameters.length) = some 3 by decide +kernel) wJl6 wJt6 rfl (by decide) dJ0_checkIndex_df160_5 ⟨Nat.le_refl _, Nat.le_refl _⟩ ?_
    refine lv_pop hx hb dJ0_checkIndex_df160_8 rfl ?_
    exact W.vret hx hb hr (fun t ht _ => ⟨rfl, ht⟩) (fun q h => by cases h) dJ0_checkIndex_df160_9 hlk
  rcases hX.2.2 with hZ | ⟨t, hZ⟩
  · exact va_gets hx hb hZ hS hown (hts _ wJf1) (fun _ h => h) dJ0_checkIndex_df160_2 (go _ rfl)
  · exact va_gets hx hb hZ hS hown (hts _ wJf1) (fun _ h => h) dJ0_checkIndex_df160_2 (go _ rfl)
theorem j_len : ∀ i, i < 6 → (am_tx.map List.length).getD i 0 = (am_tx.getD i []).length ∧ (am_tx.getD i []).length < 100 := by decide +kernel
theorem j_chr : ∀ i, i < 6 → ∀ j, j < (am_tx.getD i []).length → (((am_tx.getD i []).getD j 0 &&& 255).toUInt32 % 65536).toInt32 = (am_tx.getD i []).getD j 0 ∧ narrow .char (.int ((am_tx.getD i []).getD j 0)) = .int ((am_tx.getD i []).getD j 0) := by decide +kernel
theorem j_charL {i j : Nat} (hi : i < 6) (hj : j < (am_tx.getD i []).length) (d : Nat) : jM l adK adV B yJ1_charAt_3b067 cJ1_charAt_3b067 2 (some .char) (d + 2) [.ref (adV i), .int (nI j)] (some (.int ((am_tx.getD i []).getD j 0))) := by
  refine jd_of (by decide) (Nat.le_of_ble_eq_true rfl) fun p e s m args below meth c ls F hX hl => ?_
  obtain ⟨hx, hb, hr, hml, hown, hlk, hts⟩ := F
  have hS : va_S (fun q => B ≤ q) s.heap s.heap [] := va_S.rf
  have hl : lv_has ls 2 [(0, .ref (adV i)), (1, .int (nI j))] := hl
  obtain ⟨e1, e2⟩ := j_len i hi
  obtain ⟨c1, c2⟩ := j_chr i hi j hj
  have hT := (hX.1.1 i hi).2.2.2
  rw [e1] at hT
  refine lv_iload_n hx hb dJ1_charAt_3b067_0 rfl (lv_at hl 1 rfl) ?_
  refine lv_aload_n hx hb dJ1_charAt_3b067_1 rfl (lv_at hl 0 rfl) ?_
  refine va_tlen hx hb hT hS rfl dJ1_charAt_3b067_2 ?_
  refine jd_runS (As := [.int (nI j), .int (nI (am_tx.getD i []).length)]) (rest := []) (v := none) ⟨hx, hb, hml, hown, hts⟩ hl.1 (Nat.le_refl _) (Nat.le_refl _) hX hS (j_check0 (nI_pos (by omega)) (nI_lt hj (by omega)) d) wJi0 (by decide) wJ0_checkIndex_df160 (by decide) (show (parseMethodDescriptor yJ0_checkIndex_df160.desc).map (fun d => d.parameters.length) = some 2 by decide +kernel) wJl5 wJt5 rfl (by decide) dJ1_charAt_3b067_3 ⟨Nat.le_refl _, Nat.le_refl _⟩ ?_
  refine lv_aload_n hx hb dJ1_charAt_3b067_6 rfl (lv_at hl 0 rfl) ?_
  refine lv_iload_n hx hb dJ1_charAt_3b067_7 rfl (lv_at hl 1 rfl) ?_
  refine va_tb hx hb hT hS (vp_in_nI hj (by omega)) (v := .int ((am_tx.getD i []).getD j 0)) (by rw [nI_clamp (by omega)]) dJ1_charAt_3b067_8 ?_
  refine lv_sipush (v := 255) hx hb dJ1_charAt_3b067_9 (by decide) ?_
  refine lv_iand hx hb dJ1_charAt_3b067_12 ?_
  refine lv_i2c hx hb dJ1_charAt_3b067_13 c1 ?_
  exact W.zret hx hb hr c2 (fun t ht _ => ⟨rfl, ht⟩) (fun q h => by cases h) dJ1_charAt_3b067_14 hlk
theorem j_charAt {i j : Nat} (hi : i < 6) (hj : j < (am_tx.getD i []).length) (d : Nat) : jM l adK adV B yJ0_charAt_5068e cJ0_charAt_5068e 2 (some .char) (d + 3) [.ref (adK i), .int (nI j)] (some (.int ((am_tx.getD i []).getD j 0))) := by
  refine jd_of (by decide) (Nat.le_of_ble_eq_true rfl) fun p e s m args below meth c ls F hX hl => ?_
  obtain ⟨hx, hb, hr, hml, hown, hlk, hts⟩ := F
  have hS : va_S (fun q => B ≤ q) s.heap s.heap [] := va_S.rf
  have hl : lv_has ls 2 [(0, .ref (adK i)), (1, .int (nI j))] := hl
  obtain ⟨c1, c2⟩ := j_chr i hi j hj
  refine lv_aload_n hx hb dJ0_charAt_5068e_0 rfl (lv_at hl 0 rfl) ?_
  refine jd_runV (As := []) (rest := []) (v := some (.int 1)) ⟨hx, hb, hml, hown, hts⟩ hl.1 (Nat.le_refl _) (Nat.le_refl _) hX hS hi (j_latin hi (d + 2)) rfl wJ0_isLatin1_aae02 (by decide) (by decide +kernel) wJl3 wJn3 wJs3 rfl (by decide) dJ0_charAt_5068e_1 ⟨Nat.le_refl _, Nat.le_refl _⟩ ?_
  refine lv_if_eq hx hb dJ0_charAt_5068e_4 (tgt := 16) rfl (fun z => absurd z (by decide)) fun _ => ?_
  refine lv_aload_n hx hb dJ0_charAt_5068e_7 rfl (lv_at hl 0 rfl) ?_
  refine vk_getf hx hb (hX.1.1 i hi).2.2.1 hS hown (hts _ wJf2) (fun _ h => h) dJ0_charAt_5068e_8 ?_
  refine lv_iload_n hx hb dJ0_charAt_5068e_11 rfl (lv_at hl 1 rfl) ?_
  refine jd_runS (As := [.ref (adV i), .int (nI j)]) (rest := []) (v := some (.int ((am_tx.getD i []).getD j 0))) ⟨hx, hb, hml, hown, hts⟩ hl.1 (Nat.le_refl _) (Nat.le_refl _) hX hS (j_charL hi hj d) wJi1 (by decide) wJ1_charAt_3b067 (by decide) (show (parseMethodDescriptor yJ1_charAt_3b067.desc).map (fun d => d.parameters.length) = some 2 by decide +kernel) wJl4 wJt4 rfl (by decide) dJ0_charAt_5068e_12 ⟨Nat.le_refl _, Nat.le_refl _⟩ ?_
  exact W.zret hx hb hr c2 (fun t ht _ => ⟨rfl, ht⟩) (fun q h => by cases h) dJ0_charAt_5068e_15 hlk
theorem j_length {i : Nat} (hi : i < 6) (d : Nat) : jM l adK adV B yJ0_length_8abf5 cJ0_length_8abf5 1 (some .int) (d + 1) [.ref (adK i)] (some (.int (nI (am_tx.getD i []).length))) := by
  refine jd_of (by decide) (Nat.le_of_ble_eq_true rfl) fun p e s m args below meth c ls F hX hl => ?_
  obtain ⟨hx, hb, hr, hml, hown, hlk, hts⟩ := F
  have hS : va_S (fun q => B ≤ q) s.heap s.heap [] := va_S.rf
  have hl : lv_has ls 1 [(0, .ref (adK i))] := hl
  obtain ⟨e1, e2⟩ := j_len i hi
  have hT := (hX.1.1 i hi).2.2.2
  rw [e1] at hT
  refine lv_aload_n hx hb dJ0_length_8abf5_0 rfl (lv_at hl 0 rfl) ?_
  refine vk_getf hx hb (hX.1.1 i hi).2.2.1 hS hown (hts _ wJf2) (fun _ h => h) dJ0_length_8abf5_1 ?_
  refine va_tlen hx hb hT hS rfl dJ0_length_8abf5_4 ?_
  refine lv_aload_n hx hb dJ0_length_8abf5_5 rfl (lv_at hl 0 rfl) ?_
  refine jd_runV (As := []) (rest := [.int (nI (am_tx.getD i []).length)]) (v := some (.int 0)) ⟨hx, hb, hml, hown, hts⟩ hl.1 (Nat.le_refl _) (Nat.le_refl _) hX hS hi (j_coder hi d) rfl wJ0_coder_7d493 (by decide) (by decide +kernel) wJl1 wJn1 wJs1 rfl (Nat.le_of_ble_eq_true rfl) dJ0_length_8abf5_6 ⟨Nat.le_refl _, Nat.le_refl _⟩ ?_
  refine lv_ishr hx hb dJ0_length_8abf5_9 ?_
  rw [show nI (am_tx.getD i []).length >>> ((0 : Int32) &&& 31) = nI (am_tx.getD i []).length from by
    have : i = 0 ∨ i = 1 ∨ i = 2 ∨ i = 3 ∨ i = 4 ∨ i = 5 := by omega
    rcases this with rfl | rfl | rfl | rfl | rfl | rfl <;> decide]
  exact W.iret hx hb hr (fun t ht _ => ⟨rfl, ht⟩) (fun q h => by cases h) dJ0_length_8abf5_10 hlk
end JM
