-- ===== PART A: goes FIRST, ahead of the names: the tables' words, and 'selects' of the private methods out of them =====
/-- a private method of a class that the tables say can be made, by its rows of tables_1 -/
def lw_okq (q : MethodName × Nat) : Prop := (q.1.cls ≠ "java/lang/invoke/MethodHandle" ∧ q.1.cls ≠ "java/lang/invoke/VarHandle") ∧ Cond.instantiable q.1.cls q.2 ∈ tables_1 ∧ Cond.privateMethod q.1 ∈ tables_1 ∧ Cond.instanceMethod q.1 ∈ tables_1
theorem lw_p0 : lw_okq (⟨"KitchenSiege", "bad", "()I"⟩, 9) := ⟨⟨by decide +kernel, by decide +kernel⟩, List.mem_of_getElem? (i := 19) (by decide +kernel), List.mem_of_getElem? (i := 317) (by decide +kernel), List.mem_of_getElem? (i := 318) (by decide +kernel)⟩
theorem lw_p1 : lw_okq (⟨"KitchenSiege", "full", "()I"⟩, 9) := ⟨⟨by decide +kernel, by decide +kernel⟩, List.mem_of_getElem? (i := 19) (by decide +kernel), List.mem_of_getElem? (i := 325) (by decide +kernel), List.mem_of_getElem? (i := 326) (by decide +kernel)⟩
theorem lw_p2 : lw_okq (⟨"KitchenSiege", "isStreet", "(I)Z"⟩, 9) := ⟨⟨by decide +kernel, by decide +kernel⟩, List.mem_of_getElem? (i := 19) (by decide +kernel), List.mem_of_getElem? (i := 333) (by decide +kernel), List.mem_of_getElem? (i := 334) (by decide +kernel)⟩
theorem lw_p3 : lw_okq (⟨"KitchenSiege", "no", "()I"⟩, 9) := ⟨⟨by decide +kernel, by decide +kernel⟩, List.mem_of_getElem? (i := 19) (by decide +kernel), List.mem_of_getElem? (i := 344) (by decide +kernel), List.mem_of_getElem? (i := 345) (by decide +kernel)⟩
theorem lw_p4 : lw_okq (⟨"KitchenSiege$Reader", "take", "()V"⟩, 9) := ⟨⟨by decide +kernel, by decide +kernel⟩, List.mem_of_getElem? (i := 221) (by decide +kernel), List.mem_of_getElem? (i := 392) (by decide +kernel), List.mem_of_getElem? (i := 393) (by decide +kernel)⟩
theorem lw_p5 : lw_okq (⟨"KitchenSiege$Reader", "item", "()V"⟩, 9) := ⟨⟨by decide +kernel, by decide +kernel⟩, List.mem_of_getElem? (i := 221) (by decide +kernel), List.mem_of_getElem? (i := 402) (by decide +kernel), List.mem_of_getElem? (i := 403) (by decide +kernel)⟩
theorem lw_p6 : lw_okq (⟨"KitchenSiege$Reader", "word", "()I"⟩, 9) := ⟨⟨by decide +kernel, by decide +kernel⟩, List.mem_of_getElem? (i := 221) (by decide +kernel), List.mem_of_getElem? (i := 406) (by decide +kernel), List.mem_of_getElem? (i := 407) (by decide +kernel)⟩
theorem lw_p7 : lw_okq (⟨"KitchenSiege$Reader", "spells", "(Ljava/lang/String;)Z"⟩, 9) := ⟨⟨by decide +kernel, by decide +kernel⟩, List.mem_of_getElem? (i := 221) (by decide +kernel), List.mem_of_getElem? (i := 411) (by decide +kernel), List.mem_of_getElem? (i := 412) (by decide +kernel)⟩
theorem lw_p8 : lw_okq (⟨"KitchenSiege$Reader", "mayStand", "(I)Z"⟩, 9) := ⟨⟨by decide +kernel, by decide +kernel⟩, List.mem_of_getElem? (i := 221) (by decide +kernel), List.mem_of_getElem? (i := 468) (by decide +kernel), List.mem_of_getElem? (i := 469) (by decide +kernel)⟩
theorem lw_p9 : lw_okq (⟨"KitchenSiege$Reader", "streetItem", "()V"⟩, 9) := ⟨⟨by decide +kernel, by decide +kernel⟩, List.mem_of_getElem? (i := 221) (by decide +kernel), List.mem_of_getElem? (i := 472) (by decide +kernel), List.mem_of_getElem? (i := 473) (by decide +kernel)⟩
theorem lw_p10 : lw_okq (⟨"KitchenSiege$Reader", "number", "(II)I"⟩, 9) := ⟨⟨by decide +kernel, by decide +kernel⟩, List.mem_of_getElem? (i := 221) (by decide +kernel), List.mem_of_getElem? (i := 476) (by decide +kernel), List.mem_of_getElem? (i := 477) (by decide +kernel)⟩
theorem lw_p11 : lw_okq (⟨"KitchenSiege$Reader", "endItem", "()Z"⟩, 9) := ⟨⟨by decide +kernel, by decide +kernel⟩, List.mem_of_getElem? (i := 221) (by decide +kernel), List.mem_of_getElem? (i := 481) (by decide +kernel), List.mem_of_getElem? (i := 482) (by decide +kernel)⟩
theorem lw_p12 : lw_okq (⟨"KitchenSiege$Reader", "laneItem", "()V"⟩, 9) := ⟨⟨by decide +kernel, by decide +kernel⟩, List.mem_of_getElem? (i := 221) (by decide +kernel), List.mem_of_getElem? (i := 486) (by decide +kernel), List.mem_of_getElem? (i := 487) (by decide +kernel)⟩
theorem lw_p13 : lw_okq (⟨"KitchenSiege$Reader", "gateItem", "()V"⟩, 9) := ⟨⟨by decide +kernel, by decide +kernel⟩, List.mem_of_getElem? (i := 221) (by decide +kernel), List.mem_of_getElem? (i := 491) (by decide +kernel), List.mem_of_getElem? (i := 492) (by decide +kernel)⟩
theorem lw_p14 : lw_okq (⟨"KitchenSiege$Reader", "windItem", "()V"⟩, 9) := ⟨⟨by decide +kernel, by decide +kernel⟩, List.mem_of_getElem? (i := 221) (by decide +kernel), List.mem_of_getElem? (i := 495) (by decide +kernel), List.mem_of_getElem? (i := 496) (by decide +kernel)⟩
theorem lw_p15 : lw_okq (⟨"KitchenSiege$Reader", "dishItem", "()V"⟩, 9) := ⟨⟨by decide +kernel, by decide +kernel⟩, List.mem_of_getElem? (i := 221) (by decide +kernel), List.mem_of_getElem? (i := 499) (by decide +kernel), List.mem_of_getElem? (i := 500) (by decide +kernel)⟩
def lw_privs_1 : List (MethodName × Nat) := [(⟨"KitchenSiege", "bad", "()I"⟩, 9), (⟨"KitchenSiege", "full", "()I"⟩, 9), (⟨"KitchenSiege", "isStreet", "(I)Z"⟩, 9), (⟨"KitchenSiege", "no", "()I"⟩, 9), (⟨"KitchenSiege$Reader", "take", "()V"⟩, 9), (⟨"KitchenSiege$Reader", "item", "()V"⟩, 9), (⟨"KitchenSiege$Reader", "word", "()I"⟩, 9), (⟨"KitchenSiege$Reader", "spells", "(Ljava/lang/String;)Z"⟩, 9), (⟨"KitchenSiege$Reader", "mayStand", "(I)Z"⟩, 9), (⟨"KitchenSiege$Reader", "streetItem", "()V"⟩, 9), (⟨"KitchenSiege$Reader", "number", "(II)I"⟩, 9), (⟨"KitchenSiege$Reader", "endItem", "()Z"⟩, 9), (⟨"KitchenSiege$Reader", "laneItem", "()V"⟩, 9), (⟨"KitchenSiege$Reader", "gateItem", "()V"⟩, 9), (⟨"KitchenSiege$Reader", "windItem", "()V"⟩, 9), (⟨"KitchenSiege$Reader", "dishItem", "()V"⟩, 9)]
theorem lw_r1 : ∀ q ∈ lw_privs_1, lw_okq q := List.forall_mem_cons.mpr ⟨lw_p0, List.forall_mem_cons.mpr ⟨lw_p1, List.forall_mem_cons.mpr ⟨lw_p2, List.forall_mem_cons.mpr ⟨lw_p3, List.forall_mem_cons.mpr ⟨lw_p4, List.forall_mem_cons.mpr ⟨lw_p5, List.forall_mem_cons.mpr ⟨lw_p6, List.forall_mem_cons.mpr ⟨lw_p7, List.forall_mem_cons.mpr ⟨lw_p8, List.forall_mem_cons.mpr ⟨lw_p9, List.forall_mem_cons.mpr ⟨lw_p10, List.forall_mem_cons.mpr ⟨lw_p11, List.forall_mem_cons.mpr ⟨lw_p12, List.forall_mem_cons.mpr ⟨lw_p13, List.forall_mem_cons.mpr ⟨lw_p14, List.forall_mem_cons.mpr ⟨lw_p15, fun _ h => absurd h List.not_mem_nil⟩⟩⟩⟩⟩⟩⟩⟩⟩⟩⟩⟩⟩⟩⟩⟩
theorem lw_p16 : lw_okq (⟨"KitchenSiege", "isDish", "(I)Z"⟩, 9) := ⟨⟨by decide +kernel, by decide +kernel⟩, List.mem_of_getElem? (i := 19) (by decide +kernel), List.mem_of_getElem? (i := 526) (by decide +kernel), List.mem_of_getElem? (i := 527) (by decide +kernel)⟩
theorem lw_p17 : lw_okq (⟨"KitchenSiege$Air", "spread", "(LKitchenSiege$Town;)Z"⟩, 2) := ⟨⟨by decide +kernel, by decide +kernel⟩, List.mem_of_getElem? (i := 175) (by decide +kernel), List.mem_of_getElem? (i := 565) (by decide +kernel), List.mem_of_getElem? (i := 566) (by decide +kernel)⟩
theorem lw_p18 : lw_okq (⟨"KitchenSiege$Cook", "openingBits", "(LKitchenSiege$Days;I)I"⟩, 9) := ⟨⟨by decide +kernel, by decide +kernel⟩, List.mem_of_getElem? (i := 169) (by decide +kernel), List.mem_of_getElem? (i := 570) (by decide +kernel), List.mem_of_getElem? (i := 571) (by decide +kernel)⟩
theorem lw_p19 : lw_okq (⟨"KitchenSiege$Cook", "pullFromAir", "(LKitchenSiege$Days;II)I"⟩, 9) := ⟨⟨by decide +kernel, by decide +kernel⟩, List.mem_of_getElem? (i := 169) (by decide +kernel), List.mem_of_getElem? (i := 578) (by decide +kernel), List.mem_of_getElem? (i := 579) (by decide +kernel)⟩
theorem lw_p20 : lw_okq (⟨"KitchenSiege", "badTen", "()I"⟩, 9) := ⟨⟨by decide +kernel, by decide +kernel⟩, List.mem_of_getElem? (i := 19) (by decide +kernel), List.mem_of_getElem? (i := 611) (by decide +kernel), List.mem_of_getElem? (i := 612) (by decide +kernel)⟩
theorem lw_p21 : lw_okq (⟨"KitchenSiege$Cook", "measure", "(II)V"⟩, 9) := ⟨⟨by decide +kernel, by decide +kernel⟩, List.mem_of_getElem? (i := 169) (by decide +kernel), List.mem_of_getElem? (i := 639) (by decide +kernel), List.mem_of_getElem? (i := 640) (by decide +kernel)⟩
theorem lw_p22 : lw_okq (⟨"KitchenSiege$Cook", "findRowOf", "(III)Z"⟩, 9) := ⟨⟨by decide +kernel, by decide +kernel⟩, List.mem_of_getElem? (i := 169) (by decide +kernel), List.mem_of_getElem? (i := 651) (by decide +kernel), List.mem_of_getElem? (i := 652) (by decide +kernel)⟩
theorem lw_p23 : lw_okq (⟨"KitchenSiege$Cook", "lay", "(II)Z"⟩, 9) := ⟨⟨by decide +kernel, by decide +kernel⟩, List.mem_of_getElem? (i := 169) (by decide +kernel), List.mem_of_getElem? (i := 655) (by decide +kernel), List.mem_of_getElem? (i := 656) (by decide +kernel)⟩
theorem lw_p24 : lw_okq (⟨"KitchenSiege$Cook", "opensLast", "(II)Z"⟩, 9) := ⟨⟨by decide +kernel, by decide +kernel⟩, List.mem_of_getElem? (i := 169) (by decide +kernel), List.mem_of_getElem? (i := 659) (by decide +kernel), List.mem_of_getElem? (i := 660) (by decide +kernel)⟩
theorem lw_p25 : lw_okq (⟨"KitchenSiege$Cook", "openedAlone", "(II)I"⟩, 9) := ⟨⟨by decide +kernel, by decide +kernel⟩, List.mem_of_getElem? (i := 169) (by decide +kernel), List.mem_of_getElem? (i := 677) (by decide +kernel), List.mem_of_getElem? (i := 678) (by decide +kernel)⟩
theorem lw_p26 : lw_okq (⟨"KitchenSiege$Cook", "openedAloneOn", "(II)I"⟩, 9) := ⟨⟨by decide +kernel, by decide +kernel⟩, List.mem_of_getElem? (i := 169) (by decide +kernel), List.mem_of_getElem? (i := 681) (by decide +kernel), List.mem_of_getElem? (i := 682) (by decide +kernel)⟩
theorem lw_p27 : lw_okq (⟨"KitchenSiege$Cook", "openedBy", "(I)I"⟩, 9) := ⟨⟨by decide +kernel, by decide +kernel⟩, List.mem_of_getElem? (i := 169) (by decide +kernel), List.mem_of_getElem? (i := 693) (by decide +kernel), List.mem_of_getElem? (i := 694) (by decide +kernel)⟩
theorem lw_p28 : lw_okq (⟨"KitchenSiege$Cook", "butterOf", "(I)I"⟩, 9) := ⟨⟨by decide +kernel, by decide +kernel⟩, List.mem_of_getElem? (i := 169) (by decide +kernel), List.mem_of_getElem? (i := 697) (by decide +kernel), List.mem_of_getElem? (i := 698) (by decide +kernel)⟩
theorem lw_p29 : lw_okq (⟨"KitchenSiege$Cook", "rests", "(II)Z"⟩, 9) := ⟨⟨by decide +kernel, by decide +kernel⟩, List.mem_of_getElem? (i := 169) (by decide +kernel), List.mem_of_getElem? (i := 732) (by decide +kernel), List.mem_of_getElem? (i := 733) (by decide +kernel)⟩
theorem lw_p30 : lw_okq (⟨"KitchenSiege$Notes", "allSo", "(III)Z"⟩, 6) := ⟨⟨by decide +kernel, by decide +kernel⟩, List.mem_of_getElem? (i := 33) (by decide +kernel), List.mem_of_getElem? (i := 759) (by decide +kernel), List.mem_of_getElem? (i := 760) (by decide +kernel)⟩
theorem lw_p31 : lw_okq (⟨"KitchenSiegeModel", "bad", "()I"⟩, 20) := ⟨⟨by decide +kernel, by decide +kernel⟩, List.mem_of_getElem? (i := 880) (by decide +kernel), List.mem_of_getElem? (i := 964) (by decide +kernel), List.mem_of_getElem? (i := 965) (by decide +kernel)⟩
def lw_privs_2 : List (MethodName × Nat) := [(⟨"KitchenSiege", "isDish", "(I)Z"⟩, 9), (⟨"KitchenSiege$Air", "spread", "(LKitchenSiege$Town;)Z"⟩, 2), (⟨"KitchenSiege$Cook", "openingBits", "(LKitchenSiege$Days;I)I"⟩, 9), (⟨"KitchenSiege$Cook", "pullFromAir", "(LKitchenSiege$Days;II)I"⟩, 9), (⟨"KitchenSiege", "badTen", "()I"⟩, 9), (⟨"KitchenSiege$Cook", "measure", "(II)V"⟩, 9), (⟨"KitchenSiege$Cook", "findRowOf", "(III)Z"⟩, 9), (⟨"KitchenSiege$Cook", "lay", "(II)Z"⟩, 9), (⟨"KitchenSiege$Cook", "opensLast", "(II)Z"⟩, 9), (⟨"KitchenSiege$Cook", "openedAlone", "(II)I"⟩, 9), (⟨"KitchenSiege$Cook", "openedAloneOn", "(II)I"⟩, 9), (⟨"KitchenSiege$Cook", "openedBy", "(I)I"⟩, 9), (⟨"KitchenSiege$Cook", "butterOf", "(I)I"⟩, 9), (⟨"KitchenSiege$Cook", "rests", "(II)Z"⟩, 9), (⟨"KitchenSiege$Notes", "allSo", "(III)Z"⟩, 6), (⟨"KitchenSiegeModel", "bad", "()I"⟩, 20)]
theorem lw_r2 : ∀ q ∈ lw_privs_2, lw_okq q := List.forall_mem_cons.mpr ⟨lw_p16, List.forall_mem_cons.mpr ⟨lw_p17, List.forall_mem_cons.mpr ⟨lw_p18, List.forall_mem_cons.mpr ⟨lw_p19, List.forall_mem_cons.mpr ⟨lw_p20, List.forall_mem_cons.mpr ⟨lw_p21, List.forall_mem_cons.mpr ⟨lw_p22, List.forall_mem_cons.mpr ⟨lw_p23, List.forall_mem_cons.mpr ⟨lw_p24, List.forall_mem_cons.mpr ⟨lw_p25, List.forall_mem_cons.mpr ⟨lw_p26, List.forall_mem_cons.mpr ⟨lw_p27, List.forall_mem_cons.mpr ⟨lw_p28, List.forall_mem_cons.mpr ⟨lw_p29, List.forall_mem_cons.mpr ⟨lw_p30, List.forall_mem_cons.mpr ⟨lw_p31, fun _ h => absurd h List.not_mem_nil⟩⟩⟩⟩⟩⟩⟩⟩⟩⟩⟩⟩⟩⟩⟩⟩
theorem lw_p32 : lw_okq (⟨"KitchenSiegeModel", "full", "()I"⟩, 20) := ⟨⟨by decide +kernel, by decide +kernel⟩, List.mem_of_getElem? (i := 880) (by decide +kernel), List.mem_of_getElem? (i := 968) (by decide +kernel), List.mem_of_getElem? (i := 969) (by decide +kernel)⟩
theorem lw_p33 : lw_okq (⟨"KitchenSiegeModel", "isStreet", "(I)Z"⟩, 20) := ⟨⟨by decide +kernel, by decide +kernel⟩, List.mem_of_getElem? (i := 880) (by decide +kernel), List.mem_of_getElem? (i := 979) (by decide +kernel), List.mem_of_getElem? (i := 980) (by decide +kernel)⟩
theorem lw_p34 : lw_okq (⟨"KitchenSiegeModel", "no", "()I"⟩, 20) := ⟨⟨by decide +kernel, by decide +kernel⟩, List.mem_of_getElem? (i := 880) (by decide +kernel), List.mem_of_getElem? (i := 983) (by decide +kernel), List.mem_of_getElem? (i := 984) (by decide +kernel)⟩
theorem lw_p35 : lw_okq (⟨"KitchenSiegeModel", "word", "()I"⟩, 20) := ⟨⟨by decide +kernel, by decide +kernel⟩, List.mem_of_getElem? (i := 880) (by decide +kernel), List.mem_of_getElem? (i := 1020) (by decide +kernel), List.mem_of_getElem? (i := 1021) (by decide +kernel)⟩
theorem lw_p36 : lw_okq (⟨"KitchenSiegeModel", "skip", "()V"⟩, 20) := ⟨⟨by decide +kernel, by decide +kernel⟩, List.mem_of_getElem? (i := 880) (by decide +kernel), List.mem_of_getElem? (i := 1024) (by decide +kernel), List.mem_of_getElem? (i := 1025) (by decide +kernel)⟩
theorem lw_p37 : lw_okq (⟨"KitchenSiegeModel", "byteAt", "(I)I"⟩, 20) := ⟨⟨by decide +kernel, by decide +kernel⟩, List.mem_of_getElem? (i := 880) (by decide +kernel), List.mem_of_getElem? (i := 1028) (by decide +kernel), List.mem_of_getElem? (i := 1029) (by decide +kernel)⟩
theorem lw_p38 : lw_okq (⟨"KitchenSiegeModel", "fails", "(I)Z"⟩, 20) := ⟨⟨by decide +kernel, by decide +kernel⟩, List.mem_of_getElem? (i := 880) (by decide +kernel), List.mem_of_getElem? (i := 1044) (by decide +kernel), List.mem_of_getElem? (i := 1045) (by decide +kernel)⟩
theorem lw_p39 : lw_okq (⟨"KitchenSiegeModel", "item", "(I)Z"⟩, 20) := ⟨⟨by decide +kernel, by decide +kernel⟩, List.mem_of_getElem? (i := 880) (by decide +kernel), List.mem_of_getElem? (i := 1048) (by decide +kernel), List.mem_of_getElem? (i := 1049) (by decide +kernel)⟩
theorem lw_p40 : lw_okq (⟨"KitchenSiegeModel", "ends", "()Z"⟩, 20) := ⟨⟨by decide +kernel, by decide +kernel⟩, List.mem_of_getElem? (i := 880) (by decide +kernel), List.mem_of_getElem? (i := 1052) (by decide +kernel), List.mem_of_getElem? (i := 1053) (by decide +kernel)⟩
theorem lw_p41 : lw_okq (⟨"KitchenSiegeModel", "number", "(III)Z"⟩, 20) := ⟨⟨by decide +kernel, by decide +kernel⟩, List.mem_of_getElem? (i := 880) (by decide +kernel), List.mem_of_getElem? (i := 1056) (by decide +kernel), List.mem_of_getElem? (i := 1057) (by decide +kernel)⟩
theorem lw_p42 : lw_okq (⟨"KitchenSiegeModel", "laneItem", "()Z"⟩, 20) := ⟨⟨by decide +kernel, by decide +kernel⟩, List.mem_of_getElem? (i := 880) (by decide +kernel), List.mem_of_getElem? (i := 1063) (by decide +kernel), List.mem_of_getElem? (i := 1064) (by decide +kernel)⟩
theorem lw_p43 : lw_okq (⟨"KitchenSiegeModel", "isDish", "(I)Z"⟩, 20) := ⟨⟨by decide +kernel, by decide +kernel⟩, List.mem_of_getElem? (i := 880) (by decide +kernel), List.mem_of_getElem? (i := 1071) (by decide +kernel), List.mem_of_getElem? (i := 1072) (by decide +kernel)⟩
theorem lw_p44 : lw_okq (⟨"KitchenSiegeModel", "goDay", "(I)I"⟩, 20) := ⟨⟨by decide +kernel, by decide +kernel⟩, List.mem_of_getElem? (i := 880) (by decide +kernel), List.mem_of_getElem? (i := 1078) (by decide +kernel), List.mem_of_getElem? (i := 1079) (by decide +kernel)⟩
theorem lw_p45 : lw_okq (⟨"KitchenSiegeModel", "opening", "(III)I"⟩, 20) := ⟨⟨by decide +kernel, by decide +kernel⟩, List.mem_of_getElem? (i := 880) (by decide +kernel), List.mem_of_getElem? (i := 1082) (by decide +kernel), List.mem_of_getElem? (i := 1083) (by decide +kernel)⟩
theorem lw_p46 : lw_okq (⟨"KitchenSiegeModel", "windOf", "(I)I"⟩, 20) := ⟨⟨by decide +kernel, by decide +kernel⟩, List.mem_of_getElem? (i := 880) (by decide +kernel), List.mem_of_getElem? (i := 1086) (by decide +kernel), List.mem_of_getElem? (i := 1087) (by decide +kernel)⟩
theorem lw_p47 : lw_okq (⟨"KitchenSiegeModel", "spread", "(IIII)V"⟩, 20) := ⟨⟨by decide +kernel, by decide +kernel⟩, List.mem_of_getElem? (i := 880) (by decide +kernel), List.mem_of_getElem? (i := 1090) (by decide +kernel), List.mem_of_getElem? (i := 1091) (by decide +kernel)⟩
def lw_privs_3 : List (MethodName × Nat) := [(⟨"KitchenSiegeModel", "full", "()I"⟩, 20), (⟨"KitchenSiegeModel", "isStreet", "(I)Z"⟩, 20), (⟨"KitchenSiegeModel", "no", "()I"⟩, 20), (⟨"KitchenSiegeModel", "word", "()I"⟩, 20), (⟨"KitchenSiegeModel", "skip", "()V"⟩, 20), (⟨"KitchenSiegeModel", "byteAt", "(I)I"⟩, 20), (⟨"KitchenSiegeModel", "fails", "(I)Z"⟩, 20), (⟨"KitchenSiegeModel", "item", "(I)Z"⟩, 20), (⟨"KitchenSiegeModel", "ends", "()Z"⟩, 20), (⟨"KitchenSiegeModel", "number", "(III)Z"⟩, 20), (⟨"KitchenSiegeModel", "laneItem", "()Z"⟩, 20), (⟨"KitchenSiegeModel", "isDish", "(I)Z"⟩, 20), (⟨"KitchenSiegeModel", "goDay", "(I)I"⟩, 20), (⟨"KitchenSiegeModel", "opening", "(III)I"⟩, 20), (⟨"KitchenSiegeModel", "windOf", "(I)I"⟩, 20), (⟨"KitchenSiegeModel", "spread", "(IIII)V"⟩, 20)]
theorem lw_r3 : ∀ q ∈ lw_privs_3, lw_okq q := List.forall_mem_cons.mpr ⟨lw_p32, List.forall_mem_cons.mpr ⟨lw_p33, List.forall_mem_cons.mpr ⟨lw_p34, List.forall_mem_cons.mpr ⟨lw_p35, List.forall_mem_cons.mpr ⟨lw_p36, List.forall_mem_cons.mpr ⟨lw_p37, List.forall_mem_cons.mpr ⟨lw_p38, List.forall_mem_cons.mpr ⟨lw_p39, List.forall_mem_cons.mpr ⟨lw_p40, List.forall_mem_cons.mpr ⟨lw_p41, List.forall_mem_cons.mpr ⟨lw_p42, List.forall_mem_cons.mpr ⟨lw_p43, List.forall_mem_cons.mpr ⟨lw_p44, List.forall_mem_cons.mpr ⟨lw_p45, List.forall_mem_cons.mpr ⟨lw_p46, List.forall_mem_cons.mpr ⟨lw_p47, fun _ h => absurd h List.not_mem_nil⟩⟩⟩⟩⟩⟩⟩⟩⟩⟩⟩⟩⟩⟩⟩⟩
theorem lw_p48 : lw_okq (⟨"KitchenSiegeModel", "movedIn", "(IIII)I"⟩, 20) := ⟨⟨by decide +kernel, by decide +kernel⟩, List.mem_of_getElem? (i := 880) (by decide +kernel), List.mem_of_getElem? (i := 1094) (by decide +kernel), List.mem_of_getElem? (i := 1095) (by decide +kernel)⟩
theorem lw_p49 : lw_okq (⟨"KitchenSiegeModel", "bad10", "()I"⟩, 20) := ⟨⟨by decide +kernel, by decide +kernel⟩, List.mem_of_getElem? (i := 880) (by decide +kernel), List.mem_of_getElem? (i := 1112) (by decide +kernel), List.mem_of_getElem? (i := 1113) (by decide +kernel)⟩
theorem lw_p50 : lw_okq (⟨"KitchenSiegeModel", "butterOf", "(III)I"⟩, 20) := ⟨⟨by decide +kernel, by decide +kernel⟩, List.mem_of_getElem? (i := 880) (by decide +kernel), List.mem_of_getElem? (i := 1132) (by decide +kernel), List.mem_of_getElem? (i := 1133) (by decide +kernel)⟩
theorem lw_p51 : lw_okq (⟨"KitchenSiegeModel", "dishIn", "(III)I"⟩, 20) := ⟨⟨by decide +kernel, by decide +kernel⟩, List.mem_of_getElem? (i := 880) (by decide +kernel), List.mem_of_getElem? (i := 1136) (by decide +kernel), List.mem_of_getElem? (i := 1137) (by decide +kernel)⟩
theorem lw_p52 : lw_okq (⟨"KitchenSiegeModel", "opensIn", "(III)Z"⟩, 20) := ⟨⟨by decide +kernel, by decide +kernel⟩, List.mem_of_getElem? (i := 880) (by decide +kernel), List.mem_of_getElem? (i := 1147) (by decide +kernel), List.mem_of_getElem? (i := 1148) (by decide +kernel)⟩
theorem lw_p53 : lw_okq (⟨"KitchenSiegeModel", "opensOn", "(III)Z"⟩, 20) := ⟨⟨by decide +kernel, by decide +kernel⟩, List.mem_of_getElem? (i := 880) (by decide +kernel), List.mem_of_getElem? (i := 1151) (by decide +kernel), List.mem_of_getElem? (i := 1152) (by decide +kernel)⟩
theorem lw_p54 : lw_okq (⟨"KitchenSiegeModel", "cravings", "(II)I"⟩, 20) := ⟨⟨by decide +kernel, by decide +kernel⟩, List.mem_of_getElem? (i := 880) (by decide +kernel), List.mem_of_getElem? (i := 1181) (by decide +kernel), List.mem_of_getElem? (i := 1182) (by decide +kernel)⟩
theorem lw_p55 : lw_okq (⟨"KitchenSiegeModel", "openMany", "()I"⟩, 20) := ⟨⟨by decide +kernel, by decide +kernel⟩, List.mem_of_getElem? (i := 880) (by decide +kernel), List.mem_of_getElem? (i := 1209) (by decide +kernel), List.mem_of_getElem? (i := 1210) (by decide +kernel)⟩
theorem lw_p56 : lw_okq (⟨"KitchenSiegeModel", "countOf", "(I)I"⟩, 20) := ⟨⟨by decide +kernel, by decide +kernel⟩, List.mem_of_getElem? (i := 880) (by decide +kernel), List.mem_of_getElem? (i := 1234) (by decide +kernel), List.mem_of_getElem? (i := 1235) (by decide +kernel)⟩
def lw_privs_4 : List (MethodName × Nat) := [(⟨"KitchenSiegeModel", "movedIn", "(IIII)I"⟩, 20), (⟨"KitchenSiegeModel", "bad10", "()I"⟩, 20), (⟨"KitchenSiegeModel", "butterOf", "(III)I"⟩, 20), (⟨"KitchenSiegeModel", "dishIn", "(III)I"⟩, 20), (⟨"KitchenSiegeModel", "opensIn", "(III)Z"⟩, 20), (⟨"KitchenSiegeModel", "opensOn", "(III)Z"⟩, 20), (⟨"KitchenSiegeModel", "cravings", "(II)I"⟩, 20), (⟨"KitchenSiegeModel", "openMany", "()I"⟩, 20), (⟨"KitchenSiegeModel", "countOf", "(I)I"⟩, 20)]
theorem lw_r4 : ∀ q ∈ lw_privs_4, lw_okq q := List.forall_mem_cons.mpr ⟨lw_p48, List.forall_mem_cons.mpr ⟨lw_p49, List.forall_mem_cons.mpr ⟨lw_p50, List.forall_mem_cons.mpr ⟨lw_p51, List.forall_mem_cons.mpr ⟨lw_p52, List.forall_mem_cons.mpr ⟨lw_p53, List.forall_mem_cons.mpr ⟨lw_p54, List.forall_mem_cons.mpr ⟨lw_p55, List.forall_mem_cons.mpr ⟨lw_p56, fun _ h => absurd h List.not_mem_nil⟩⟩⟩⟩⟩⟩⟩⟩⟩
def lw_privs : List (MethodName × Nat) := lw_privs_1 ++ (lw_privs_2 ++ (lw_privs_3 ++ (lw_privs_4)))
def lw_tbl : List Cond := k2_sels lw_privs ++ tables_1
theorem lw_privs_ok : ∀ q ∈ lw_privs, lw_okq q := by
  show ∀ q ∈ lw_privs_1 ++ (lw_privs_2 ++ (lw_privs_3 ++ (lw_privs_4))), lw_okq q
  exact List.forall_mem_append.mpr ⟨lw_r1, List.forall_mem_append.mpr ⟨lw_r2, List.forall_mem_append.mpr ⟨lw_r3, lw_r4⟩⟩⟩

def RX0 : String := "KitchenSiege$Air"
def TX0 : u_T := fun k => match k with
  | 0 => ("KitchenSiege$Air", "strength", "[I", true)
  | _ => ("KitchenSiege$Air", "walls", "[I", true)
def tyX0 : Nat → FieldType := fun k => match k with
  | 0 => .array .int
  | _ => .array .int
abbrev wsX00 : List Cond := u_ws RX0 TX0 2
theorem nmX0 : ∀ a, a < 2 → ∀ b, b < 2 → a ≠ b → (TX0 a).2.1 ≠ (TX0 b).2.1 := by decide +kernel
theorem tyX0_ok : ∀ k, k < 2 → parseFieldDescriptor (TX0 k).2.2.1 = some (tyX0 k) := by decide +kernel
abbrev cX0_init : ByteArray := prog_2_method_1_code
def yX0_init : MethodName := ⟨RX0, "<init>", "()V"⟩
abbrev cX0_empty : ByteArray := prog_2_method_2_code
def yX0_empty : MethodName := ⟨RX0, "empty", "()V"⟩
abbrev cX0_fill : ByteArray := prog_2_method_3_code
def yX0_fill : MethodName := ⟨RX0, "fill", "(LKitchenSiege$Town;II)V"⟩
abbrev cX0_fillWithSheets : ByteArray := prog_2_method_4_code
def yX0_fillWithSheets : MethodName := ⟨RX0, "fillWithSheets", "(LKitchenSiege$Town;IIII)V"⟩
abbrev cX0_spread : ByteArray := prog_2_method_5_code
def yX0_spread : MethodName := ⟨RX0, "spread", "(LKitchenSiege$Town;)Z"⟩
def RX1 : String := "KitchenSiege$Cook"
def TX1 : u_T := fun k => match k with
  | 0 => ("KitchenSiege$Cook", "best", "[I", true)
  | 1 => ("KitchenSiege$Cook", "bestButter", "I", false)
  | 2 => ("KitchenSiege$Cook", "town", "LKitchenSiege$Town;", true)
  | 3 => ("KitchenSiege$Cook", "air", "LKitchenSiege$Air;", true)
  | 4 => ("KitchenSiege$Cook", "trial", "LKitchenSiege$Days;", true)
  | 5 => ("KitchenSiege$Cook", "row", "[I", true)
  | 6 => ("KitchenSiege$Cook", "ahead", "[I", true)
  | 7 => ("KitchenSiege$Cook", "opened", "[I", true)
  | _ => ("KitchenSiege$Cook", "duel", "[I", true)
def tyX1 : Nat → FieldType := fun k => match k with
  | 0 => .array .int
  | 1 => .int
  | 2 => .object "KitchenSiege$Town"
  | 3 => .object "KitchenSiege$Air"
  | 4 => .object "KitchenSiege$Days"
  | 5 => .array .int
  | 6 => .array .int
  | 7 => .array .int
  | _ => .array .int
abbrev wsX10 : List Cond := u_ws RX1 TX1 9
theorem nmX1 : ∀ a, a < 9 → ∀ b, b < 9 → a ≠ b → (TX1 a).2.1 ≠ (TX1 b).2.1 := by decide +kernel
theorem tyX1_ok : ∀ k, k < 9 → parseFieldDescriptor (TX1 k).2.2.1 = some (tyX1 k) := by decide +kernel
abbrev cX1_init : ByteArray := prog_3_method_1_code
def yX1_init : MethodName := ⟨RX1, "<init>", "(LKitchenSiege$Town;)V"⟩
abbrev cX1_pass : ByteArray := prog_3_method_2_code
def yX1_pass : MethodName := ⟨RX1, "pass", "(LKitchenSiege$Days;I)I"⟩
abbrev cX1_openingBits : ByteArray := prog_3_method_3_code
def yX1_openingBits : MethodName := ⟨RX1, "openingBits", "(LKitchenSiege$Days;I)I"⟩
abbrev cX1_pullFromAir : ByteArray := prog_3_method_4_code
def yX1_pullFromAir : MethodName := ⟨RX1, "pullFromAir", "(LKitchenSiege$Days;II)I"⟩
abbrev cX1_strength : ByteArray := prog_3_method_5_code
def yX1_strength : MethodName := ⟨RX1, "strength", "(III)I"⟩
abbrev cX1_pullNow : ByteArray := prog_3_method_6_code
def yX1_pullNow : MethodName := ⟨RX1, "pullNow", "(II)I"⟩
abbrev cX1_daysToFall : ByteArray := prog_3_method_7_code
def yX1_daysToFall : MethodName := ⟨RX1, "daysToFall", "(II)I"⟩
abbrev cX1_measure : ByteArray := prog_3_method_8_code
def yX1_measure : MethodName := ⟨RX1, "measure", "(II)V"⟩
abbrev cX1_findRow : ByteArray := prog_3_method_9_code
def yX1_findRow : MethodName := ⟨RX1, "findRow", "(I)I"⟩
abbrev cX1_findRowOf : ByteArray := prog_3_method_10_code
def yX1_findRowOf : MethodName := ⟨RX1, "findRowOf", "(III)Z"⟩
abbrev cX1_lay : ByteArray := prog_3_method_11_code
def yX1_lay : MethodName := ⟨RX1, "lay", "(II)Z"⟩
abbrev cX1_opensLast : ByteArray := prog_3_method_12_code
def yX1_opensLast : MethodName := ⟨RX1, "opensLast", "(II)Z"⟩
abbrev cX1_neverOpened : ByteArray := prog_3_method_13_code
def yX1_neverOpened : MethodName := ⟨RX1, "neverOpened", "()I"⟩
abbrev cX1_openedAlone : ByteArray := prog_3_method_14_code
def yX1_openedAlone : MethodName := ⟨RX1, "openedAlone", "(II)I"⟩
abbrev cX1_openedAloneOn : ByteArray := prog_3_method_15_code
def yX1_openedAloneOn : MethodName := ⟨RX1, "openedAloneOn", "(II)I"⟩
abbrev cX1_leastSet : ByteArray := prog_3_method_16_code
def yX1_leastSet : MethodName := ⟨RX1, "leastSet", "()I"⟩
abbrev cX1_openedBy : ByteArray := prog_3_method_17_code
def yX1_openedBy : MethodName := ⟨RX1, "openedBy", "(I)I"⟩
abbrev cX1_butterOf : ByteArray := prog_3_method_18_code
def yX1_butterOf : MethodName := ⟨RX1, "butterOf", "(I)I"⟩
abbrev cX1_opening : ByteArray := prog_3_method_19_code
def yX1_opening : MethodName := ⟨RX1, "opening", "(III)I"⟩
abbrev cX1_bestSheets : ByteArray := prog_3_method_20_code
def yX1_bestSheets : MethodName := ⟨RX1, "bestSheets", "(II)I"⟩
abbrev cX1_restingPairs : ByteArray := prog_3_method_21_code
def yX1_restingPairs : MethodName := ⟨RX1, "restingPairs", "(I)I"⟩
abbrev cX1_pair : ByteArray := prog_3_method_22_code
def yX1_pair : MethodName := ⟨RX1, "pair", "(II)I"⟩
abbrev cX1_rests : ByteArray := prog_3_method_23_code
def yX1_rests : MethodName := ⟨RX1, "rests", "(II)Z"⟩
abbrev cX1_openAfter : ByteArray := prog_3_method_24_code
def yX1_openAfter : MethodName := ⟨RX1, "openAfter", "(II)I"⟩
def RX2 : String := "KitchenSiege$Days"
def TX2 : u_T := fun k => match k with
  | 0 => ("KitchenSiege$Days", "day", "I", false)
  | 1 => ("KitchenSiege$Days", "since", "[I", true)
  | 2 => ("KitchenSiege$Days", "smelt", "[I", true)
  | _ => ("KitchenSiege$Days", "onEnd", "[I", true)
def tyX2 : Nat → FieldType := fun k => match k with
  | 0 => .int
  | 1 => .array .int
  | 2 => .array .int
  | _ => .array .int
abbrev wsX20 : List Cond := u_ws RX2 TX2 4
theorem nmX2 : ∀ a, a < 4 → ∀ b, b < 4 → a ≠ b → (TX2 a).2.1 ≠ (TX2 b).2.1 := by decide +kernel
theorem tyX2_ok : ∀ k, k < 4 → parseFieldDescriptor (TX2 k).2.2.1 = some (tyX2 k) := by decide +kernel
abbrev cX2_init : ByteArray := prog_4_method_1_code
def yX2_init : MethodName := ⟨RX2, "<init>", "()V"⟩
abbrev cX2_begin : ByteArray := prog_4_method_2_code
def yX2_begin : MethodName := ⟨RX2, "begin", "()V"⟩
abbrev cX2_copy : ByteArray := prog_4_method_3_code
def yX2_copy : MethodName := ⟨RX2, "copy", "(LKitchenSiege$Days;)V"⟩
abbrev cX2_isShut : ByteArray := prog_4_method_4_code
def yX2_isShut : MethodName := ⟨RX2, "isShut", "(I)Z"⟩
abbrev cX2_openOf : ByteArray := prog_4_method_5_code
def yX2_openOf : MethodName := ⟨RX2, "openOf", "(I)I"⟩
abbrev cX2_ahead : ByteArray := prog_4_method_6_code
def yX2_ahead : MethodName := ⟨RX2, "ahead", "(II)I"⟩
abbrev cX2_smellAfter : ByteArray := prog_4_method_7_code
def yX2_smellAfter : MethodName := ⟨RX2, "smellAfter", "(III)V"⟩
def RX3 : String := "KitchenSiege$Fraction"
def TX3 : u_T := fun k => match k with
  | 0 => ("KitchenSiege$Fraction", "above", "J", false)
  | _ => ("KitchenSiege$Fraction", "below", "J", false)
def tyX3 : Nat → FieldType := fun k => match k with
  | 0 => .long
  | _ => .long
abbrev wsX30 : List Cond := u_ws RX3 TX3 2
theorem nmX3 : ∀ a, a < 2 → ∀ b, b < 2 → a ≠ b → (TX3 a).2.1 ≠ (TX3 b).2.1 := by decide +kernel
theorem tyX3_ok : ∀ k, k < 2 → parseFieldDescriptor (TX3 k).2.2.1 = some (tyX3 k) := by decide +kernel
abbrev cX3_init : ByteArray := prog_5_method_1_code
def yX3_init : MethodName := ⟨RX3, "<init>", "()V"⟩
abbrev cX3_chance : ByteArray := prog_5_method_2_code
def yX3_chance : MethodName := ⟨RX3, "chance", "(III)V"⟩
abbrev cX3_choices : ByteArray := prog_5_method_3_code
def yX3_choices : MethodName := ⟨RX3, "choices", "(II)J"⟩
abbrev cX3_power : ByteArray := prog_5_method_4_code
def yX3_power : MethodName := ⟨RX3, "power", "(II)J"⟩
abbrev cX3_commonPart : ByteArray := prog_5_method_5_code
def yX3_commonPart : MethodName := ⟨RX3, "commonPart", "(JJ)J"⟩
def RX4 : String := "KitchenSiege$Nose"
def TX4 : u_T := fun k => match k with
  | _ => ("", "", "", false)
def tyX4 : Nat → FieldType := fun k => match k with
  | _ => .int
abbrev wsX40 : List Cond := u_ws RX4 TX4 0
theorem nmX4 : ∀ a, a < 0 → ∀ b, b < 0 → a ≠ b → (TX4 a).2.1 ≠ (TX4 b).2.1 := by decide +kernel
theorem tyX4_ok : ∀ k, k < 0 → parseFieldDescriptor (TX4 k).2.2.1 = some (tyX4 k) := by decide +kernel
abbrev cX4_pull : ByteArray := prog_6_method_2_code
def yX4_pull : MethodName := ⟨RX4, "pull", "(IIIIII)I"⟩
abbrev cX4_opensAlone : ByteArray := prog_6_method_3_code
def yX4_opensAlone : MethodName := ⟨RX4, "opensAlone", "(IIIII)Z"⟩
def RX5 : String := "KitchenSiege$Notes"
def TX5 : u_T := fun k => match k with
  | 0 => ("KitchenSiege$Notes", "size", "I", false)
  | 1 => ("KitchenSiege$Notes", "streets", "[I", true)
  | 2 => ("KitchenSiege$Notes", "smells", "[I", true)
  | 3 => ("KitchenSiege$Notes", "strengths", "[I", true)
  | 4 => ("KitchenSiege$Notes", "days", "[I", true)
  | _ => ("KitchenSiege$Notes", "opened", "[I", true)
def tyX5 : Nat → FieldType := fun k => match k with
  | 0 => .int
  | 1 => .array .int
  | 2 => .array .int
  | 3 => .array .int
  | 4 => .array .int
  | _ => .array .int
abbrev wsX50 : List Cond := u_ws RX5 TX5 6
theorem nmX5 : ∀ a, a < 6 → ∀ b, b < 6 → a ≠ b → (TX5 a).2.1 ≠ (TX5 b).2.1 := by decide +kernel
theorem tyX5_ok : ∀ k, k < 6 → parseFieldDescriptor (TX5 k).2.2.1 = some (tyX5 k) := by decide +kernel
abbrev cX5_init : ByteArray := prog_7_method_1_code
def yX5_init : MethodName := ⟨RX5, "<init>", "()V"⟩
abbrev cX5_copy : ByteArray := prog_7_method_2_code
def yX5_copy : MethodName := ⟨RX5, "copy", "(LKitchenSiege$Notes;)V"⟩
abbrev cX5_add : ByteArray := prog_7_method_3_code
def yX5_add : MethodName := ⟨RX5, "add", "(IIIII)I"⟩
abbrev cX5_cravings : ByteArray := prog_7_method_4_code
def yX5_cravings : MethodName := ⟨RX5, "cravings", "(II)I"⟩
abbrev cX5_allSo : ByteArray := prog_7_method_5_code
def yX5_allSo : MethodName := ⟨RX5, "allSo", "(III)Z"⟩
abbrev cX5_bestTrial : ByteArray := prog_7_method_6_code
def yX5_bestTrial : MethodName := ⟨RX5, "bestTrial", "(IIII)I"⟩
abbrev cX5_openers : ByteArray := prog_7_method_7_code
def yX5_openers : MethodName := ⟨RX5, "openers", "(IIIII)I"⟩
abbrev cX5_mixNotes : ByteArray := prog_7_method_8_code
def yX5_mixNotes : MethodName := ⟨RX5, "mixNotes", "(J)J"⟩
def RX6 : String := "KitchenSiege$Reader"
def TX6 : u_T := fun k => match k with
  | 0 => ("KitchenSiege$Reader", "length", "I", false)
  | 1 => ("KitchenSiege$Reader", "items", "I", false)
  | 2 => ("KitchenSiege$Reader", "draft", "LKitchenSiege$Town;", true)
  | 3 => ("KitchenSiege$Reader", "text", "[I", true)
  | 4 => ("KitchenSiege$Reader", "fault", "I", false)
  | 5 => ("KitchenSiege$Reader", "place", "I", false)
  | 6 => ("KitchenSiege$Reader", "start", "I", false)
  | 7 => ("KitchenSiege$Reader", "token", "I", false)
  | _ => ("KitchenSiege$Reader", "value", "I", false)
def tyX6 : Nat → FieldType := fun k => match k with
  | 0 => .int
  | 1 => .int
  | 2 => .object "KitchenSiege$Town"
  | 3 => .array .int
  | 4 => .int
  | 5 => .int
  | 6 => .int
  | 7 => .int
  | _ => .int
abbrev wsX60 : List Cond := u_ws RX6 TX6 9
theorem nmX6 : ∀ a, a < 9 → ∀ b, b < 9 → a ≠ b → (TX6 a).2.1 ≠ (TX6 b).2.1 := by decide +kernel
theorem tyX6_ok : ∀ k, k < 9 → parseFieldDescriptor (TX6 k).2.2.1 = some (tyX6 k) := by decide +kernel
abbrev cX6_init : ByteArray := prog_8_method_1_code
def yX6_init : MethodName := ⟨RX6, "<init>", "()V"⟩
abbrev cX6_put : ByteArray := prog_8_method_2_code
def yX6_put : MethodName := ⟨RX6, "put", "(I)I"⟩
abbrev cX6_parse : ByteArray := prog_8_method_3_code
def yX6_parse : MethodName := ⟨RX6, "parse", "()I"⟩
abbrev cX6_item : ByteArray := prog_8_method_4_code
def yX6_item : MethodName := ⟨RX6, "item", "()V"⟩
abbrev cX6_mayStand : ByteArray := prog_8_method_5_code
def yX6_mayStand : MethodName := ⟨RX6, "mayStand", "(I)Z"⟩
abbrev cX6_streetItem : ByteArray := prog_8_method_6_code
def yX6_streetItem : MethodName := ⟨RX6, "streetItem", "()V"⟩
abbrev cX6_laneItem : ByteArray := prog_8_method_7_code
def yX6_laneItem : MethodName := ⟨RX6, "laneItem", "()V"⟩
abbrev cX6_gateItem : ByteArray := prog_8_method_8_code
def yX6_gateItem : MethodName := ⟨RX6, "gateItem", "()V"⟩
abbrev cX6_windItem : ByteArray := prog_8_method_9_code
def yX6_windItem : MethodName := ⟨RX6, "windItem", "()V"⟩
abbrev cX6_dishItem : ByteArray := prog_8_method_10_code
def yX6_dishItem : MethodName := ⟨RX6, "dishItem", "()V"⟩
abbrev cX6_number : ByteArray := prog_8_method_11_code
def yX6_number : MethodName := ⟨RX6, "number", "(II)I"⟩
abbrev cX6_endItem : ByteArray := prog_8_method_12_code
def yX6_endItem : MethodName := ⟨RX6, "endItem", "()Z"⟩
abbrev cX6_take : ByteArray := prog_8_method_13_code
def yX6_take : MethodName := ⟨RX6, "take", "()V"⟩
abbrev cX6_word : ByteArray := prog_8_method_14_code
def yX6_word : MethodName := ⟨RX6, "word", "()I"⟩
abbrev cX6_spells : ByteArray := prog_8_method_15_code
def yX6_spells : MethodName := ⟨RX6, "spells", "(Ljava/lang/String;)Z"⟩
abbrev cX6_isLetter : ByteArray := prog_8_method_16_code
def yX6_isLetter : MethodName := ⟨RX6, "isLetter", "(I)Z"⟩
abbrev cX6_isFigure : ByteArray := prog_8_method_17_code
def yX6_isFigure : MethodName := ⟨RX6, "isFigure", "(I)Z"⟩
def RX7 : String := "KitchenSiege$Town"
def TX7 : u_T := fun k => match k with
  | 0 => ("KitchenSiege$Town", "streets", "I", false)
  | 1 => ("KitchenSiege$Town", "kind", "[I", true)
  | 2 => ("KitchenSiege$Town", "wall", "[I", true)
  | 3 => ("KitchenSiege$Town", "craves", "[I", true)
  | 4 => ("KitchenSiege$Town", "beside", "[I", true)
  | 5 => ("KitchenSiege$Town", "gates", "[I", true)
  | 6 => ("KitchenSiege$Town", "winds", "[I", true)
  | 7 => ("KitchenSiege$Town", "dishes", "I", false)
  | 8 => ("KitchenSiege$Town", "smell", "[I", true)
  | 9 => ("KitchenSiege$Town", "strong", "[I", true)
  | 10 => ("KitchenSiege$Town", "butter", "[I", true)
  | 11 => ("KitchenSiege$Town", "notes", "LKitchenSiege$Notes;", true)
  | 12 => ("KitchenSiege$Town", "days", "LKitchenSiege$Days;", true)
  | 13 => ("KitchenSiege$Town", "past", "[LKitchenSiege$Days;", true)
  | _ => ("KitchenSiege$Town", "undoable", "I", false)
def tyX7 : Nat → FieldType := fun k => match k with
  | 0 => .int
  | 1 => .array .int
  | 2 => .array .int
  | 3 => .array .int
  | 4 => .array .int
  | 5 => .array .int
  | 6 => .array .int
  | 7 => .int
  | 8 => .array .int
  | 9 => .array .int
  | 10 => .array .int
  | 11 => .object "KitchenSiege$Notes"
  | 12 => .object "KitchenSiege$Days"
  | 13 => .array (.object "KitchenSiege$Days")
  | _ => .int
abbrev wsX70 : List Cond := u_ws RX7 TX7 15
theorem nmX7 : ∀ a, a < 15 → ∀ b, b < 15 → a ≠ b → (TX7 a).2.1 ≠ (TX7 b).2.1 := by decide +kernel
theorem tyX7_ok : ∀ k, k < 15 → parseFieldDescriptor (TX7 k).2.2.1 = some (tyX7 k) := by decide +kernel
abbrev cX7_init : ByteArray := prog_9_method_1_code
def yX7_init : MethodName := ⟨RX7, "<init>", "()V"⟩
abbrev cX7_begin : ByteArray := prog_9_method_2_code
def yX7_begin : MethodName := ⟨RX7, "begin", "()V"⟩
abbrev cX7_copy : ByteArray := prog_9_method_3_code
def yX7_copy : MethodName := ⟨RX7, "copy", "(LKitchenSiege$Town;)V"⟩
abbrev cX7_addStreet : ByteArray := prog_9_method_4_code
def yX7_addStreet : MethodName := ⟨RX7, "addStreet", "(III)I"⟩
abbrev cX7_hasLane : ByteArray := prog_9_method_5_code
def yX7_hasLane : MethodName := ⟨RX7, "hasLane", "(II)Z"⟩
abbrev cX7_addLane : ByteArray := prog_9_method_6_code
def yX7_addLane : MethodName := ⟨RX7, "addLane", "(II)V"⟩
abbrev cX7_addDish : ByteArray := prog_9_method_7_code
def yX7_addDish : MethodName := ⟨RX7, "addDish", "(III)I"⟩
abbrev cX7_windOn : ByteArray := prog_9_method_8_code
def yX7_windOn : MethodName := ⟨RX7, "windOn", "(I)I"⟩
abbrev cX7_gateOf : ByteArray := prog_9_method_9_code
def yX7_gateOf : MethodName := ⟨RX7, "gateOf", "(I)I"⟩
abbrev cX7_pull : ByteArray := prog_9_method_10_code
def yX7_pull : MethodName := ⟨RX7, "pull", "(IIIII)I"⟩
abbrev cX7_shutStreets : ByteArray := prog_9_method_11_code
def yX7_shutStreets : MethodName := ⟨RX7, "shutStreets", "()I"⟩
abbrev cX7_keepDays : ByteArray := prog_9_method_12_code
def yX7_keepDays : MethodName := ⟨RX7, "keepDays", "()V"⟩
abbrev cX7_goBack : ByteArray := prog_9_method_13_code
def yX7_goBack : MethodName := ⟨RX7, "goBack", "()Z"⟩
abbrev cX7_mixStreets : ByteArray := prog_9_method_14_code
def yX7_mixStreets : MethodName := ⟨RX7, "mixStreets", "(J)J"⟩
abbrev cX7_mixLanes : ByteArray := prog_9_method_15_code
def yX7_mixLanes : MethodName := ⟨RX7, "mixLanes", "(J)J"⟩
abbrev cX7_mixDishes : ByteArray := prog_9_method_16_code
def yX7_mixDishes : MethodName := ⟨RX7, "mixDishes", "(J)J"⟩
def RX8 : String := "KitchenSiege"
def TX8 : u_T := fun k => match k with
  | 0 => ("KitchenSiege", "now", "LKitchenSiege$Town;", true)
  | 1 => ("KitchenSiege", "cook", "LKitchenSiege$Cook;", true)
  | 2 => ("KitchenSiege", "reader", "LKitchenSiege$Reader;", true)
  | 3 => ("KitchenSiege", "fraction", "LKitchenSiege$Fraction;", true)
  | 4 => ("KitchenSiege", "images", "[LKitchenSiege$Town;", true)
  | 5 => ("KitchenSiege", "kept", "[Z", true)
  | 6 => ("KitchenSiege", "bads", "I", false)
  | 7 => ("KitchenSiege", "noes", "I", false)
  | _ => ("KitchenSiege", "fulls", "I", false)
def tyX8 : Nat → FieldType := fun k => match k with
  | 0 => .object "KitchenSiege$Town"
  | 1 => .object "KitchenSiege$Cook"
  | 2 => .object "KitchenSiege$Reader"
  | 3 => .object "KitchenSiege$Fraction"
  | 4 => .array (.object "KitchenSiege$Town")
  | 5 => .array .boolean
  | 6 => .int
  | 7 => .int
  | _ => .int
abbrev wsX80 : List Cond := u_ws RX8 TX8 9
theorem nmX8 : ∀ a, a < 9 → ∀ b, b < 9 → a ≠ b → (TX8 a).2.1 ≠ (TX8 b).2.1 := by decide +kernel
theorem tyX8_ok : ∀ k, k < 9 → parseFieldDescriptor (TX8 k).2.2.1 = some (tyX8 k) := by decide +kernel
abbrev cX8_init : ByteArray := prog_1_method_1_code
def yX8_init : MethodName := ⟨RX8, "<init>", "()V"⟩
abbrev cX8_town : ByteArray := prog_1_method_2_code
def yX8_town : MethodName := ⟨RX8, "town", "()I"⟩
abbrev cX8_street : ByteArray := prog_1_method_3_code
def yX8_street : MethodName := ⟨RX8, "street", "(III)I"⟩
abbrev cX8_lane : ByteArray := prog_1_method_4_code
def yX8_lane : MethodName := ⟨RX8, "lane", "(II)I"⟩
abbrev cX8_gate : ByteArray := prog_1_method_5_code
def yX8_gate : MethodName := ⟨RX8, "gate", "(II)I"⟩
abbrev cX8_wind : ByteArray := prog_1_method_6_code
def yX8_wind : MethodName := ⟨RX8, "wind", "(II)I"⟩
abbrev cX8_dish : ByteArray := prog_1_method_7_code
def yX8_dish : MethodName := ⟨RX8, "dish", "(III)I"⟩
abbrev cX8_type : ByteArray := prog_1_method_8_code
def yX8_type : MethodName := ⟨RX8, "type", "(I)I"⟩
abbrev cX8_clear : ByteArray := prog_1_method_9_code
def yX8_clear : MethodName := ⟨RX8, "clear", "()I"⟩
abbrev cX8_read : ByteArray := prog_1_method_10_code
def yX8_read : MethodName := ⟨RX8, "read", "()I"⟩
abbrev cX8_day : ByteArray := prog_1_method_11_code
def yX8_day : MethodName := ⟨RX8, "day", "(I)I"⟩
abbrev cX8_undo : ByteArray := prog_1_method_12_code
def yX8_undo : MethodName := ⟨RX8, "undo", "()I"⟩
abbrev cX8_of : ByteArray := prog_1_method_13_code
def yX8_of : MethodName := ⟨RX8, "of", "(II)I"⟩
abbrev cX8_smells : ByteArray := prog_1_method_14_code
def yX8_smells : MethodName := ⟨RX8, "smells", "(III)I"⟩
abbrev cX8_moved : ByteArray := prog_1_method_15_code
def yX8_moved : MethodName := ⟨RX8, "moved", "(II)I"⟩
abbrev cX8_falls : ByteArray := prog_1_method_16_code
def yX8_falls : MethodName := ⟨RX8, "falls", "(II)I"⟩
abbrev cX8_order : ByteArray := prog_1_method_17_code
def yX8_order : MethodName := ⟨RX8, "order", "(II)I"⟩
abbrev cX8_never : ByteArray := prog_1_method_18_code
def yX8_never : MethodName := ⟨RX8, "never", "()I"⟩
abbrev cX8_least : ByteArray := prog_1_method_19_code
def yX8_least : MethodName := ⟨RX8, "least", "()I"⟩
abbrev cX8_answer : ByteArray := prog_1_method_20_code
def yX8_answer : MethodName := ⟨RX8, "answer", "(III)I"⟩
abbrev cX8_game : ByteArray := prog_1_method_21_code
def yX8_game : MethodName := ⟨RX8, "game", "(I)I"⟩
abbrev cX8_note : ByteArray := prog_1_method_22_code
def yX8_note : MethodName := ⟨RX8, "note", "(IIIII)I"⟩
abbrev cX8_forget : ByteArray := prog_1_method_23_code
def yX8_forget : MethodName := ⟨RX8, "forget", "()I"⟩
abbrev cX8_craved : ByteArray := prog_1_method_24_code
def yX8_craved : MethodName := ⟨RX8, "craved", "(I)I"⟩
abbrev cX8_is : ByteArray := prog_1_method_25_code
def yX8_is : MethodName := ⟨RX8, "is", "(I)I"⟩
abbrev cX8_tryNext : ByteArray := prog_1_method_26_code
def yX8_tryNext : MethodName := ⟨RX8, "tryNext", "(III)I"⟩
abbrev cX8_rain : ByteArray := prog_1_method_27_code
def yX8_rain : MethodName := ⟨RX8, "rain", "(III)I"⟩
abbrev cX8_sieges : ByteArray := prog_1_method_28_code
def yX8_sieges : MethodName := ⟨RX8, "sieges", "(II)I"⟩
abbrev cX8_part : ByteArray := prog_1_method_29_code
def yX8_part : MethodName := ⟨RX8, "part", "(I)J"⟩
abbrev cX8_image : ByteArray := prog_1_method_30_code
def yX8_image : MethodName := ⟨RX8, "image", "(I)I"⟩
abbrev cX8_from : ByteArray := prog_1_method_31_code
def yX8_from : MethodName := ⟨RX8, "from", "(I)I"⟩
abbrev cX8_status : ByteArray := prog_1_method_32_code
def yX8_status : MethodName := ⟨RX8, "status", "(I)I"⟩
abbrev cX8_count : ByteArray := prog_1_method_33_code
def yX8_count : MethodName := ⟨RX8, "count", "(I)I"⟩
abbrev cX8_digest : ByteArray := prog_1_method_34_code
def yX8_digest : MethodName := ⟨RX8, "digest", "()J"⟩
abbrev cX8_bad : ByteArray := prog_1_method_35_code
def yX8_bad : MethodName := ⟨RX8, "bad", "()I"⟩
abbrev cX8_badTen : ByteArray := prog_1_method_36_code
def yX8_badTen : MethodName := ⟨RX8, "badTen", "()I"⟩
abbrev cX8_no : ByteArray := prog_1_method_37_code
def yX8_no : MethodName := ⟨RX8, "no", "()I"⟩
abbrev cX8_full : ByteArray := prog_1_method_38_code
def yX8_full : MethodName := ⟨RX8, "full", "()I"⟩
abbrev cX8_isStreet : ByteArray := prog_1_method_39_code
def yX8_isStreet : MethodName := ⟨RX8, "isStreet", "(I)Z"⟩
abbrev cX8_isDish : ByteArray := prog_1_method_40_code
def yX8_isDish : MethodName := ⟨RX8, "isDish", "(I)Z"⟩
abbrev cX8_isWind : ByteArray := prog_1_method_41_code
def yX8_isWind : MethodName := ⟨RX8, "isWind", "(I)Z"⟩
abbrev cX8_isImage : ByteArray := prog_1_method_42_code
def yX8_isImage : MethodName := ⟨RX8, "isImage", "(I)Z"⟩
abbrev cX8_isNoted : ByteArray := prog_1_method_43_code
def yX8_isNoted : MethodName := ⟨RX8, "isNoted", "(II)Z"⟩
abbrev cX8_within : ByteArray := prog_1_method_44_code
def yX8_within : MethodName := ⟨RX8, "within", "(III)Z"⟩
abbrev cX8_has : ByteArray := prog_1_method_45_code
def yX8_has : MethodName := ⟨RX8, "has", "(II)Z"⟩
abbrev cX8_mix : ByteArray := prog_1_method_46_code
def yX8_mix : MethodName := ⟨RX8, "mix", "(JJ)J"⟩
abbrev cX8_mixAll : ByteArray := prog_1_method_47_code
def yX8_mixAll : MethodName := ⟨RX8, "mixAll", "(J[I)J"⟩
def RX9 : String := "KitchenSiegeModel"
def TX9 : u_T := fun k => match k with
  | 0 => ("KitchenSiegeModel", "a", "[I", true)
  | 1 => ("KitchenSiegeModel", "read", "[I", true)
  | 2 => ("KitchenSiegeModel", "images", "[I", true)
  | 3 => ("KitchenSiegeModel", "hasImage", "[I", true)
  | 4 => ("KitchenSiegeModel", "text", "[I", true)
  | 5 => ("KitchenSiegeModel", "length", "I", false)
  | 6 => ("KitchenSiegeModel", "above", "J", false)
  | 7 => ("KitchenSiegeModel", "below", "J", false)
  | 8 => ("KitchenSiegeModel", "bads", "I", false)
  | 9 => ("KitchenSiegeModel", "nos", "I", false)
  | 10 => ("KitchenSiegeModel", "fulls", "I", false)
  | 11 => ("KitchenSiegeModel", "spot", "I", false)
  | 12 => ("KitchenSiegeModel", "fault", "I", false)
  | 13 => ("KitchenSiegeModel", "told", "[I", true)
  | 14 => ("KitchenSiegeModel", "strong", "[I", true)
  | 15 => ("KitchenSiegeModel", "saved", "[I", true)
  | 16 => ("KitchenSiegeModel", "best", "[I", true)
  | 17 => ("KitchenSiegeModel", "opens", "[I", true)
  | 18 => ("KitchenSiegeModel", "table", "[I", true)
  | _ => ("KitchenSiegeModel", "chance", "[J", true)
def tyX9 : Nat → FieldType := fun k => match k with
  | 0 => .array .int
  | 1 => .array .int
  | 2 => .array .int
  | 3 => .array .int
  | 4 => .array .int
  | 5 => .int
  | 6 => .long
  | 7 => .long
  | 8 => .int
  | 9 => .int
  | 10 => .int
  | 11 => .int
  | 12 => .int
  | 13 => .array .int
  | 14 => .array .int
  | 15 => .array .int
  | 16 => .array .int
  | 17 => .array .int
  | 18 => .array .int
  | _ => .array .long
abbrev wsX90 : List Cond := u_ws RX9 TX9 20
theorem nmX9 : ∀ a, a < 20 → ∀ b, b < 20 → a ≠ b → (TX9 a).2.1 ≠ (TX9 b).2.1 := by decide +kernel
theorem tyX9_ok : ∀ k, k < 20 → parseFieldDescriptor (TX9 k).2.2.1 = some (tyX9 k) := by decide +kernel
abbrev cX9_init : ByteArray := prog_11_method_1_code
def yX9_init : MethodName := ⟨RX9, "<init>", "()V"⟩
abbrev cX9_in : ByteArray := prog_11_method_2_code
def yX9_in : MethodName := ⟨RX9, "in", "(JJJ)Z"⟩
abbrev cX9_has : ByteArray := prog_11_method_3_code
def yX9_has : MethodName := ⟨RX9, "has", "(II)Z"⟩
abbrev cX9_bits : ByteArray := prog_11_method_4_code
def yX9_bits : MethodName := ⟨RX9, "bits", "(I)I"⟩
abbrev cX9_bad : ByteArray := prog_11_method_5_code
def yX9_bad : MethodName := ⟨RX9, "bad", "()I"⟩
abbrev cX9_bad10 : ByteArray := prog_11_method_6_code
def yX9_bad10 : MethodName := ⟨RX9, "bad10", "()I"⟩
abbrev cX9_no : ByteArray := prog_11_method_7_code
def yX9_no : MethodName := ⟨RX9, "no", "()I"⟩
abbrev cX9_full : ByteArray := prog_11_method_8_code
def yX9_full : MethodName := ⟨RX9, "full", "()I"⟩
abbrev cX9_first : ByteArray := prog_11_method_9_code
def yX9_first : MethodName := ⟨RX9, "first", "([I)V"⟩
abbrev cX9_addStreet : ByteArray := prog_11_method_10_code
def yX9_addStreet : MethodName := ⟨RX9, "addStreet", "([IIII)V"⟩
abbrev cX9_addDish : ByteArray := prog_11_method_11_code
def yX9_addDish : MethodName := ⟨RX9, "addDish", "([IIII)V"⟩
abbrev cX9_addLane : ByteArray := prog_11_method_12_code
def yX9_addLane : MethodName := ⟨RX9, "addLane", "([III)V"⟩
abbrev cX9_town : ByteArray := prog_11_method_13_code
def yX9_town : MethodName := ⟨RX9, "town", "()I"⟩
abbrev cX9_street : ByteArray := prog_11_method_14_code
def yX9_street : MethodName := ⟨RX9, "street", "(III)I"⟩
abbrev cX9_isStreet : ByteArray := prog_11_method_15_code
def yX9_isStreet : MethodName := ⟨RX9, "isStreet", "(I)Z"⟩
abbrev cX9_isDish : ByteArray := prog_11_method_16_code
def yX9_isDish : MethodName := ⟨RX9, "isDish", "(I)Z"⟩
abbrev cX9_lane : ByteArray := prog_11_method_17_code
def yX9_lane : MethodName := ⟨RX9, "lane", "(II)I"⟩
abbrev cX9_gate : ByteArray := prog_11_method_18_code
def yX9_gate : MethodName := ⟨RX9, "gate", "(II)I"⟩
abbrev cX9_wind : ByteArray := prog_11_method_19_code
def yX9_wind : MethodName := ⟨RX9, "wind", "(II)I"⟩
abbrev cX9_dish : ByteArray := prog_11_method_20_code
def yX9_dish : MethodName := ⟨RX9, "dish", "(III)I"⟩
abbrev cX9_type : ByteArray := prog_11_method_21_code
def yX9_type : MethodName := ⟨RX9, "type", "(I)I"⟩
abbrev cX9_clear : ByteArray := prog_11_method_22_code
def yX9_clear : MethodName := ⟨RX9, "clear", "()I"⟩
abbrev cX9_byteAt : ByteArray := prog_11_method_23_code
def yX9_byteAt : MethodName := ⟨RX9, "byteAt", "(I)I"⟩
abbrev cX9_skip : ByteArray := prog_11_method_24_code
def yX9_skip : MethodName := ⟨RX9, "skip", "()V"⟩
abbrev cX9_fails : ByteArray := prog_11_method_25_code
def yX9_fails : MethodName := ⟨RX9, "fails", "(I)Z"⟩
abbrev cX9_number : ByteArray := prog_11_method_26_code
def yX9_number : MethodName := ⟨RX9, "number", "(III)Z"⟩
abbrev cX9_ends : ByteArray := prog_11_method_27_code
def yX9_ends : MethodName := ⟨RX9, "ends", "()Z"⟩
abbrev cX9_letterOf : ByteArray := prog_11_method_28_code
def yX9_letterOf : MethodName := ⟨RX9, "letterOf", "(II)I"⟩
abbrev cX9_word : ByteArray := prog_11_method_29_code
def yX9_word : MethodName := ⟨RX9, "word", "()I"⟩
abbrev cX9_laneItem : ByteArray := prog_11_method_30_code
def yX9_laneItem : MethodName := ⟨RX9, "laneItem", "()Z"⟩
abbrev cX9_item : ByteArray := prog_11_method_31_code
def yX9_item : MethodName := ⟨RX9, "item", "(I)Z"⟩
abbrev cX9_read : ByteArray := prog_11_method_32_code
def yX9_read : MethodName := ⟨RX9, "read", "()I"⟩
abbrev cX9_spread : ByteArray := prog_11_method_33_code
def yX9_spread : MethodName := ⟨RX9, "spread", "(IIII)V"⟩
abbrev cX9_windOf : ByteArray := prog_11_method_34_code
def yX9_windOf : MethodName := ⟨RX9, "windOf", "(I)I"⟩
abbrev cX9_movedBy : ByteArray := prog_11_method_35_code
def yX9_movedBy : MethodName := ⟨RX9, "movedBy", "(IIIIII)I"⟩
abbrev cX9_movedIn : ByteArray := prog_11_method_36_code
def yX9_movedIn : MethodName := ⟨RX9, "movedIn", "(IIII)I"⟩
abbrev cX9_opening : ByteArray := prog_11_method_37_code
def yX9_opening : MethodName := ⟨RX9, "opening", "(III)I"⟩
abbrev cX9_goDay : ByteArray := prog_11_method_38_code
def yX9_goDay : MethodName := ⟨RX9, "goDay", "(I)I"⟩
abbrev cX9_past : ByteArray := prog_11_method_39_code
def yX9_past : MethodName := ⟨RX9, "past", "([I[IIZ)V"⟩
abbrev cX9_day : ByteArray := prog_11_method_40_code
def yX9_day : MethodName := ⟨RX9, "day", "(I)I"⟩
abbrev cX9_undo : ByteArray := prog_11_method_41_code
def yX9_undo : MethodName := ⟨RX9, "undo", "()I"⟩
abbrev cX9_of : ByteArray := prog_11_method_42_code
def yX9_of : MethodName := ⟨RX9, "of", "(II)I"⟩
abbrev cX9_smells : ByteArray := prog_11_method_43_code
def yX9_smells : MethodName := ⟨RX9, "smells", "(III)I"⟩
abbrev cX9_moved : ByteArray := prog_11_method_44_code
def yX9_moved : MethodName := ⟨RX9, "moved", "(II)I"⟩
abbrev cX9_falls : ByteArray := prog_11_method_45_code
def yX9_falls : MethodName := ⟨RX9, "falls", "(II)I"⟩
abbrev cX9_dishIn : ByteArray := prog_11_method_46_code
def yX9_dishIn : MethodName := ⟨RX9, "dishIn", "(III)I"⟩
abbrev cX9_butterOf : ByteArray := prog_11_method_47_code
def yX9_butterOf : MethodName := ⟨RX9, "butterOf", "(III)I"⟩
abbrev cX9_order : ByteArray := prog_11_method_48_code
def yX9_order : MethodName := ⟨RX9, "order", "(II)I"⟩
abbrev cX9_opensOn : ByteArray := prog_11_method_49_code
def yX9_opensOn : MethodName := ⟨RX9, "opensOn", "(III)Z"⟩
abbrev cX9_opensIn : ByteArray := prog_11_method_50_code
def yX9_opensIn : MethodName := ⟨RX9, "opensIn", "(III)Z"⟩
abbrev cX9_never : ByteArray := prog_11_method_51_code
def yX9_never : MethodName := ⟨RX9, "never", "()I"⟩
abbrev cX9_least : ByteArray := prog_11_method_52_code
def yX9_least : MethodName := ⟨RX9, "least", "()I"⟩
abbrev cX9_answer : ByteArray := prog_11_method_53_code
def yX9_answer : MethodName := ⟨RX9, "answer", "(III)I"⟩
abbrev cX9_game : ByteArray := prog_11_method_54_code
def yX9_game : MethodName := ⟨RX9, "game", "(I)I"⟩
abbrev cX9_note : ByteArray := prog_11_method_55_code
def yX9_note : MethodName := ⟨RX9, "note", "(IIIII)I"⟩
abbrev cX9_forget : ByteArray := prog_11_method_56_code
def yX9_forget : MethodName := ⟨RX9, "forget", "()I"⟩
abbrev cX9_cravings : ByteArray := prog_11_method_57_code
def yX9_cravings : MethodName := ⟨RX9, "cravings", "(II)I"⟩
abbrev cX9_craved : ByteArray := prog_11_method_58_code
def yX9_craved : MethodName := ⟨RX9, "craved", "(I)I"⟩
abbrev cX9_is : ByteArray := prog_11_method_59_code
def yX9_is : MethodName := ⟨RX9, "is", "(I)I"⟩
abbrev cX9_tryNext : ByteArray := prog_11_method_60_code
def yX9_tryNext : MethodName := ⟨RX9, "tryNext", "(III)I"⟩
abbrev cX9_rain : ByteArray := prog_11_method_61_code
def yX9_rain : MethodName := ⟨RX9, "rain", "(III)I"⟩
abbrev cX9_openMany : ByteArray := prog_11_method_62_code
def yX9_openMany : MethodName := ⟨RX9, "openMany", "()I"⟩
abbrev cX9_sieges : ByteArray := prog_11_method_63_code
def yX9_sieges : MethodName := ⟨RX9, "sieges", "(II)I"⟩
abbrev cX9_part : ByteArray := prog_11_method_64_code
def yX9_part : MethodName := ⟨RX9, "part", "(I)J"⟩
abbrev cX9_image : ByteArray := prog_11_method_65_code
def yX9_image : MethodName := ⟨RX9, "image", "(I)I"⟩
abbrev cX9_from : ByteArray := prog_11_method_66_code
def yX9_from : MethodName := ⟨RX9, "from", "(I)I"⟩
abbrev cX9_status : ByteArray := prog_11_method_67_code
def yX9_status : MethodName := ⟨RX9, "status", "(I)I"⟩
abbrev cX9_countOf : ByteArray := prog_11_method_68_code
def yX9_countOf : MethodName := ⟨RX9, "countOf", "(I)I"⟩
abbrev cX9_count : ByteArray := prog_11_method_69_code
def yX9_count : MethodName := ⟨RX9, "count", "(I)I"⟩
abbrev cX9_digest : ByteArray := prog_11_method_70_code
def yX9_digest : MethodName := ⟨RX9, "digest", "()J"⟩
def RL : String := "KitchenSiegeLaw"
abbrev cL_law : ByteArray := code
def yL_law : MethodName := ⟨RL, "law", "([I)Z"⟩
abbrev vwCl : List vw_C := [(RX0, TX0, 2), (RX1, TX1, 9), (RX2, TX2, 4), (RX3, TX3, 2), (RX5, TX5, 6), (RX6, TX6, 9), (RX7, TX7, 15), (RX8, TX8, 9), (RX9, TX9, 20)]
