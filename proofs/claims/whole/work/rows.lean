section
-- ===== PART A: goes FIRST, ahead of the names: the tables' words, and 'selects' of the private methods out of them =====
/-- a private method of a class that the tables say can be made, by its rows of tables_1 -/
def lw_okq (q : MethodName × Nat) : Prop := (q.1.cls ≠ "java/lang/invoke/MethodHandle" ∧ q.1.cls ≠ "java/lang/invoke/VarHandle") ∧ Cond.instantiable q.1.cls q.2 ∈ tables_1 ∧ Cond.privateMethod q.1 ∈ tables_1 ∧ Cond.instanceMethod q.1 ∈ tables_1
theorem lw_p0 : lw_okq (⟨"KitchenSiege", "bad", "()I"⟩, 9) := ⟨⟨by decide +kernel, by decide +kernel⟩, List.mem_of_getElem? (i := 19) (by decide +kernel), List.mem_of_getElem? (i := 318) (by decide +kernel), List.mem_of_getElem? (i := 319) (by decide +kernel)⟩
theorem lw_p1 : lw_okq (⟨"KitchenSiege", "full", "()I"⟩, 9) := ⟨⟨by decide +kernel, by decide +kernel⟩, List.mem_of_getElem? (i := 19) (by decide +kernel), List.mem_of_getElem? (i := 322) (by decide +kernel), List.mem_of_getElem? (i := 323) (by decide +kernel)⟩
theorem lw_p2 : lw_okq (⟨"KitchenSiege", "isStreet", "(I)Z"⟩, 9) := ⟨⟨by decide +kernel, by decide +kernel⟩, List.mem_of_getElem? (i := 19) (by decide +kernel), List.mem_of_getElem? (i := 334) (by decide +kernel), List.mem_of_getElem? (i := 335) (by decide +kernel)⟩
theorem lw_p3 : lw_okq (⟨"KitchenSiege", "no", "()I"⟩, 9) := ⟨⟨by decide +kernel, by decide +kernel⟩, List.mem_of_getElem? (i := 19) (by decide +kernel), List.mem_of_getElem? (i := 345) (by decide +kernel), List.mem_of_getElem? (i := 346) (by decide +kernel)⟩
theorem lw_p4 : lw_okq (⟨"KitchenSiege$Reader", "take", "()V"⟩, 9) := ⟨⟨by decide +kernel, by decide +kernel⟩, List.mem_of_getElem? (i := 222) (by decide +kernel), List.mem_of_getElem? (i := 393) (by decide +kernel), List.mem_of_getElem? (i := 394) (by decide +kernel)⟩
theorem lw_p5 : lw_okq (⟨"KitchenSiege$Reader", "item", "()V"⟩, 9) := ⟨⟨by decide +kernel, by decide +kernel⟩, List.mem_of_getElem? (i := 222) (by decide +kernel), List.mem_of_getElem? (i := 403) (by decide +kernel), List.mem_of_getElem? (i := 404) (by decide +kernel)⟩
theorem lw_p6 : lw_okq (⟨"KitchenSiege$Reader", "word", "()I"⟩, 9) := ⟨⟨by decide +kernel, by decide +kernel⟩, List.mem_of_getElem? (i := 222) (by decide +kernel), List.mem_of_getElem? (i := 407) (by decide +kernel), List.mem_of_getElem? (i := 408) (by decide +kernel)⟩
theorem lw_p7 : lw_okq (⟨"KitchenSiege$Reader", "spells", "(Ljava/lang/String;)Z"⟩, 9) := ⟨⟨by decide +kernel, by decide +kernel⟩, List.mem_of_getElem? (i := 222) (by decide +kernel), List.mem_of_getElem? (i := 412) (by decide +kernel), List.mem_of_getElem? (i := 413) (by decide +kernel)⟩
theorem lw_p8 : lw_okq (⟨"KitchenSiege$Reader", "mayStand", "(I)Z"⟩, 9) := ⟨⟨by decide +kernel, by decide +kernel⟩, List.mem_of_getElem? (i := 222) (by decide +kernel), List.mem_of_getElem? (i := 469) (by decide +kernel), List.mem_of_getElem? (i := 470) (by decide +kernel)⟩
theorem lw_p9 : lw_okq (⟨"KitchenSiege$Reader", "streetItem", "()V"⟩, 9) := ⟨⟨by decide +kernel, by decide +kernel⟩, List.mem_of_getElem? (i := 222) (by decide +kernel), List.mem_of_getElem? (i := 473) (by decide +kernel), List.mem_of_getElem? (i := 474) (by decide +kernel)⟩
theorem lw_p10 : lw_okq (⟨"KitchenSiege$Reader", "number", "(II)I"⟩, 9) := ⟨⟨by decide +kernel, by decide +kernel⟩, List.mem_of_getElem? (i := 222) (by decide +kernel), List.mem_of_getElem? (i := 477) (by decide +kernel), List.mem_of_getElem? (i := 478) (by decide +kernel)⟩
theorem lw_p11 : lw_okq (⟨"KitchenSiege$Reader", "endItem", "()Z"⟩, 9) := ⟨⟨by decide +kernel, by decide +kernel⟩, List.mem_of_getElem? (i := 222) (by decide +kernel), List.mem_of_getElem? (i := 482) (by decide +kernel), List.mem_of_getElem? (i := 483) (by decide +kernel)⟩
theorem lw_p12 : lw_okq (⟨"KitchenSiege$Reader", "laneItem", "()V"⟩, 9) := ⟨⟨by decide +kernel, by decide +kernel⟩, List.mem_of_getElem? (i := 222) (by decide +kernel), List.mem_of_getElem? (i := 487) (by decide +kernel), List.mem_of_getElem? (i := 488) (by decide +kernel)⟩
theorem lw_p13 : lw_okq (⟨"KitchenSiege$Reader", "gateItem", "()V"⟩, 9) := ⟨⟨by decide +kernel, by decide +kernel⟩, List.mem_of_getElem? (i := 222) (by decide +kernel), List.mem_of_getElem? (i := 492) (by decide +kernel), List.mem_of_getElem? (i := 493) (by decide +kernel)⟩
theorem lw_p14 : lw_okq (⟨"KitchenSiege$Reader", "windItem", "()V"⟩, 9) := ⟨⟨by decide +kernel, by decide +kernel⟩, List.mem_of_getElem? (i := 222) (by decide +kernel), List.mem_of_getElem? (i := 496) (by decide +kernel), List.mem_of_getElem? (i := 497) (by decide +kernel)⟩
theorem lw_p15 : lw_okq (⟨"KitchenSiege$Reader", "dishItem", "()V"⟩, 9) := ⟨⟨by decide +kernel, by decide +kernel⟩, List.mem_of_getElem? (i := 222) (by decide +kernel), List.mem_of_getElem? (i := 500) (by decide +kernel), List.mem_of_getElem? (i := 501) (by decide +kernel)⟩
def lw_privs_1 : List (MethodName × Nat) := [(⟨"KitchenSiege", "bad", "()I"⟩, 9), (⟨"KitchenSiege", "full", "()I"⟩, 9), (⟨"KitchenSiege", "isStreet", "(I)Z"⟩, 9), (⟨"KitchenSiege", "no", "()I"⟩, 9), (⟨"KitchenSiege$Reader", "take", "()V"⟩, 9), (⟨"KitchenSiege$Reader", "item", "()V"⟩, 9), (⟨"KitchenSiege$Reader", "word", "()I"⟩, 9), (⟨"KitchenSiege$Reader", "spells", "(Ljava/lang/String;)Z"⟩, 9), (⟨"KitchenSiege$Reader", "mayStand", "(I)Z"⟩, 9), (⟨"KitchenSiege$Reader", "streetItem", "()V"⟩, 9), (⟨"KitchenSiege$Reader", "number", "(II)I"⟩, 9), (⟨"KitchenSiege$Reader", "endItem", "()Z"⟩, 9), (⟨"KitchenSiege$Reader", "laneItem", "()V"⟩, 9), (⟨"KitchenSiege$Reader", "gateItem", "()V"⟩, 9), (⟨"KitchenSiege$Reader", "windItem", "()V"⟩, 9), (⟨"KitchenSiege$Reader", "dishItem", "()V"⟩, 9)]
theorem lw_r1 : ∀ q ∈ lw_privs_1, lw_okq q := List.forall_mem_cons.mpr ⟨lw_p0, List.forall_mem_cons.mpr ⟨lw_p1, List.forall_mem_cons.mpr ⟨lw_p2, List.forall_mem_cons.mpr ⟨lw_p3, List.forall_mem_cons.mpr ⟨lw_p4, List.forall_mem_cons.mpr ⟨lw_p5, List.forall_mem_cons.mpr ⟨lw_p6, List.forall_mem_cons.mpr ⟨lw_p7, List.forall_mem_cons.mpr ⟨lw_p8, List.forall_mem_cons.mpr ⟨lw_p9, List.forall_mem_cons.mpr ⟨lw_p10, List.forall_mem_cons.mpr ⟨lw_p11, List.forall_mem_cons.mpr ⟨lw_p12, List.forall_mem_cons.mpr ⟨lw_p13, List.forall_mem_cons.mpr ⟨lw_p14, List.forall_mem_cons.mpr ⟨lw_p15, fun _ h => absurd h List.not_mem_nil⟩⟩⟩⟩⟩⟩⟩⟩⟩⟩⟩⟩⟩⟩⟩⟩
theorem lw_p16 : lw_okq (⟨"KitchenSiege", "isDish", "(I)Z"⟩, 9) := ⟨⟨by decide +kernel, by decide +kernel⟩, List.mem_of_getElem? (i := 19) (by decide +kernel), List.mem_of_getElem? (i := 527) (by decide +kernel), List.mem_of_getElem? (i := 528) (by decide +kernel)⟩
theorem lw_p17 : lw_okq (⟨"KitchenSiege$Air", "spread", "(LKitchenSiege$Town;)Z"⟩, 2) := ⟨⟨by decide +kernel, by decide +kernel⟩, List.mem_of_getElem? (i := 176) (by decide +kernel), List.mem_of_getElem? (i := 563) (by decide +kernel), List.mem_of_getElem? (i := 564) (by decide +kernel)⟩
theorem lw_p18 : lw_okq (⟨"KitchenSiege$Cook", "openingBits", "(LKitchenSiege$Days;I)I"⟩, 9) := ⟨⟨by decide +kernel, by decide +kernel⟩, List.mem_of_getElem? (i := 170) (by decide +kernel), List.mem_of_getElem? (i := 568) (by decide +kernel), List.mem_of_getElem? (i := 569) (by decide +kernel)⟩
theorem lw_p19 : lw_okq (⟨"KitchenSiege$Cook", "pullFromAir", "(LKitchenSiege$Days;II)I"⟩, 9) := ⟨⟨by decide +kernel, by decide +kernel⟩, List.mem_of_getElem? (i := 170) (by decide +kernel), List.mem_of_getElem? (i := 576) (by decide +kernel), List.mem_of_getElem? (i := 577) (by decide +kernel)⟩
theorem lw_p20 : lw_okq (⟨"KitchenSiege", "badTen", "()I"⟩, 9) := ⟨⟨by decide +kernel, by decide +kernel⟩, List.mem_of_getElem? (i := 19) (by decide +kernel), List.mem_of_getElem? (i := 609) (by decide +kernel), List.mem_of_getElem? (i := 610) (by decide +kernel)⟩
theorem lw_p21 : lw_okq (⟨"KitchenSiege$Cook", "measure", "(II)V"⟩, 9) := ⟨⟨by decide +kernel, by decide +kernel⟩, List.mem_of_getElem? (i := 170) (by decide +kernel), List.mem_of_getElem? (i := 637) (by decide +kernel), List.mem_of_getElem? (i := 638) (by decide +kernel)⟩
theorem lw_p22 : lw_okq (⟨"KitchenSiege$Cook", "findRowOf", "(III)Z"⟩, 9) := ⟨⟨by decide +kernel, by decide +kernel⟩, List.mem_of_getElem? (i := 170) (by decide +kernel), List.mem_of_getElem? (i := 649) (by decide +kernel), List.mem_of_getElem? (i := 650) (by decide +kernel)⟩
theorem lw_p23 : lw_okq (⟨"KitchenSiege$Cook", "lay", "(II)Z"⟩, 9) := ⟨⟨by decide +kernel, by decide +kernel⟩, List.mem_of_getElem? (i := 170) (by decide +kernel), List.mem_of_getElem? (i := 653) (by decide +kernel), List.mem_of_getElem? (i := 654) (by decide +kernel)⟩
theorem lw_p24 : lw_okq (⟨"KitchenSiege$Cook", "opensLast", "(II)Z"⟩, 9) := ⟨⟨by decide +kernel, by decide +kernel⟩, List.mem_of_getElem? (i := 170) (by decide +kernel), List.mem_of_getElem? (i := 657) (by decide +kernel), List.mem_of_getElem? (i := 658) (by decide +kernel)⟩
theorem lw_p25 : lw_okq (⟨"KitchenSiege$Cook", "openedAlone", "(II)I"⟩, 9) := ⟨⟨by decide +kernel, by decide +kernel⟩, List.mem_of_getElem? (i := 170) (by decide +kernel), List.mem_of_getElem? (i := 675) (by decide +kernel), List.mem_of_getElem? (i := 676) (by decide +kernel)⟩
theorem lw_p26 : lw_okq (⟨"KitchenSiege$Cook", "openedAloneOn", "(II)I"⟩, 9) := ⟨⟨by decide +kernel, by decide +kernel⟩, List.mem_of_getElem? (i := 170) (by decide +kernel), List.mem_of_getElem? (i := 679) (by decide +kernel), List.mem_of_getElem? (i := 680) (by decide +kernel)⟩
theorem lw_p27 : lw_okq (⟨"KitchenSiege$Cook", "openedBy", "(I)I"⟩, 9) := ⟨⟨by decide +kernel, by decide +kernel⟩, List.mem_of_getElem? (i := 170) (by decide +kernel), List.mem_of_getElem? (i := 691) (by decide +kernel), List.mem_of_getElem? (i := 692) (by decide +kernel)⟩
theorem lw_p28 : lw_okq (⟨"KitchenSiege$Cook", "butterOf", "(I)I"⟩, 9) := ⟨⟨by decide +kernel, by decide +kernel⟩, List.mem_of_getElem? (i := 170) (by decide +kernel), List.mem_of_getElem? (i := 695) (by decide +kernel), List.mem_of_getElem? (i := 696) (by decide +kernel)⟩
theorem lw_p29 : lw_okq (⟨"KitchenSiege$Cook", "rests", "(II)Z"⟩, 9) := ⟨⟨by decide +kernel, by decide +kernel⟩, List.mem_of_getElem? (i := 170) (by decide +kernel), List.mem_of_getElem? (i := 730) (by decide +kernel), List.mem_of_getElem? (i := 731) (by decide +kernel)⟩
theorem lw_p30 : lw_okq (⟨"KitchenSiege$Notes", "allSo", "(III)Z"⟩, 6) := ⟨⟨by decide +kernel, by decide +kernel⟩, List.mem_of_getElem? (i := 33) (by decide +kernel), List.mem_of_getElem? (i := 757) (by decide +kernel), List.mem_of_getElem? (i := 758) (by decide +kernel)⟩
theorem lw_p31 : lw_okq (⟨"KitchenSiegeModel", "bad", "()I"⟩, 20) := ⟨⟨by decide +kernel, by decide +kernel⟩, List.mem_of_getElem? (i := 878) (by decide +kernel), List.mem_of_getElem? (i := 962) (by decide +kernel), List.mem_of_getElem? (i := 963) (by decide +kernel)⟩
def lw_privs_2 : List (MethodName × Nat) := [(⟨"KitchenSiege", "isDish", "(I)Z"⟩, 9), (⟨"KitchenSiege$Air", "spread", "(LKitchenSiege$Town;)Z"⟩, 2), (⟨"KitchenSiege$Cook", "openingBits", "(LKitchenSiege$Days;I)I"⟩, 9), (⟨"KitchenSiege$Cook", "pullFromAir", "(LKitchenSiege$Days;II)I"⟩, 9), (⟨"KitchenSiege", "badTen", "()I"⟩, 9), (⟨"KitchenSiege$Cook", "measure", "(II)V"⟩, 9), (⟨"KitchenSiege$Cook", "findRowOf", "(III)Z"⟩, 9), (⟨"KitchenSiege$Cook", "lay", "(II)Z"⟩, 9), (⟨"KitchenSiege$Cook", "opensLast", "(II)Z"⟩, 9), (⟨"KitchenSiege$Cook", "openedAlone", "(II)I"⟩, 9), (⟨"KitchenSiege$Cook", "openedAloneOn", "(II)I"⟩, 9), (⟨"KitchenSiege$Cook", "openedBy", "(I)I"⟩, 9), (⟨"KitchenSiege$Cook", "butterOf", "(I)I"⟩, 9), (⟨"KitchenSiege$Cook", "rests", "(II)Z"⟩, 9), (⟨"KitchenSiege$Notes", "allSo", "(III)Z"⟩, 6), (⟨"KitchenSiegeModel", "bad", "()I"⟩, 20)]
theorem lw_r2 : ∀ q ∈ lw_privs_2, lw_okq q := List.forall_mem_cons.mpr ⟨lw_p16, List.forall_mem_cons.mpr ⟨lw_p17, List.forall_mem_cons.mpr ⟨lw_p18, List.forall_mem_cons.mpr ⟨lw_p19, List.forall_mem_cons.mpr ⟨lw_p20, List.forall_mem_cons.mpr ⟨lw_p21, List.forall_mem_cons.mpr ⟨lw_p22, List.forall_mem_cons.mpr ⟨lw_p23, List.forall_mem_cons.mpr ⟨lw_p24, List.forall_mem_cons.mpr ⟨lw_p25, List.forall_mem_cons.mpr ⟨lw_p26, List.forall_mem_cons.mpr ⟨lw_p27, List.forall_mem_cons.mpr ⟨lw_p28, List.forall_mem_cons.mpr ⟨lw_p29, List.forall_mem_cons.mpr ⟨lw_p30, List.forall_mem_cons.mpr ⟨lw_p31, fun _ h => absurd h List.not_mem_nil⟩⟩⟩⟩⟩⟩⟩⟩⟩⟩⟩⟩⟩⟩⟩⟩
theorem lw_p32 : lw_okq (⟨"KitchenSiegeModel", "full", "()I"⟩, 20) := ⟨⟨by decide +kernel, by decide +kernel⟩, List.mem_of_getElem? (i := 878) (by decide +kernel), List.mem_of_getElem? (i := 966) (by decide +kernel), List.mem_of_getElem? (i := 967) (by decide +kernel)⟩
theorem lw_p33 : lw_okq (⟨"KitchenSiegeModel", "isStreet", "(I)Z"⟩, 20) := ⟨⟨by decide +kernel, by decide +kernel⟩, List.mem_of_getElem? (i := 878) (by decide +kernel), List.mem_of_getElem? (i := 977) (by decide +kernel), List.mem_of_getElem? (i := 978) (by decide +kernel)⟩
theorem lw_p34 : lw_okq (⟨"KitchenSiegeModel", "no", "()I"⟩, 20) := ⟨⟨by decide +kernel, by decide +kernel⟩, List.mem_of_getElem? (i := 878) (by decide +kernel), List.mem_of_getElem? (i := 981) (by decide +kernel), List.mem_of_getElem? (i := 982) (by decide +kernel)⟩
theorem lw_p35 : lw_okq (⟨"KitchenSiegeModel", "word", "()I"⟩, 20) := ⟨⟨by decide +kernel, by decide +kernel⟩, List.mem_of_getElem? (i := 878) (by decide +kernel), List.mem_of_getElem? (i := 1018) (by decide +kernel), List.mem_of_getElem? (i := 1019) (by decide +kernel)⟩
theorem lw_p36 : lw_okq (⟨"KitchenSiegeModel", "skip", "()V"⟩, 20) := ⟨⟨by decide +kernel, by decide +kernel⟩, List.mem_of_getElem? (i := 878) (by decide +kernel), List.mem_of_getElem? (i := 1022) (by decide +kernel), List.mem_of_getElem? (i := 1023) (by decide +kernel)⟩
theorem lw_p37 : lw_okq (⟨"KitchenSiegeModel", "byteAt", "(I)I"⟩, 20) := ⟨⟨by decide +kernel, by decide +kernel⟩, List.mem_of_getElem? (i := 878) (by decide +kernel), List.mem_of_getElem? (i := 1026) (by decide +kernel), List.mem_of_getElem? (i := 1027) (by decide +kernel)⟩
theorem lw_p38 : lw_okq (⟨"KitchenSiegeModel", "fails", "(I)Z"⟩, 20) := ⟨⟨by decide +kernel, by decide +kernel⟩, List.mem_of_getElem? (i := 878) (by decide +kernel), List.mem_of_getElem? (i := 1042) (by decide +kernel), List.mem_of_getElem? (i := 1043) (by decide +kernel)⟩
theorem lw_p39 : lw_okq (⟨"KitchenSiegeModel", "item", "(I)Z"⟩, 20) := ⟨⟨by decide +kernel, by decide +kernel⟩, List.mem_of_getElem? (i := 878) (by decide +kernel), List.mem_of_getElem? (i := 1046) (by decide +kernel), List.mem_of_getElem? (i := 1047) (by decide +kernel)⟩
theorem lw_p40 : lw_okq (⟨"KitchenSiegeModel", "ends", "()Z"⟩, 20) := ⟨⟨by decide +kernel, by decide +kernel⟩, List.mem_of_getElem? (i := 878) (by decide +kernel), List.mem_of_getElem? (i := 1050) (by decide +kernel), List.mem_of_getElem? (i := 1051) (by decide +kernel)⟩
theorem lw_p41 : lw_okq (⟨"KitchenSiegeModel", "number", "(III)Z"⟩, 20) := ⟨⟨by decide +kernel, by decide +kernel⟩, List.mem_of_getElem? (i := 878) (by decide +kernel), List.mem_of_getElem? (i := 1054) (by decide +kernel), List.mem_of_getElem? (i := 1055) (by decide +kernel)⟩
theorem lw_p42 : lw_okq (⟨"KitchenSiegeModel", "laneItem", "()Z"⟩, 20) := ⟨⟨by decide +kernel, by decide +kernel⟩, List.mem_of_getElem? (i := 878) (by decide +kernel), List.mem_of_getElem? (i := 1061) (by decide +kernel), List.mem_of_getElem? (i := 1062) (by decide +kernel)⟩
theorem lw_p43 : lw_okq (⟨"KitchenSiegeModel", "isDish", "(I)Z"⟩, 20) := ⟨⟨by decide +kernel, by decide +kernel⟩, List.mem_of_getElem? (i := 878) (by decide +kernel), List.mem_of_getElem? (i := 1069) (by decide +kernel), List.mem_of_getElem? (i := 1070) (by decide +kernel)⟩
theorem lw_p44 : lw_okq (⟨"KitchenSiegeModel", "goDay", "(I)I"⟩, 20) := ⟨⟨by decide +kernel, by decide +kernel⟩, List.mem_of_getElem? (i := 878) (by decide +kernel), List.mem_of_getElem? (i := 1076) (by decide +kernel), List.mem_of_getElem? (i := 1077) (by decide +kernel)⟩
theorem lw_p45 : lw_okq (⟨"KitchenSiegeModel", "opening", "(III)I"⟩, 20) := ⟨⟨by decide +kernel, by decide +kernel⟩, List.mem_of_getElem? (i := 878) (by decide +kernel), List.mem_of_getElem? (i := 1080) (by decide +kernel), List.mem_of_getElem? (i := 1081) (by decide +kernel)⟩
theorem lw_p46 : lw_okq (⟨"KitchenSiegeModel", "windOf", "(I)I"⟩, 20) := ⟨⟨by decide +kernel, by decide +kernel⟩, List.mem_of_getElem? (i := 878) (by decide +kernel), List.mem_of_getElem? (i := 1084) (by decide +kernel), List.mem_of_getElem? (i := 1085) (by decide +kernel)⟩
theorem lw_p47 : lw_okq (⟨"KitchenSiegeModel", "spread", "(IIII)V"⟩, 20) := ⟨⟨by decide +kernel, by decide +kernel⟩, List.mem_of_getElem? (i := 878) (by decide +kernel), List.mem_of_getElem? (i := 1088) (by decide +kernel), List.mem_of_getElem? (i := 1089) (by decide +kernel)⟩
def lw_privs_3 : List (MethodName × Nat) := [(⟨"KitchenSiegeModel", "full", "()I"⟩, 20), (⟨"KitchenSiegeModel", "isStreet", "(I)Z"⟩, 20), (⟨"KitchenSiegeModel", "no", "()I"⟩, 20), (⟨"KitchenSiegeModel", "word", "()I"⟩, 20), (⟨"KitchenSiegeModel", "skip", "()V"⟩, 20), (⟨"KitchenSiegeModel", "byteAt", "(I)I"⟩, 20), (⟨"KitchenSiegeModel", "fails", "(I)Z"⟩, 20), (⟨"KitchenSiegeModel", "item", "(I)Z"⟩, 20), (⟨"KitchenSiegeModel", "ends", "()Z"⟩, 20), (⟨"KitchenSiegeModel", "number", "(III)Z"⟩, 20), (⟨"KitchenSiegeModel", "laneItem", "()Z"⟩, 20), (⟨"KitchenSiegeModel", "isDish", "(I)Z"⟩, 20), (⟨"KitchenSiegeModel", "goDay", "(I)I"⟩, 20), (⟨"KitchenSiegeModel", "opening", "(III)I"⟩, 20), (⟨"KitchenSiegeModel", "windOf", "(I)I"⟩, 20), (⟨"KitchenSiegeModel", "spread", "(IIII)V"⟩, 20)]
theorem lw_r3 : ∀ q ∈ lw_privs_3, lw_okq q := List.forall_mem_cons.mpr ⟨lw_p32, List.forall_mem_cons.mpr ⟨lw_p33, List.forall_mem_cons.mpr ⟨lw_p34, List.forall_mem_cons.mpr ⟨lw_p35, List.forall_mem_cons.mpr ⟨lw_p36, List.forall_mem_cons.mpr ⟨lw_p37, List.forall_mem_cons.mpr ⟨lw_p38, List.forall_mem_cons.mpr ⟨lw_p39, List.forall_mem_cons.mpr ⟨lw_p40, List.forall_mem_cons.mpr ⟨lw_p41, List.forall_mem_cons.mpr ⟨lw_p42, List.forall_mem_cons.mpr ⟨lw_p43, List.forall_mem_cons.mpr ⟨lw_p44, List.forall_mem_cons.mpr ⟨lw_p45, List.forall_mem_cons.mpr ⟨lw_p46, List.forall_mem_cons.mpr ⟨lw_p47, fun _ h => absurd h List.not_mem_nil⟩⟩⟩⟩⟩⟩⟩⟩⟩⟩⟩⟩⟩⟩⟩⟩
theorem lw_p48 : lw_okq (⟨"KitchenSiegeModel", "movedIn", "(IIII)I"⟩, 20) := ⟨⟨by decide +kernel, by decide +kernel⟩, List.mem_of_getElem? (i := 878) (by decide +kernel), List.mem_of_getElem? (i := 1092) (by decide +kernel), List.mem_of_getElem? (i := 1093) (by decide +kernel)⟩
theorem lw_p49 : lw_okq (⟨"KitchenSiegeModel", "bad10", "()I"⟩, 20) := ⟨⟨by decide +kernel, by decide +kernel⟩, List.mem_of_getElem? (i := 878) (by decide +kernel), List.mem_of_getElem? (i := 1110) (by decide +kernel), List.mem_of_getElem? (i := 1111) (by decide +kernel)⟩
theorem lw_p50 : lw_okq (⟨"KitchenSiegeModel", "butterOf", "(III)I"⟩, 20) := ⟨⟨by decide +kernel, by decide +kernel⟩, List.mem_of_getElem? (i := 878) (by decide +kernel), List.mem_of_getElem? (i := 1130) (by decide +kernel), List.mem_of_getElem? (i := 1131) (by decide +kernel)⟩
theorem lw_p51 : lw_okq (⟨"KitchenSiegeModel", "dishIn", "(III)I"⟩, 20) := ⟨⟨by decide +kernel, by decide +kernel⟩, List.mem_of_getElem? (i := 878) (by decide +kernel), List.mem_of_getElem? (i := 1134) (by decide +kernel), List.mem_of_getElem? (i := 1135) (by decide +kernel)⟩
theorem lw_p52 : lw_okq (⟨"KitchenSiegeModel", "opensIn", "(III)Z"⟩, 20) := ⟨⟨by decide +kernel, by decide +kernel⟩, List.mem_of_getElem? (i := 878) (by decide +kernel), List.mem_of_getElem? (i := 1145) (by decide +kernel), List.mem_of_getElem? (i := 1146) (by decide +kernel)⟩
theorem lw_p53 : lw_okq (⟨"KitchenSiegeModel", "opensOn", "(III)Z"⟩, 20) := ⟨⟨by decide +kernel, by decide +kernel⟩, List.mem_of_getElem? (i := 878) (by decide +kernel), List.mem_of_getElem? (i := 1149) (by decide +kernel), List.mem_of_getElem? (i := 1150) (by decide +kernel)⟩
theorem lw_p54 : lw_okq (⟨"KitchenSiegeModel", "cravings", "(II)I"⟩, 20) := ⟨⟨by decide +kernel, by decide +kernel⟩, List.mem_of_getElem? (i := 878) (by decide +kernel), List.mem_of_getElem? (i := 1179) (by decide +kernel), List.mem_of_getElem? (i := 1180) (by decide +kernel)⟩
theorem lw_p55 : lw_okq (⟨"KitchenSiegeModel", "openMany", "()I"⟩, 20) := ⟨⟨by decide +kernel, by decide +kernel⟩, List.mem_of_getElem? (i := 878) (by decide +kernel), List.mem_of_getElem? (i := 1207) (by decide +kernel), List.mem_of_getElem? (i := 1208) (by decide +kernel)⟩
theorem lw_p56 : lw_okq (⟨"KitchenSiegeModel", "countOf", "(I)I"⟩, 20) := ⟨⟨by decide +kernel, by decide +kernel⟩, List.mem_of_getElem? (i := 878) (by decide +kernel), List.mem_of_getElem? (i := 1232) (by decide +kernel), List.mem_of_getElem? (i := 1233) (by decide +kernel)⟩
def lw_privs_4 : List (MethodName × Nat) := [(⟨"KitchenSiegeModel", "movedIn", "(IIII)I"⟩, 20), (⟨"KitchenSiegeModel", "bad10", "()I"⟩, 20), (⟨"KitchenSiegeModel", "butterOf", "(III)I"⟩, 20), (⟨"KitchenSiegeModel", "dishIn", "(III)I"⟩, 20), (⟨"KitchenSiegeModel", "opensIn", "(III)Z"⟩, 20), (⟨"KitchenSiegeModel", "opensOn", "(III)Z"⟩, 20), (⟨"KitchenSiegeModel", "cravings", "(II)I"⟩, 20), (⟨"KitchenSiegeModel", "openMany", "()I"⟩, 20), (⟨"KitchenSiegeModel", "countOf", "(I)I"⟩, 20)]
theorem lw_r4 : ∀ q ∈ lw_privs_4, lw_okq q := List.forall_mem_cons.mpr ⟨lw_p48, List.forall_mem_cons.mpr ⟨lw_p49, List.forall_mem_cons.mpr ⟨lw_p50, List.forall_mem_cons.mpr ⟨lw_p51, List.forall_mem_cons.mpr ⟨lw_p52, List.forall_mem_cons.mpr ⟨lw_p53, List.forall_mem_cons.mpr ⟨lw_p54, List.forall_mem_cons.mpr ⟨lw_p55, List.forall_mem_cons.mpr ⟨lw_p56, fun _ h => absurd h List.not_mem_nil⟩⟩⟩⟩⟩⟩⟩⟩⟩
def lw_privs : List (MethodName × Nat) := lw_privs_1 ++ (lw_privs_2 ++ (lw_privs_3 ++ (lw_privs_4)))
def lw_tbl : List Cond := k2_sels lw_privs ++ tables_1
theorem lw_privs_ok : ∀ q ∈ lw_privs, lw_okq q := by
  show ∀ q ∈ lw_privs_1 ++ (lw_privs_2 ++ (lw_privs_3 ++ (lw_privs_4))), lw_okq q
  exact List.forall_mem_append.mpr ⟨lw_r1, List.forall_mem_append.mpr ⟨lw_r2, List.forall_mem_append.mpr ⟨lw_r3, lw_r4⟩⟩⟩

def RX0 : String := "KitchenSiege$Air"
def TX0 : u_T := fun k => match k with
  | 0 => ("KitchenSiege$Air", "strength", "[I", true)
  | _ => ("KitchenSiege$Air", "walls", "[I", true)
def tyX0 : Nat → FieldType := fun k => match k with
  | 0 => .array .int
  | _ => .array .int
abbrev wsX00 : List Cond := u_ws RX0 TX0 2
theorem nmX0 : ∀ a, a < 2 → ∀ b, b < 2 → a ≠ b → (TX0 a).2.1 ≠ (TX0 b).2.1 := by decide +kernel
theorem tyX0_ok : ∀ k, k < 2 → parseFieldDescriptor (TX0 k).2.2.1 = some (tyX0 k) := by decide +kernel
abbrev cX0_init : ByteArray := prog_2_method_1_code
def yX0_init : MethodName := ⟨RX0, "<init>", "()V"⟩
abbrev cX0_empty : ByteArray := prog_2_method_2_code
def yX0_empty : MethodName := ⟨RX0, "empty", "()V"⟩
abbrev cX0_fill : ByteArray := prog_2_method_3_code
def yX0_fill : MethodName := ⟨RX0, "fill", "(LKitchenSiege$Town;II)V"⟩
abbrev cX0_fillWithSheets : ByteArray := prog_2_method_4_code
def yX0_fillWithSheets : MethodName := ⟨RX0, "fillWithSheets", "(LKitchenSiege$Town;IIII)V"⟩
abbrev cX0_spread : ByteArray := prog_2_method_5_code
def yX0_spread : MethodName := ⟨RX0, "spread", "(LKitchenSiege$Town;)Z"⟩
def RX1 : String := "KitchenSiege$Cook"
def TX1 : u_T := fun k => match k with
  | 0 => ("KitchenSiege$Cook", "best", "[I", true)
  | 1 => ("KitchenSiege$Cook", "bestButter", "I", false)
  | 2 => ("KitchenSiege$Cook", "town", "LKitchenSiege$Town;", true)
  | 3 => ("KitchenSiege$Cook", "air", "LKitchenSiege$Air;", true)
  | 4 => ("KitchenSiege$Cook", "trial", "LKitchenSiege$Days;", true)
  | 5 => ("KitchenSiege$Cook", "row", "[I", true)
  | 6 => ("KitchenSiege$Cook", "ahead", "[I", true)
  | 7 => ("KitchenSiege$Cook", "opened", "[I", true)
  | _ => ("KitchenSiege$Cook", "duel", "[I", true)
def tyX1 : Nat → FieldType := fun k => match k with
  | 0 => .array .int
  | 1 => .int
  | 2 => .object "KitchenSiege$Town"
  | 3 => .object "KitchenSiege$Air"
  | 4 => .object "KitchenSiege$Days"
  | 5 => .array .int
  | 6 => .array .int
  | 7 => .array .int
  | _ => .array .int
abbrev wsX10 : List Cond := u_ws RX1 TX1 9
theorem nmX1 : ∀ a, a < 9 → ∀ b, b < 9 → a ≠ b → (TX1 a).2.1 ≠ (TX1 b).2.1 := by decide +kernel
theorem tyX1_ok : ∀ k, k < 9 → parseFieldDescriptor (TX1 k).2.2.1 = some (tyX1 k) := by decide +kernel
abbrev cX1_init : ByteArray := prog_3_method_1_code
def yX1_init : MethodName := ⟨RX1, "<init>", "(LKitchenSiege$Town;)V"⟩
abbrev cX1_pass : ByteArray := prog_3_method_2_code
def yX1_pass : MethodName := ⟨RX1, "pass", "(LKitchenSiege$Days;I)I"⟩
abbrev cX1_openingBits : ByteArray := prog_3_method_3_code
def yX1_openingBits : MethodName := ⟨RX1, "openingBits", "(LKitchenSiege$Days;I)I"⟩
abbrev cX1_pullFromAir : ByteArray := prog_3_method_4_code
def yX1_pullFromAir : MethodName := ⟨RX1, "pullFromAir", "(LKitchenSiege$Days;II)I"⟩
abbrev cX1_strength : ByteArray := prog_3_method_5_code
def yX1_strength : MethodName := ⟨RX1, "strength", "(III)I"⟩
abbrev cX1_pullNow : ByteArray := prog_3_method_6_code
def yX1_pullNow : MethodName := ⟨RX1, "pullNow", "(II)I"⟩
abbrev cX1_daysToFall : ByteArray := prog_3_method_7_code
def yX1_daysToFall : MethodName := ⟨RX1, "daysToFall", "(II)I"⟩
abbrev cX1_measure : ByteArray := prog_3_method_8_code
def yX1_measure : MethodName := ⟨RX1, "measure", "(II)V"⟩
abbrev cX1_findRow : ByteArray := prog_3_method_9_code
def yX1_findRow : MethodName := ⟨RX1, "findRow", "(I)I"⟩
abbrev cX1_findRowOf : ByteArray := prog_3_method_10_code
def yX1_findRowOf : MethodName := ⟨RX1, "findRowOf", "(III)Z"⟩
abbrev cX1_lay : ByteArray := prog_3_method_11_code
def yX1_lay : MethodName := ⟨RX1, "lay", "(II)Z"⟩
abbrev cX1_opensLast : ByteArray := prog_3_method_12_code
def yX1_opensLast : MethodName := ⟨RX1, "opensLast", "(II)Z"⟩
abbrev cX1_neverOpened : ByteArray := prog_3_method_13_code
def yX1_neverOpened : MethodName := ⟨RX1, "neverOpened", "()I"⟩
abbrev cX1_openedAlone : ByteArray := prog_3_method_14_code
def yX1_openedAlone : MethodName := ⟨RX1, "openedAlone", "(II)I"⟩
abbrev cX1_openedAloneOn : ByteArray := prog_3_method_15_code
def yX1_openedAloneOn : MethodName := ⟨RX1, "openedAloneOn", "(II)I"⟩
abbrev cX1_leastSet : ByteArray := prog_3_method_16_code
def yX1_leastSet : MethodName := ⟨RX1, "leastSet", "()I"⟩
abbrev cX1_openedBy : ByteArray := prog_3_method_17_code
def yX1_openedBy : MethodName := ⟨RX1, "openedBy", "(I)I"⟩
abbrev cX1_butterOf : ByteArray := prog_3_method_18_code
def yX1_butterOf : MethodName := ⟨RX1, "butterOf", "(I)I"⟩
abbrev cX1_opening : ByteArray := prog_3_method_19_code
def yX1_opening : MethodName := ⟨RX1, "opening", "(III)I"⟩
abbrev cX1_bestSheets : ByteArray := prog_3_method_20_code
def yX1_bestSheets : MethodName := ⟨RX1, "bestSheets", "(II)I"⟩
abbrev cX1_restingPairs : ByteArray := prog_3_method_21_code
def yX1_restingPairs : MethodName := ⟨RX1, "restingPairs", "(I)I"⟩
abbrev cX1_pair : ByteArray := prog_3_method_22_code
def yX1_pair : MethodName := ⟨RX1, "pair", "(II)I"⟩
abbrev cX1_rests : ByteArray := prog_3_method_23_code
def yX1_rests : MethodName := ⟨RX1, "rests", "(II)Z"⟩
abbrev cX1_openAfter : ByteArray := prog_3_method_24_code
def yX1_openAfter : MethodName := ⟨RX1, "openAfter", "(II)I"⟩
def RX2 : String := "KitchenSiege$Days"
def TX2 : u_T := fun k => match k with
  | 0 => ("KitchenSiege$Days", "day", "I", false)
  | 1 => ("KitchenSiege$Days", "since", "[I", true)
  | 2 => ("KitchenSiege$Days", "smelt", "[I", true)
  | _ => ("KitchenSiege$Days", "onEnd", "[I", true)
def tyX2 : Nat → FieldType := fun k => match k with
  | 0 => .int
  | 1 => .array .int
  | 2 => .array .int
  | _ => .array .int
abbrev wsX20 : List Cond := u_ws RX2 TX2 4
theorem nmX2 : ∀ a, a < 4 → ∀ b, b < 4 → a ≠ b → (TX2 a).2.1 ≠ (TX2 b).2.1 := by decide +kernel
theorem tyX2_ok : ∀ k, k < 4 → parseFieldDescriptor (TX2 k).2.2.1 = some (tyX2 k) := by decide +kernel
abbrev cX2_init : ByteArray := prog_4_method_1_code
def yX2_init : MethodName := ⟨RX2, "<init>", "()V"⟩
abbrev cX2_begin : ByteArray := prog_4_method_2_code
def yX2_begin : MethodName := ⟨RX2, "begin", "()V"⟩
abbrev cX2_copy : ByteArray := prog_4_method_3_code
def yX2_copy : MethodName := ⟨RX2, "copy", "(LKitchenSiege$Days;)V"⟩
abbrev cX2_isShut : ByteArray := prog_4_method_4_code
def yX2_isShut : MethodName := ⟨RX2, "isShut", "(I)Z"⟩
abbrev cX2_openOf : ByteArray := prog_4_method_5_code
def yX2_openOf : MethodName := ⟨RX2, "openOf", "(I)I"⟩
abbrev cX2_ahead : ByteArray := prog_4_method_6_code
def yX2_ahead : MethodName := ⟨RX2, "ahead", "(II)I"⟩
abbrev cX2_smellAfter : ByteArray := prog_4_method_7_code
def yX2_smellAfter : MethodName := ⟨RX2, "smellAfter", "(III)V"⟩
def RX3 : String := "KitchenSiege$Fraction"
def TX3 : u_T := fun k => match k with
  | 0 => ("KitchenSiege$Fraction", "above", "J", false)
  | _ => ("KitchenSiege$Fraction", "below", "J", false)
def tyX3 : Nat → FieldType := fun k => match k with
  | 0 => .long
  | _ => .long
abbrev wsX30 : List Cond := u_ws RX3 TX3 2
theorem nmX3 : ∀ a, a < 2 → ∀ b, b < 2 → a ≠ b → (TX3 a).2.1 ≠ (TX3 b).2.1 := by decide +kernel
theorem tyX3_ok : ∀ k, k < 2 → parseFieldDescriptor (TX3 k).2.2.1 = some (tyX3 k) := by decide +kernel
abbrev cX3_init : ByteArray := prog_5_method_1_code
def yX3_init : MethodName := ⟨RX3, "<init>", "()V"⟩
abbrev cX3_chance : ByteArray := prog_5_method_2_code
def yX3_chance : MethodName := ⟨RX3, "chance", "(III)V"⟩
abbrev cX3_choices : ByteArray := prog_5_method_3_code
def yX3_choices : MethodName := ⟨RX3, "choices", "(II)J"⟩
abbrev cX3_power : ByteArray := prog_5_method_4_code
def yX3_power : MethodName := ⟨RX3, "power", "(II)J"⟩
abbrev cX3_commonPart : ByteArray := prog_5_method_5_code
def yX3_commonPart : MethodName := ⟨RX3, "commonPart", "(JJ)J"⟩
def RX4 : String := "KitchenSiege$Nose"
def TX4 : u_T := fun k => match k with
  | _ => ("", "", "", false)
def tyX4 : Nat → FieldType := fun k => match k with
  | _ => .int
abbrev wsX40 : List Cond := u_ws RX4 TX4 0
theorem nmX4 : ∀ a, a < 0 → ∀ b, b < 0 → a ≠ b → (TX4 a).2.1 ≠ (TX4 b).2.1 := by decide +kernel
theorem tyX4_ok : ∀ k, k < 0 → parseFieldDescriptor (TX4 k).2.2.1 = some (tyX4 k) := by decide +kernel
abbrev cX4_pull : ByteArray := prog_6_method_2_code
def yX4_pull : MethodName := ⟨RX4, "pull", "(IIIIII)I"⟩
abbrev cX4_opensAlone : ByteArray := prog_6_method_3_code
def yX4_opensAlone : MethodName := ⟨RX4, "opensAlone", "(IIIII)Z"⟩
def RX5 : String := "KitchenSiege$Notes"
def TX5 : u_T := fun k => match k with
  | 0 => ("KitchenSiege$Notes", "size", "I", false)
  | 1 => ("KitchenSiege$Notes", "streets", "[I", true)
  | 2 => ("KitchenSiege$Notes", "smells", "[I", true)
  | 3 => ("KitchenSiege$Notes", "strengths", "[I", true)
  | 4 => ("KitchenSiege$Notes", "days", "[I", true)
  | _ => ("KitchenSiege$Notes", "opened", "[I", true)
def tyX5 : Nat → FieldType := fun k => match k with
  | 0 => .int
  | 1 => .array .int
  | 2 => .array .int
  | 3 => .array .int
  | 4 => .array .int
  | _ => .array .int
abbrev wsX50 : List Cond := u_ws RX5 TX5 6
theorem nmX5 : ∀ a, a < 6 → ∀ b, b < 6 → a ≠ b → (TX5 a).2.1 ≠ (TX5 b).2.1 := by decide +kernel
theorem tyX5_ok : ∀ k, k < 6 → parseFieldDescriptor (TX5 k).2.2.1 = some (tyX5 k) := by decide +kernel
abbrev cX5_init : ByteArray := prog_7_method_1_code
def yX5_init : MethodName := ⟨RX5, "<init>", "()V"⟩
abbrev cX5_copy : ByteArray := prog_7_method_2_code
def yX5_copy : MethodName := ⟨RX5, "copy", "(LKitchenSiege$Notes;)V"⟩
abbrev cX5_add : ByteArray := prog_7_method_3_code
def yX5_add : MethodName := ⟨RX5, "add", "(IIIII)I"⟩
abbrev cX5_cravings : ByteArray := prog_7_method_4_code
def yX5_cravings : MethodName := ⟨RX5, "cravings", "(II)I"⟩
abbrev cX5_allSo : ByteArray := prog_7_method_5_code
def yX5_allSo : MethodName := ⟨RX5, "allSo", "(III)Z"⟩
abbrev cX5_bestTrial : ByteArray := prog_7_method_6_code
def yX5_bestTrial : MethodName := ⟨RX5, "bestTrial", "(IIII)I"⟩
abbrev cX5_openers : ByteArray := prog_7_method_7_code
def yX5_openers : MethodName := ⟨RX5, "openers", "(IIIII)I"⟩
abbrev cX5_mixNotes : ByteArray := prog_7_method_8_code
def yX5_mixNotes : MethodName := ⟨RX5, "mixNotes", "(J)J"⟩
def RX6 : String := "KitchenSiege$Reader"
def TX6 : u_T := fun k => match k with
  | 0 => ("KitchenSiege$Reader", "length", "I", false)
  | 1 => ("KitchenSiege$Reader", "items", "I", false)
  | 2 => ("KitchenSiege$Reader", "draft", "LKitchenSiege$Town;", true)
  | 3 => ("KitchenSiege$Reader", "text", "[I", true)
  | 4 => ("KitchenSiege$Reader", "fault", "I", false)
  | 5 => ("KitchenSiege$Reader", "place", "I", false)
  | 6 => ("KitchenSiege$Reader", "start", "I", false)
  | 7 => ("KitchenSiege$Reader", "token", "I", false)
  | _ => ("KitchenSiege$Reader", "value", "I", false)
def tyX6 : Nat → FieldType := fun k => match k with
  | 0 => .int
  | 1 => .int
  | 2 => .object "KitchenSiege$Town"
  | 3 => .array .int
  | 4 => .int
  | 5 => .int
  | 6 => .int
  | 7 => .int
  | _ => .int
abbrev wsX60 : List Cond := u_ws RX6 TX6 9
theorem nmX6 : ∀ a, a < 9 → ∀ b, b < 9 → a ≠ b → (TX6 a).2.1 ≠ (TX6 b).2.1 := by decide +kernel
theorem tyX6_ok : ∀ k, k < 9 → parseFieldDescriptor (TX6 k).2.2.1 = some (tyX6 k) := by decide +kernel
abbrev cX6_init : ByteArray := prog_8_method_1_code
def yX6_init : MethodName := ⟨RX6, "<init>", "()V"⟩
abbrev cX6_put : ByteArray := prog_8_method_2_code
def yX6_put : MethodName := ⟨RX6, "put", "(I)I"⟩
abbrev cX6_parse : ByteArray := prog_8_method_3_code
def yX6_parse : MethodName := ⟨RX6, "parse", "()I"⟩
abbrev cX6_item : ByteArray := prog_8_method_4_code
def yX6_item : MethodName := ⟨RX6, "item", "()V"⟩
abbrev cX6_mayStand : ByteArray := prog_8_method_5_code
def yX6_mayStand : MethodName := ⟨RX6, "mayStand", "(I)Z"⟩
abbrev cX6_streetItem : ByteArray := prog_8_method_6_code
def yX6_streetItem : MethodName := ⟨RX6, "streetItem", "()V"⟩
abbrev cX6_laneItem : ByteArray := prog_8_method_7_code
def yX6_laneItem : MethodName := ⟨RX6, "laneItem", "()V"⟩
abbrev cX6_gateItem : ByteArray := prog_8_method_8_code
def yX6_gateItem : MethodName := ⟨RX6, "gateItem", "()V"⟩
abbrev cX6_windItem : ByteArray := prog_8_method_9_code
def yX6_windItem : MethodName := ⟨RX6, "windItem", "()V"⟩
abbrev cX6_dishItem : ByteArray := prog_8_method_10_code
def yX6_dishItem : MethodName := ⟨RX6, "dishItem", "()V"⟩
abbrev cX6_number : ByteArray := prog_8_method_11_code
def yX6_number : MethodName := ⟨RX6, "number", "(II)I"⟩
abbrev cX6_endItem : ByteArray := prog_8_method_12_code
def yX6_endItem : MethodName := ⟨RX6, "endItem", "()Z"⟩
abbrev cX6_take : ByteArray := prog_8_method_13_code
def yX6_take : MethodName := ⟨RX6, "take", "()V"⟩
abbrev cX6_word : ByteArray := prog_8_method_14_code
def yX6_word : MethodName := ⟨RX6, "word", "()I"⟩
abbrev cX6_spells : ByteArray := prog_8_method_15_code
def yX6_spells : MethodName := ⟨RX6, "spells", "(Ljava/lang/String;)Z"⟩
abbrev cX6_isLetter : ByteArray := prog_8_method_16_code
def yX6_isLetter : MethodName := ⟨RX6, "isLetter", "(I)Z"⟩
abbrev cX6_isFigure : ByteArray := prog_8_method_17_code
def yX6_isFigure : MethodName := ⟨RX6, "isFigure", "(I)Z"⟩
def RX7 : String := "KitchenSiege$Town"
def TX7 : u_T := fun k => match k with
  | 0 => ("KitchenSiege$Town", "streets", "I", false)
  | 1 => ("KitchenSiege$Town", "kind", "[I", true)
  | 2 => ("KitchenSiege$Town", "wall", "[I", true)
  | 3 => ("KitchenSiege$Town", "craves", "[I", true)
  | 4 => ("KitchenSiege$Town", "beside", "[I", true)
  | 5 => ("KitchenSiege$Town", "gates", "[I", true)
  | 6 => ("KitchenSiege$Town", "winds", "[I", true)
  | 7 => ("KitchenSiege$Town", "dishes", "I", false)
  | 8 => ("KitchenSiege$Town", "smell", "[I", true)
  | 9 => ("KitchenSiege$Town", "strong", "[I", true)
  | 10 => ("KitchenSiege$Town", "butter", "[I", true)
  | 11 => ("KitchenSiege$Town", "notes", "LKitchenSiege$Notes;", true)
  | 12 => ("KitchenSiege$Town", "days", "LKitchenSiege$Days;", true)
  | 13 => ("KitchenSiege$Town", "past", "[LKitchenSiege$Days;", true)
  | _ => ("KitchenSiege$Town", "undoable", "I", false)
def tyX7 : Nat → FieldType := fun k => match k with
  | 0 => .int
  | 1 => .array .int
  | 2 => .array .int
  | 3 => .array .int
  | 4 => .array .int
  | 5 => .array .int
  | 6 => .array .int
  | 7 => .int
  | 8 => .array .int
  | 9 => .array .int
  | 10 => .array .int
  | 11 => .object "KitchenSiege$Notes"
  | 12 => .object "KitchenSiege$Days"
  | 13 => .array (.object "KitchenSiege$Days")
  | _ => .int
abbrev wsX70 : List Cond := u_ws RX7 TX7 15
theorem nmX7 : ∀ a, a < 15 → ∀ b, b < 15 → a ≠ b → (TX7 a).2.1 ≠ (TX7 b).2.1 := by decide +kernel
theorem tyX7_ok : ∀ k, k < 15 → parseFieldDescriptor (TX7 k).2.2.1 = some (tyX7 k) := by decide +kernel
abbrev cX7_init : ByteArray := prog_9_method_1_code
def yX7_init : MethodName := ⟨RX7, "<init>", "()V"⟩
abbrev cX7_begin : ByteArray := prog_9_method_2_code
def yX7_begin : MethodName := ⟨RX7, "begin", "()V"⟩
abbrev cX7_copy : ByteArray := prog_9_method_3_code
def yX7_copy : MethodName := ⟨RX7, "copy", "(LKitchenSiege$Town;)V"⟩
abbrev cX7_addStreet : ByteArray := prog_9_method_4_code
def yX7_addStreet : MethodName := ⟨RX7, "addStreet", "(III)I"⟩
abbrev cX7_hasLane : ByteArray := prog_9_method_5_code
def yX7_hasLane : MethodName := ⟨RX7, "hasLane", "(II)Z"⟩
abbrev cX7_addLane : ByteArray := prog_9_method_6_code
def yX7_addLane : MethodName := ⟨RX7, "addLane", "(II)V"⟩
abbrev cX7_addDish : ByteArray := prog_9_method_7_code
def yX7_addDish : MethodName := ⟨RX7, "addDish", "(III)I"⟩
abbrev cX7_windOn : ByteArray := prog_9_method_8_code
def yX7_windOn : MethodName := ⟨RX7, "windOn", "(I)I"⟩
abbrev cX7_pull : ByteArray := prog_9_method_9_code
def yX7_pull : MethodName := ⟨RX7, "pull", "(IIIII)I"⟩
abbrev cX7_shutStreets : ByteArray := prog_9_method_10_code
def yX7_shutStreets : MethodName := ⟨RX7, "shutStreets", "()I"⟩
abbrev cX7_keepDays : ByteArray := prog_9_method_11_code
def yX7_keepDays : MethodName := ⟨RX7, "keepDays", "()V"⟩
abbrev cX7_goBack : ByteArray := prog_9_method_12_code
def yX7_goBack : MethodName := ⟨RX7, "goBack", "()V"⟩
abbrev cX7_mixStreets : ByteArray := prog_9_method_13_code
def yX7_mixStreets : MethodName := ⟨RX7, "mixStreets", "(J)J"⟩
abbrev cX7_mixLanes : ByteArray := prog_9_method_14_code
def yX7_mixLanes : MethodName := ⟨RX7, "mixLanes", "(J)J"⟩
abbrev cX7_mixDishes : ByteArray := prog_9_method_15_code
def yX7_mixDishes : MethodName := ⟨RX7, "mixDishes", "(J)J"⟩
def RX8 : String := "KitchenSiege"
def TX8 : u_T := fun k => match k with
  | 0 => ("KitchenSiege", "now", "LKitchenSiege$Town;", true)
  | 1 => ("KitchenSiege", "cook", "LKitchenSiege$Cook;", true)
  | 2 => ("KitchenSiege", "reader", "LKitchenSiege$Reader;", true)
  | 3 => ("KitchenSiege", "fraction", "LKitchenSiege$Fraction;", true)
  | 4 => ("KitchenSiege", "images", "[LKitchenSiege$Town;", true)
  | 5 => ("KitchenSiege", "kept", "[Z", true)
  | 6 => ("KitchenSiege", "bads", "I", false)
  | 7 => ("KitchenSiege", "noes", "I", false)
  | _ => ("KitchenSiege", "fulls", "I", false)
def tyX8 : Nat → FieldType := fun k => match k with
  | 0 => .object "KitchenSiege$Town"
  | 1 => .object "KitchenSiege$Cook"
  | 2 => .object "KitchenSiege$Reader"
  | 3 => .object "KitchenSiege$Fraction"
  | 4 => .array (.object "KitchenSiege$Town")
  | 5 => .array .boolean
  | 6 => .int
  | 7 => .int
  | _ => .int
abbrev wsX80 : List Cond := u_ws RX8 TX8 9
theorem nmX8 : ∀ a, a < 9 → ∀ b, b < 9 → a ≠ b → (TX8 a).2.1 ≠ (TX8 b).2.1 := by decide +kernel
theorem tyX8_ok : ∀ k, k < 9 → parseFieldDescriptor (TX8 k).2.2.1 = some (tyX8 k) := by decide +kernel
abbrev cX8_init : ByteArray := prog_1_method_1_code
def yX8_init : MethodName := ⟨RX8, "<init>", "()V"⟩
abbrev cX8_town : ByteArray := prog_1_method_2_code
def yX8_town : MethodName := ⟨RX8, "town", "()I"⟩
abbrev cX8_street : ByteArray := prog_1_method_3_code
def yX8_street : MethodName := ⟨RX8, "street", "(III)I"⟩
abbrev cX8_lane : ByteArray := prog_1_method_4_code
def yX8_lane : MethodName := ⟨RX8, "lane", "(II)I"⟩
abbrev cX8_gate : ByteArray := prog_1_method_5_code
def yX8_gate : MethodName := ⟨RX8, "gate", "(II)I"⟩
abbrev cX8_wind : ByteArray := prog_1_method_6_code
def yX8_wind : MethodName := ⟨RX8, "wind", "(II)I"⟩
abbrev cX8_dish : ByteArray := prog_1_method_7_code
def yX8_dish : MethodName := ⟨RX8, "dish", "(III)I"⟩
abbrev cX8_type : ByteArray := prog_1_method_8_code
def yX8_type : MethodName := ⟨RX8, "type", "(I)I"⟩
abbrev cX8_clear : ByteArray := prog_1_method_9_code
def yX8_clear : MethodName := ⟨RX8, "clear", "()I"⟩
abbrev cX8_read : ByteArray := prog_1_method_10_code
def yX8_read : MethodName := ⟨RX8, "read", "()I"⟩
abbrev cX8_day : ByteArray := prog_1_method_11_code
def yX8_day : MethodName := ⟨RX8, "day", "(I)I"⟩
abbrev cX8_undo : ByteArray := prog_1_method_12_code
def yX8_undo : MethodName := ⟨RX8, "undo", "()I"⟩
abbrev cX8_of : ByteArray := prog_1_method_13_code
def yX8_of : MethodName := ⟨RX8, "of", "(II)I"⟩
abbrev cX8_smells : ByteArray := prog_1_method_14_code
def yX8_smells : MethodName := ⟨RX8, "smells", "(III)I"⟩
abbrev cX8_moved : ByteArray := prog_1_method_15_code
def yX8_moved : MethodName := ⟨RX8, "moved", "(II)I"⟩
abbrev cX8_falls : ByteArray := prog_1_method_16_code
def yX8_falls : MethodName := ⟨RX8, "falls", "(II)I"⟩
abbrev cX8_order : ByteArray := prog_1_method_17_code
def yX8_order : MethodName := ⟨RX8, "order", "(II)I"⟩
abbrev cX8_never : ByteArray := prog_1_method_18_code
def yX8_never : MethodName := ⟨RX8, "never", "()I"⟩
abbrev cX8_least : ByteArray := prog_1_method_19_code
def yX8_least : MethodName := ⟨RX8, "least", "()I"⟩
abbrev cX8_answer : ByteArray := prog_1_method_20_code
def yX8_answer : MethodName := ⟨RX8, "answer", "(III)I"⟩
abbrev cX8_game : ByteArray := prog_1_method_21_code
def yX8_game : MethodName := ⟨RX8, "game", "(I)I"⟩
abbrev cX8_note : ByteArray := prog_1_method_22_code
def yX8_note : MethodName := ⟨RX8, "note", "(IIIII)I"⟩
abbrev cX8_forget : ByteArray := prog_1_method_23_code
def yX8_forget : MethodName := ⟨RX8, "forget", "()I"⟩
abbrev cX8_craved : ByteArray := prog_1_method_24_code
def yX8_craved : MethodName := ⟨RX8, "craved", "(I)I"⟩
abbrev cX8_is : ByteArray := prog_1_method_25_code
def yX8_is : MethodName := ⟨RX8, "is", "(I)I"⟩
abbrev cX8_tryNext : ByteArray := prog_1_method_26_code
def yX8_tryNext : MethodName := ⟨RX8, "tryNext", "(III)I"⟩
abbrev cX8_rain : ByteArray := prog_1_method_27_code
def yX8_rain : MethodName := ⟨RX8, "rain", "(III)I"⟩
abbrev cX8_sieges : ByteArray := prog_1_method_28_code
def yX8_sieges : MethodName := ⟨RX8, "sieges", "(II)I"⟩
abbrev cX8_part : ByteArray := prog_1_method_29_code
def yX8_part : MethodName := ⟨RX8, "part", "(I)J"⟩
abbrev cX8_image : ByteArray := prog_1_method_30_code
def yX8_image : MethodName := ⟨RX8, "image", "(I)I"⟩
abbrev cX8_from : ByteArray := prog_1_method_31_code
def yX8_from : MethodName := ⟨RX8, "from", "(I)I"⟩
abbrev cX8_status : ByteArray := prog_1_method_32_code
def yX8_status : MethodName := ⟨RX8, "status", "(I)I"⟩
abbrev cX8_count : ByteArray := prog_1_method_33_code
def yX8_count : MethodName := ⟨RX8, "count", "(I)I"⟩
abbrev cX8_digest : ByteArray := prog_1_method_34_code
def yX8_digest : MethodName := ⟨RX8, "digest", "()J"⟩
abbrev cX8_bad : ByteArray := prog_1_method_35_code
def yX8_bad : MethodName := ⟨RX8, "bad", "()I"⟩
abbrev cX8_badTen : ByteArray := prog_1_method_36_code
def yX8_badTen : MethodName := ⟨RX8, "badTen", "()I"⟩
abbrev cX8_no : ByteArray := prog_1_method_37_code
def yX8_no : MethodName := ⟨RX8, "no", "()I"⟩
abbrev cX8_full : ByteArray := prog_1_method_38_code
def yX8_full : MethodName := ⟨RX8, "full", "()I"⟩
abbrev cX8_isStreet : ByteArray := prog_1_method_39_code
def yX8_isStreet : MethodName := ⟨RX8, "isStreet", "(I)Z"⟩
abbrev cX8_isDish : ByteArray := prog_1_method_40_code
def yX8_isDish : MethodName := ⟨RX8, "isDish", "(I)Z"⟩
abbrev cX8_isWind : ByteArray := prog_1_method_41_code
def yX8_isWind : MethodName := ⟨RX8, "isWind", "(I)Z"⟩
abbrev cX8_isImage : ByteArray := prog_1_method_42_code
def yX8_isImage : MethodName := ⟨RX8, "isImage", "(I)Z"⟩
abbrev cX8_isNoted : ByteArray := prog_1_method_43_code
def yX8_isNoted : MethodName := ⟨RX8, "isNoted", "(II)Z"⟩
abbrev cX8_within : ByteArray := prog_1_method_44_code
def yX8_within : MethodName := ⟨RX8, "within", "(III)Z"⟩
abbrev cX8_has : ByteArray := prog_1_method_45_code
def yX8_has : MethodName := ⟨RX8, "has", "(II)Z"⟩
abbrev cX8_mix : ByteArray := prog_1_method_46_code
def yX8_mix : MethodName := ⟨RX8, "mix", "(JJ)J"⟩
abbrev cX8_mixAll : ByteArray := prog_1_method_47_code
def yX8_mixAll : MethodName := ⟨RX8, "mixAll", "(J[I)J"⟩
def RX9 : String := "KitchenSiegeModel"
def TX9 : u_T := fun k => match k with
  | 0 => ("KitchenSiegeModel", "a", "[I", true)
  | 1 => ("KitchenSiegeModel", "read", "[I", true)
  | 2 => ("KitchenSiegeModel", "images", "[I", true)
  | 3 => ("KitchenSiegeModel", "hasImage", "[I", true)
  | 4 => ("KitchenSiegeModel", "text", "[I", true)
  | 5 => ("KitchenSiegeModel", "length", "I", false)
  | 6 => ("KitchenSiegeModel", "above", "J", false)
  | 7 => ("KitchenSiegeModel", "below", "J", false)
  | 8 => ("KitchenSiegeModel", "bads", "I", false)
  | 9 => ("KitchenSiegeModel", "nos", "I", false)
  | 10 => ("KitchenSiegeModel", "fulls", "I", false)
  | 11 => ("KitchenSiegeModel", "spot", "I", false)
  | 12 => ("KitchenSiegeModel", "fault", "I", false)
  | 13 => ("KitchenSiegeModel", "told", "[I", true)
  | 14 => ("KitchenSiegeModel", "strong", "[I", true)
  | 15 => ("KitchenSiegeModel", "saved", "[I", true)
  | 16 => ("KitchenSiegeModel", "best", "[I", true)
  | 17 => ("KitchenSiegeModel", "opens", "[I", true)
  | 18 => ("KitchenSiegeModel", "table", "[I", true)
  | _ => ("KitchenSiegeModel", "chance", "[J", true)
def tyX9 : Nat → FieldType := fun k => match k with
  | 0 => .array .int
  | 1 => .array .int
  | 2 => .array .int
  | 3 => .array .int
  | 4 => .array .int
  | 5 => .int
  | 6 => .long
  | 7 => .long
  | 8 => .int
  | 9 => .int
  | 10 => .int
  | 11 => .int
  | 12 => .int
  | 13 => .array .int
  | 14 => .array .int
  | 15 => .array .int
  | 16 => .array .int
  | 17 => .array .int
  | 18 => .array .int
  | _ => .array .long
abbrev wsX90 : List Cond := u_ws RX9 TX9 20
theorem nmX9 : ∀ a, a < 20 → ∀ b, b < 20 → a ≠ b → (TX9 a).2.1 ≠ (TX9 b).2.1 := by decide +kernel
theorem tyX9_ok : ∀ k, k < 20 → parseFieldDescriptor (TX9 k).2.2.1 = some (tyX9 k) := by decide +kernel
abbrev cX9_init : ByteArray := prog_11_method_1_code
def yX9_init : MethodName := ⟨RX9, "<init>", "()V"⟩
abbrev cX9_in : ByteArray := prog_11_method_2_code
def yX9_in : MethodName := ⟨RX9, "in", "(JJJ)Z"⟩
abbrev cX9_has : ByteArray := prog_11_method_3_code
def yX9_has : MethodName := ⟨RX9, "has", "(II)Z"⟩
abbrev cX9_bits : ByteArray := prog_11_method_4_code
def yX9_bits : MethodName := ⟨RX9, "bits", "(I)I"⟩
abbrev cX9_bad : ByteArray := prog_11_method_5_code
def yX9_bad : MethodName := ⟨RX9, "bad", "()I"⟩
abbrev cX9_bad10 : ByteArray := prog_11_method_6_code
def yX9_bad10 : MethodName := ⟨RX9, "bad10", "()I"⟩
abbrev cX9_no : ByteArray := prog_11_method_7_code
def yX9_no : MethodName := ⟨RX9, "no", "()I"⟩
abbrev cX9_full : ByteArray := prog_11_method_8_code
def yX9_full : MethodName := ⟨RX9, "full", "()I"⟩
abbrev cX9_first : ByteArray := prog_11_method_9_code
def yX9_first : MethodName := ⟨RX9, "first", "([I)V"⟩
abbrev cX9_addStreet : ByteArray := prog_11_method_10_code
def yX9_addStreet : MethodName := ⟨RX9, "addStreet", "([IIII)V"⟩
abbrev cX9_addDish : ByteArray := prog_11_method_11_code
def yX9_addDish : MethodName := ⟨RX9, "addDish", "([IIII)V"⟩
abbrev cX9_addLane : ByteArray := prog_11_method_12_code
def yX9_addLane : MethodName := ⟨RX9, "addLane", "([III)V"⟩
abbrev cX9_town : ByteArray := prog_11_method_13_code
def yX9_town : MethodName := ⟨RX9, "town", "()I"⟩
abbrev cX9_street : ByteArray := prog_11_method_14_code
def yX9_street : MethodName := ⟨RX9, "street", "(III)I"⟩
abbrev cX9_isStreet : ByteArray := prog_11_method_15_code
def yX9_isStreet : MethodName := ⟨RX9, "isStreet", "(I)Z"⟩
abbrev cX9_isDish : ByteArray := prog_11_method_16_code
def yX9_isDish : MethodName := ⟨RX9, "isDish", "(I)Z"⟩
abbrev cX9_lane : ByteArray := prog_11_method_17_code
def yX9_lane : MethodName := ⟨RX9, "lane", "(II)I"⟩
abbrev cX9_gate : ByteArray := prog_11_method_18_code
def yX9_gate : MethodName := ⟨RX9, "gate", "(II)I"⟩
abbrev cX9_wind : ByteArray := prog_11_method_19_code
def yX9_wind : MethodName := ⟨RX9, "wind", "(II)I"⟩
abbrev cX9_dish : ByteArray := prog_11_method_20_code
def yX9_dish : MethodName := ⟨RX9, "dish", "(III)I"⟩
abbrev cX9_type : ByteArray := prog_11_method_21_code
def yX9_type : MethodName := ⟨RX9, "type", "(I)I"⟩
abbrev cX9_clear : ByteArray := prog_11_method_22_code
def yX9_clear : MethodName := ⟨RX9, "clear", "()I"⟩
abbrev cX9_byteAt : ByteArray := prog_11_method_23_code
def yX9_byteAt : MethodName := ⟨RX9, "byteAt", "(I)I"⟩
abbrev cX9_skip : ByteArray := prog_11_method_24_code
def yX9_skip : MethodName := ⟨RX9, "skip", "()V"⟩
abbrev cX9_fails : ByteArray := prog_11_method_25_code
def yX9_fails : MethodName := ⟨RX9, "fails", "(I)Z"⟩
abbrev cX9_number : ByteArray := prog_11_method_26_code
def yX9_number : MethodName := ⟨RX9, "number", "(III)Z"⟩
abbrev cX9_ends : ByteArray := prog_11_method_27_code
def yX9_ends : MethodName := ⟨RX9, "ends", "()Z"⟩
abbrev cX9_letterOf : ByteArray := prog_11_method_28_code
def yX9_letterOf : MethodName := ⟨RX9, "letterOf", "(II)I"⟩
abbrev cX9_word : ByteArray := prog_11_method_29_code
def yX9_word : MethodName := ⟨RX9, "word", "()I"⟩
abbrev cX9_laneItem : ByteArray := prog_11_method_30_code
def yX9_laneItem : MethodName := ⟨RX9, "laneItem", "()Z"⟩
abbrev cX9_item : ByteArray := prog_11_method_31_code
def yX9_item : MethodName := ⟨RX9, "item", "(I)Z"⟩
abbrev cX9_read : ByteArray := prog_11_method_32_code
def yX9_read : MethodName := ⟨RX9, "read", "()I"⟩
abbrev cX9_spread : ByteArray := prog_11_method_33_code
def yX9_spread : MethodName := ⟨RX9, "spread", "(IIII)V"⟩
abbrev cX9_windOf : ByteArray := prog_11_method_34_code
def yX9_windOf : MethodName := ⟨RX9, "windOf", "(I)I"⟩
abbrev cX9_movedBy : ByteArray := prog_11_method_35_code
def yX9_movedBy : MethodName := ⟨RX9, "movedBy", "(IIIIII)I"⟩
abbrev cX9_movedIn : ByteArray := prog_11_method_36_code
def yX9_movedIn : MethodName := ⟨RX9, "movedIn", "(IIII)I"⟩
abbrev cX9_opening : ByteArray := prog_11_method_37_code
def yX9_opening : MethodName := ⟨RX9, "opening", "(III)I"⟩
abbrev cX9_goDay : ByteArray := prog_11_method_38_code
def yX9_goDay : MethodName := ⟨RX9, "goDay", "(I)I"⟩
abbrev cX9_past : ByteArray := prog_11_method_39_code
def yX9_past : MethodName := ⟨RX9, "past", "([I[IIZ)V"⟩
abbrev cX9_day : ByteArray := prog_11_method_40_code
def yX9_day : MethodName := ⟨RX9, "day", "(I)I"⟩
abbrev cX9_undo : ByteArray := prog_11_method_41_code
def yX9_undo : MethodName := ⟨RX9, "undo", "()I"⟩
abbrev cX9_of : ByteArray := prog_11_method_42_code
def yX9_of : MethodName := ⟨RX9, "of", "(II)I"⟩
abbrev cX9_smells : ByteArray := prog_11_method_43_code
def yX9_smells : MethodName := ⟨RX9, "smells", "(III)I"⟩
abbrev cX9_moved : ByteArray := prog_11_method_44_code
def yX9_moved : MethodName := ⟨RX9, "moved", "(II)I"⟩
abbrev cX9_falls : ByteArray := prog_11_method_45_code
def yX9_falls : MethodName := ⟨RX9, "falls", "(II)I"⟩
abbrev cX9_dishIn : ByteArray := prog_11_method_46_code
def yX9_dishIn : MethodName := ⟨RX9, "dishIn", "(III)I"⟩
abbrev cX9_butterOf : ByteArray := prog_11_method_47_code
def yX9_butterOf : MethodName := ⟨RX9, "butterOf", "(III)I"⟩
abbrev cX9_order : ByteArray := prog_11_method_48_code
def yX9_order : MethodName := ⟨RX9, "order", "(II)I"⟩
abbrev cX9_opensOn : ByteArray := prog_11_method_49_code
def yX9_opensOn : MethodName := ⟨RX9, "opensOn", "(III)Z"⟩
abbrev cX9_opensIn : ByteArray := prog_11_method_50_code
def yX9_opensIn : MethodName := ⟨RX9, "opensIn", "(III)Z"⟩
abbrev cX9_never : ByteArray := prog_11_method_51_code
def yX9_never : MethodName := ⟨RX9, "never", "()I"⟩
abbrev cX9_least : ByteArray := prog_11_method_52_code
def yX9_least : MethodName := ⟨RX9, "least", "()I"⟩
abbrev cX9_answer : ByteArray := prog_11_method_53_code
def yX9_answer : MethodName := ⟨RX9, "answer", "(III)I"⟩
abbrev cX9_game : ByteArray := prog_11_method_54_code
def yX9_game : MethodName := ⟨RX9, "game", "(I)I"⟩
abbrev cX9_note : ByteArray := prog_11_method_55_code
def yX9_note : MethodName := ⟨RX9, "note", "(IIIII)I"⟩
abbrev cX9_forget : ByteArray := prog_11_method_56_code
def yX9_forget : MethodName := ⟨RX9, "forget", "()I"⟩
abbrev cX9_cravings : ByteArray := prog_11_method_57_code
def yX9_cravings : MethodName := ⟨RX9, "cravings", "(II)I"⟩
abbrev cX9_craved : ByteArray := prog_11_method_58_code
def yX9_craved : MethodName := ⟨RX9, "craved", "(I)I"⟩
abbrev cX9_is : ByteArray := prog_11_method_59_code
def yX9_is : MethodName := ⟨RX9, "is", "(I)I"⟩
abbrev cX9_tryNext : ByteArray := prog_11_method_60_code
def yX9_tryNext : MethodName := ⟨RX9, "tryNext", "(III)I"⟩
abbrev cX9_rain : ByteArray := prog_11_method_61_code
def yX9_rain : MethodName := ⟨RX9, "rain", "(III)I"⟩
abbrev cX9_openMany : ByteArray := prog_11_method_62_code
def yX9_openMany : MethodName := ⟨RX9, "openMany", "()I"⟩
abbrev cX9_sieges : ByteArray := prog_11_method_63_code
def yX9_sieges : MethodName := ⟨RX9, "sieges", "(II)I"⟩
abbrev cX9_part : ByteArray := prog_11_method_64_code
def yX9_part : MethodName := ⟨RX9, "part", "(I)J"⟩
abbrev cX9_image : ByteArray := prog_11_method_65_code
def yX9_image : MethodName := ⟨RX9, "image", "(I)I"⟩
abbrev cX9_from : ByteArray := prog_11_method_66_code
def yX9_from : MethodName := ⟨RX9, "from", "(I)I"⟩
abbrev cX9_status : ByteArray := prog_11_method_67_code
def yX9_status : MethodName := ⟨RX9, "status", "(I)I"⟩
abbrev cX9_countOf : ByteArray := prog_11_method_68_code
def yX9_countOf : MethodName := ⟨RX9, "countOf", "(I)I"⟩
abbrev cX9_count : ByteArray := prog_11_method_69_code
def yX9_count : MethodName := ⟨RX9, "count", "(I)I"⟩
abbrev cX9_digest : ByteArray := prog_11_method_70_code
def yX9_digest : MethodName := ⟨RX9, "digest", "()J"⟩
def RL : String := "KitchenSiegeLaw"
abbrev cL_law : ByteArray := code
def yL_law : MethodName := ⟨RL, "law", "([I)Z"⟩
abbrev vwCl : List vw_C := [(RX0, TX0, 2), (RX1, TX1, 9), (RX2, TX2, 4), (RX3, TX3, 2), (RX5, TX5, 6), (RX6, TX6, 9), (RX7, TX7, 15), (RX8, TX8, 9), (RX9, TX9, 20)]
end
section
/-! the tables of the abstract machine: printed by wip/whole/gen01.py out of the task -/
abbrev am_C : Type := Nat × List Value
abbrev am_W : Type := List am_C
/-- a method: name, code, locals, type, the number of its class, the place of its code word -/
abbrev am_M : Type := MethodName × ByteArray × Nat × Option FieldType × Nat × Nat
def am_ms : List am_M := [
  (yX8_init, prog_1_method_1_code, 2, none, 8, 79),
  (yX7_init, prog_9_method_1_code, 2, none, 7, 87),
  (yX5_init, prog_7_method_1_code, 1, none, 5, 93),
  (yX2_init, prog_4_method_1_code, 1, none, 2, 121),
  (yX7_begin, prog_9_method_2_code, 2, none, 7, 151),
  (yX2_begin, prog_4_method_2_code, 2, none, 2, 155),
  (yX1_init, prog_3_method_1_code, 2, none, 1, 230),
  (yX0_init, prog_2_method_1_code, 1, none, 0, 236),
  (yX6_init, prog_8_method_1_code, 1, none, 6, 282),
  (yX3_init, prog_5_method_1_code, 1, none, 3, 321),
  (yX8_town, prog_1_method_2_code, 2, (some .int), 8, 365),
  (yX8_street, prog_1_method_3_code, 4, (some .int), 8, 370),
  (yX8_within, prog_1_method_44_code, 3, (some .boolean), 8, 373),
  (yX8_bad, prog_1_method_35_code, 1, (some .int), 8, 377),
  (yX8_full, prog_1_method_38_code, 1, (some .int), 8, 381),
  (yX7_addStreet, prog_9_method_4_code, 5, (some .int), 7, 385),
  (yX8_lane, prog_1_method_4_code, 3, (some .int), 8, 389),
  (yX8_isStreet, prog_1_method_39_code, 2, (some .boolean), 8, 393),
  (yX7_hasLane, prog_9_method_5_code, 3, (some .boolean), 7, 397),
  (yX8_has, prog_1_method_45_code, 2, (some .boolean), 8, 400),
  (yX8_no, prog_1_method_37_code, 1, (some .int), 8, 404),
  (yX7_addLane, prog_9_method_6_code, 3, none, 7, 408),
  (yX8_gate, prog_1_method_5_code, 4, (some .int), 8, 412),
  (yX8_isWind, prog_1_method_41_code, 1, (some .boolean), 8, 415),
  (yX8_wind, prog_1_method_6_code, 4, (some .int), 8, 419),
  (yX8_dish, prog_1_method_7_code, 4, (some .int), 8, 423),
  (yX7_addDish, prog_9_method_7_code, 5, (some .int), 7, 427),
  (yX8_type, prog_1_method_8_code, 2, (some .int), 8, 431),
  (yX6_put, prog_8_method_2_code, 2, (some .int), 6, 435),
  (yX8_clear, prog_1_method_9_code, 2, (some .int), 8, 439),
  (yX8_read, prog_1_method_10_code, 2, (some .int), 8, 443),
  (yX6_parse, prog_8_method_3_code, 2, (some .int), 6, 447),
  (yX6_take, prog_8_method_13_code, 1, none, 6, 452),
  (yX6_isLetter, prog_8_method_16_code, 1, (some .boolean), 6, 455),
  (yX6_isFigure, prog_8_method_17_code, 1, (some .boolean), 6, 458),
  (yX6_item, prog_8_method_4_code, 2, none, 6, 462),
  (yX6_word, prog_8_method_14_code, 1, (some .int), 6, 466),
  (yX6_spells, prog_8_method_15_code, 3, (some .boolean), 6, 471),
  (yX6_mayStand, prog_8_method_5_code, 2, (some .boolean), 6, 528),
  (yX6_streetItem, prog_8_method_6_code, 4, none, 6, 532),
  (yX6_number, prog_8_method_11_code, 3, (some .int), 6, 536),
  (yX6_endItem, prog_8_method_12_code, 1, (some .boolean), 6, 541),
  (yX6_laneItem, prog_8_method_7_code, 3, none, 6, 546),
  (yX6_gateItem, prog_8_method_8_code, 3, none, 6, 551),
  (yX6_windItem, prog_8_method_9_code, 3, none, 6, 555),
  (yX6_dishItem, prog_8_method_10_code, 4, none, 6, 559),
  (yX7_copy, prog_9_method_3_code, 3, none, 7, 564),
  (yX5_copy, prog_7_method_2_code, 2, none, 5, 571),
  (yX2_copy, prog_4_method_3_code, 2, none, 2, 576),
  (yX8_day, prog_1_method_11_code, 2, (some .int), 8, 582),
  (yX8_isDish, prog_1_method_40_code, 2, (some .boolean), 8, 586),
  (yX7_keepDays, prog_9_method_11_code, 3, none, 7, 590),
  (yX1_pass, prog_3_method_2_code, 6, (some .int), 1, 594),
  (yX0_empty, prog_2_method_2_code, 2, none, 0, 598),
  (yX7_windOn, prog_9_method_8_code, 2, (some .int), 7, 602),
  (⟨"java/lang/Math", "floorMod", "(II)I"⟩, prog_13_method_50_code, 3, (some .int), 11, 605),
  (yX0_fill, prog_2_method_3_code, 4, none, 0, 609),
  (yX0_fillWithSheets, prog_2_method_4_code, 9, none, 0, 613),
  (⟨"java/lang/Math", "max", "(II)I"⟩, prog_13_method_65_code, 2, (some .int), 11, 618),
  (yX0_spread, prog_2_method_5_code, 7, (some .boolean), 0, 622),
  (yX1_openingBits, prog_3_method_3_code, 5, (some .int), 1, 627),
  (yX2_isShut, prog_4_method_4_code, 2, (some .boolean), 2, 631),
  (yX1_pullFromAir, prog_3_method_4_code, 5, (some .int), 1, 635),
  (yX2_ahead, prog_4_method_6_code, 3, (some .int), 2, 639),
  (yX7_pull, prog_9_method_9_code, 6, (some .int), 7, 643),
  (yX4_pull, prog_6_method_2_code, 9, (some .int), 4, 646),
  (yX2_smellAfter, prog_4_method_7_code, 4, none, 2, 651),
  (yX8_undo, prog_1_method_12_code, 1, (some .int), 8, 656),
  (yX7_goBack, prog_9_method_12_code, 1, none, 7, 660),
  (yX8_of, prog_1_method_13_code, 3, (some .int), 8, 664),
  (yX8_badTen, prog_1_method_36_code, 1, (some .int), 8, 668),
  (yX8_smells, prog_1_method_14_code, 4, (some .int), 8, 672),
  (yX1_strength, prog_3_method_5_code, 4, (some .int), 1, 676),
  (yX8_moved, prog_1_method_15_code, 3, (some .int), 8, 680),
  (yX1_pullNow, prog_3_method_6_code, 3, (some .int), 1, 684),
  (yX8_falls, prog_1_method_16_code, 3, (some .int), 8, 688),
  (yX1_daysToFall, prog_3_method_7_code, 6, (some .int), 1, 692),
  (yX1_measure, prog_3_method_8_code, 4, none, 1, 696),
  (yX8_order, prog_1_method_17_code, 4, (some .int), 8, 700),
  (yX1_findRow, prog_3_method_9_code, 4, (some .int), 1, 704),
  (yX1_findRowOf, prog_3_method_10_code, 8, (some .boolean), 1, 708),
  (yX1_lay, prog_3_method_11_code, 7, (some .boolean), 1, 712),
  (yX1_opensLast, prog_3_method_12_code, 11, (some .boolean), 1, 716),
  (yX8_never, prog_1_method_18_code, 1, (some .int), 8, 721),
  (yX1_neverOpened, prog_3_method_13_code, 3, (some .int), 1, 725),
  (yX7_shutStreets, prog_9_method_10_code, 3, (some .int), 7, 729),
  (yX1_openedAlone, prog_3_method_14_code, 6, (some .int), 1, 734),
  (yX1_openedAloneOn, prog_3_method_15_code, 5, (some .int), 1, 738),
  (yX8_least, prog_1_method_19_code, 1, (some .int), 8, 742),
  (yX1_leastSet, prog_3_method_16_code, 7, (some .int), 1, 746),
  (yX1_openedBy, prog_3_method_17_code, 4, (some .int), 1, 750),
  (yX1_butterOf, prog_3_method_18_code, 4, (some .int), 1, 754),
  (⟨"java/lang/Integer", "bitCount", "(I)I"⟩, prog_12_method_49_code, 1, (some .int), 10, 757),
  (yX8_answer, prog_1_method_20_code, 5, (some .int), 8, 764),
  (yX1_bestSheets, prog_3_method_20_code, 7, (some .int), 1, 768),
  (yX1_opening, prog_3_method_19_code, 4, (some .int), 1, 772),
  (yX8_game, prog_1_method_21_code, 2, (some .int), 8, 778),
  (yX1_restingPairs, prog_3_method_21_code, 5, (some .int), 1, 782),
  (yX1_pair, prog_3_method_22_code, 2, (some .int), 1, 785),
  (yX1_rests, prog_3_method_23_code, 5, (some .boolean), 1, 789),
  (yX8_note, prog_1_method_22_code, 6, (some .int), 8, 793),
  (yX8_isNoted, prog_1_method_43_code, 2, (some .boolean), 8, 796),
  (yX5_add, prog_7_method_3_code, 6, (some .int), 5, 800),
  (yX8_forget, prog_1_method_23_code, 2, (some .int), 8, 804),
  (yX8_craved, prog_1_method_24_code, 2, (some .int), 8, 808),
  (yX5_cravings, prog_7_method_4_code, 5, (some .int), 5, 812),
  (yX5_allSo, prog_7_method_5_code, 6, (some .boolean), 5, 816),
  (yX4_opensAlone, prog_6_method_3_code, 5, (some .boolean), 4, 819),
  (yX8_is, prog_1_method_25_code, 4, (some .int), 8, 824),
  (yX8_tryNext, prog_1_method_26_code, 4, (some .int), 8, 828),
  (yX5_bestTrial, prog_7_method_6_code, 11, (some .int), 5, 832),
  (yX5_openers, prog_7_method_7_code, 7, (some .int), 5, 836),
  (yX8_rain, prog_1_method_27_code, 4, (some .int), 8, 843),
  (yX3_chance, prog_5_method_2_code, 10, none, 3, 847),
  (yX3_choices, prog_5_method_3_code, 5, (some .long), 3, 850),
  (yX3_power, prog_5_method_4_code, 5, (some .long), 3, 853),
  (yX3_commonPart, prog_5_method_5_code, 7, (some .long), 3, 856),
  (yX8_sieges, prog_1_method_28_code, 3, (some .int), 8, 860),
  (yX1_openAfter, prog_3_method_24_code, 7, (some .int), 1, 865),
  (yX2_openOf, prog_4_method_5_code, 4, (some .int), 2, 876),
  (yX8_part, prog_1_method_29_code, 2, (some .long), 8, 881),
  (yX8_image, prog_1_method_30_code, 2, (some .int), 8, 885),
  (yX8_isImage, prog_1_method_42_code, 1, (some .boolean), 8, 888),
  (yX8_from, prog_1_method_31_code, 2, (some .int), 8, 892),
  (yX8_status, prog_1_method_32_code, 2, (some .int), 8, 896),
  (yX8_count, prog_1_method_33_code, 2, (some .int), 8, 900),
  (yX8_digest, prog_1_method_34_code, 4, (some .long), 8, 905),
  (yX8_mix, prog_1_method_46_code, 4, (some .long), 8, 910),
  (yX7_mixStreets, prog_9_method_13_code, 4, (some .long), 7, 915),
  (yX7_mixLanes, prog_9_method_14_code, 5, (some .long), 7, 920),
  (yX8_mixAll, prog_1_method_47_code, 4, (some .long), 8, 924),
  (yX7_mixDishes, prog_9_method_15_code, 4, (some .long), 7, 928),
  (yX5_mixNotes, prog_7_method_8_code, 4, (some .long), 5, 932),
  (yX9_init, prog_11_method_1_code, 1, none, 9, 938),
  (yX9_first, prog_11_method_9_code, 2, none, 9, 942),
  (yX9_town, prog_11_method_13_code, 2, (some .int), 9, 1008),
  (yX9_street, prog_11_method_14_code, 4, (some .int), 9, 1012),
  (yX9_in, prog_11_method_2_code, 6, (some .boolean), 9, 1016),
  (yX9_bad, prog_11_method_5_code, 1, (some .int), 9, 1021),
  (yX9_full, prog_11_method_8_code, 1, (some .int), 9, 1025),
  (yX9_addStreet, prog_11_method_10_code, 5, none, 9, 1028),
  (yX9_lane, prog_11_method_17_code, 3, (some .int), 9, 1032),
  (yX9_isStreet, prog_11_method_15_code, 2, (some .boolean), 9, 1036),
  (yX9_no, prog_11_method_7_code, 1, (some .int), 9, 1040),
  (yX9_addLane, prog_11_method_12_code, 3, none, 9, 1043),
  (yX9_gate, prog_11_method_18_code, 4, (some .int), 9, 1047),
  (yX9_wind, prog_11_method_19_code, 4, (some .int), 9, 1052),
  (yX9_dish, prog_11_method_20_code, 4, (some .int), 9, 1056),
  (yX9_addDish, prog_11_method_11_code, 5, none, 9, 1060),
  (yX9_type, prog_11_method_21_code, 2, (some .int), 9, 1064),
  (yX9_clear, prog_11_method_22_code, 2, (some .int), 9, 1069),
  (yX9_read, prog_11_method_32_code, 5, (some .int), 9, 1073),
  (yX9_word, prog_11_method_29_code, 7, (some .int), 9, 1077),
  (yX9_skip, prog_11_method_24_code, 1, none, 9, 1081),
  (yX9_byteAt, prog_11_method_23_code, 2, (some .int), 9, 1085),
  (yX9_letterOf, prog_11_method_28_code, 8, (some .int), 9, 1090),
  (yX9_fails, prog_11_method_25_code, 2, (some .boolean), 9, 1101),
  (yX9_item, prog_11_method_31_code, 2, (some .boolean), 9, 1105),
  (yX9_ends, prog_11_method_27_code, 1, (some .boolean), 9, 1109),
  (yX9_number, prog_11_method_26_code, 7, (some .boolean), 9, 1113),
  (yX9_laneItem, prog_11_method_30_code, 2, (some .boolean), 9, 1120),
  (yX9_day, prog_11_method_40_code, 3, (some .int), 9, 1124),
  (yX9_isDish, prog_11_method_16_code, 2, (some .boolean), 9, 1128),
  (yX9_past, prog_11_method_39_code, 6, none, 9, 1131),
  (yX9_goDay, prog_11_method_38_code, 6, (some .int), 9, 1135),
  (yX9_opening, prog_11_method_37_code, 7, (some .int), 9, 1139),
  (yX9_windOf, prog_11_method_34_code, 2, (some .int), 9, 1143),
  (yX9_spread, prog_11_method_33_code, 11, none, 9, 1147),
  (yX9_movedIn, prog_11_method_36_code, 6, (some .int), 9, 1151),
  (yX9_movedBy, prog_11_method_35_code, 9, (some .int), 9, 1154),
  (yX9_has, prog_11_method_3_code, 2, (some .boolean), 9, 1157),
  (yX9_undo, prog_11_method_41_code, 1, (some .int), 9, 1161),
  (yX9_of, prog_11_method_42_code, 3, (some .int), 9, 1165),
  (yX9_bad10, prog_11_method_6_code, 1, (some .int), 9, 1169),
  (yX9_smells, prog_11_method_43_code, 4, (some .int), 9, 1173),
  (yX9_moved, prog_11_method_44_code, 3, (some .int), 9, 1177),
  (yX9_falls, prog_11_method_45_code, 4, (some .int), 9, 1181),
  (yX9_order, prog_11_method_48_code, 9, (some .int), 9, 1185),
  (yX9_butterOf, prog_11_method_47_code, 8, (some .int), 9, 1189),
  (yX9_dishIn, prog_11_method_46_code, 6, (some .int), 9, 1193),
  (yX9_bits, prog_11_method_4_code, 3, (some .int), 9, 1196),
  (yX9_never, prog_11_method_51_code, 5, (some .int), 9, 1200),
  (yX9_opensIn, prog_11_method_50_code, 6, (some .boolean), 9, 1204),
  (yX9_opensOn, prog_11_method_49_code, 4, (some .boolean), 9, 1208),
  (yX9_least, prog_11_method_52_code, 8, (some .int), 9, 1212),
  (yX9_answer, prog_11_method_53_code, 8, (some .int), 9, 1216),
  (yX9_game, prog_11_method_54_code, 7, (some .int), 9, 1220),
  (yX9_note, prog_11_method_55_code, 7, (some .int), 9, 1224),
  (yX9_forget, prog_11_method_56_code, 2, (some .int), 9, 1230),
  (yX9_craved, prog_11_method_58_code, 2, (some .int), 9, 1234),
  (yX9_cravings, prog_11_method_57_code, 8, (some .int), 9, 1238),
  (yX9_is, prog_11_method_59_code, 4, (some .int), 9, 1242),
  (yX9_tryNext, prog_11_method_60_code, 11, (some .int), 9, 1246),
  (yX9_rain, prog_11_method_61_code, 11, (some .int), 9, 1250),
  (yX9_sieges, prog_11_method_63_code, 6, (some .int), 9, 1256),
  (yX9_openMany, prog_11_method_62_code, 3, (some .int), 9, 1266),
  (yX9_part, prog_11_method_64_code, 2, (some .long), 9, 1270),
  (yX9_image, prog_11_method_65_code, 3, (some .int), 9, 1274),
  (yX9_from, prog_11_method_66_code, 3, (some .int), 9, 1278),
  (yX9_status, prog_11_method_67_code, 2, (some .int), 9, 1282),
  (yX9_count, prog_11_method_69_code, 2, (some .int), 9, 1286),
  (yX9_countOf, prog_11_method_68_code, 2, (some .int), 9, 1291),
  (yX9_digest, prog_11_method_70_code, 4, (some .long), 9, 1295)]
def am_m (k : Nat) : am_M := am_ms.getD k (⟨"", "", ""⟩, ⟨#[]⟩, 0, none, 0, 0)
def am_y (k : Nat) : MethodName := (am_m k).1
def am_code (k : Nat) : ByteArray := (am_m k).2.1
def am_mx (k : Nat) : Nat := (am_m k).2.2.1
def am_rt (k : Nat) : Option FieldType := (am_m k).2.2.2.1
def am_kl (k : Nat) : Nat := (am_m k).2.2.2.2.1
def am_N : Nat := 203
/-- the classes by number: name, the place of its word initialized -/
def am_cs : List (String × Nat) := [(RX0, 63), (RX1, 62), (RX2, 61), (RX3, 65), (RX4, 73), (RX5, 60), (RX6, 64), (RX7, 59), (RX8, 58), (RX9, 66), ("java/lang/Integer", 74), ("java/lang/Math", 72)]
def am_R (c : Nat) : String := (am_cs.getD c ("", 0)).1
/-- calls: class, entry, kind (0 static, 1 virtual, 2 <init>, 3 <init> of a nest mate, 4 static of a nest mate), method, arguments, places of the words -/
abbrev am_I : Type := Nat × Nat × Nat × Nat × Nat × Nat × Nat × Nat
def am_is : List am_I := [
  (0, 18, 1, 57, 5, 610, 611, 612),
  (0, 22, 1, 53, 0, 614, 596, 597),
  (0, 34, 4, 12, 3, 615, 372, 0),
  (0, 44, 0, 58, 2, 616, 617, 0),
  (0, 50, 1, 59, 1, 619, 621, 17),
  (0, 57, 4, 19, 2, 623, 399, 0),
  (1, 17, 3, 7, 0, 234, 235, 0),
  (1, 24, 3, 3, 0, 247, 120, 0),
  (1, 45, 1, 53, 0, 595, 596, 597),
  (1, 52, 1, 54, 1, 599, 600, 601),
  (1, 58, 1, 56, 3, 606, 607, 608),
  (1, 65, 1, 60, 2, 624, 626, 18),
  (1, 72, 4, 19, 2, 647, 399, 0),
  (1, 82, 1, 66, 3, 648, 649, 650),
  (1, 86, 1, 61, 1, 628, 629, 630),
  (1, 90, 1, 62, 3, 632, 634, 19),
  (1, 94, 1, 63, 2, 636, 637, 638),
  (1, 97, 1, 64, 5, 640, 641, 642),
  (1, 104, 1, 77, 2, 693, 695, 21),
  (1, 114, 1, 80, 3, 705, 707, 22),
  (1, 118, 1, 81, 2, 709, 711, 23),
  (1, 121, 1, 82, 2, 713, 715, 24),
  (1, 139, 1, 85, 0, 726, 727, 728),
  (1, 143, 1, 86, 2, 731, 733, 25),
  (1, 146, 1, 87, 2, 735, 737, 26),
  (1, 149, 1, 90, 1, 747, 749, 27),
  (1, 152, 1, 91, 1, 751, 753, 28),
  (1, 155, 0, 92, 1, 755, 756, 0),
  (1, 160, 1, 57, 5, 773, 611, 612),
  (1, 164, 1, 95, 3, 769, 770, 771),
  (1, 168, 0, 98, 2, 783, 784, 0),
  (1, 171, 1, 99, 2, 786, 788, 29),
  (1, 174, 1, 48, 1, 866, 574, 575),
  (1, 188, 1, 52, 2, 872, 592, 593),
  (1, 191, 1, 119, 1, 873, 874, 875),
  (2, 31, 1, 61, 1, 877, 629, 630),
  (2, 35, 1, 63, 2, 652, 637, 638),
  (3, 16, 0, 114, 2, 848, 849, 0),
  (3, 20, 0, 115, 2, 851, 852, 0),
  (3, 23, 0, 116, 2, 854, 855, 0),
  (4, 11, 0, 65, 6, 820, 645, 0),
  (5, 37, 1, 106, 3, 813, 815, 30),
  (5, 41, 0, 107, 5, 817, 818, 0),
  (5, 47, 1, 105, 2, 833, 810, 811),
  (5, 51, 0, 111, 5, 834, 835, 0),
  (5, 55, 0, 92, 1, 838, 756, 0),
  (5, 61, 0, 58, 2, 839, 617, 0),
  (5, 66, 4, 19, 2, 837, 399, 0),
  (5, 70, 4, 127, 2, 933, 909, 0),
  (6, 11, 2, 1, 0, 285, 86, 0),
  (6, 26, 1, 4, 0, 448, 149, 150),
  (6, 38, 1, 32, 0, 449, 451, 4),
  (6, 47, 1, 35, 0, 459, 461, 5),
  (6, 50, 1, 36, 0, 463, 465, 6),
  (6, 54, 1, 38, 1, 525, 527, 8),
  (6, 58, 1, 39, 0, 529, 531, 9),
  (6, 61, 1, 42, 0, 543, 545, 12),
  (6, 64, 1, 43, 0, 548, 550, 13),
  (6, 67, 1, 44, 0, 552, 554, 14),
  (6, 70, 1, 45, 0, 556, 558, 15),
  (6, 73, 1, 41, 0, 538, 540, 11),
  (6, 83, 1, 40, 2, 533, 535, 10),
  (6, 87, 1, 15, 3, 542, 383, 384),
  (6, 91, 1, 21, 2, 547, 406, 407),
  (6, 101, 1, 26, 3, 560, 425, 426),
  (6, 107, 4, 12, 3, 537, 372, 0),
  (6, 111, 0, 33, 1, 453, 454, 0),
  (6, 114, 0, 34, 1, 456, 457, 0),
  (6, 119, 1, 37, 1, 468, 470, 7),
  (7, 41, 3, 2, 0, 91, 92, 0),
  (7, 48, 3, 3, 0, 119, 120, 0),
  (7, 57, 1, 4, 0, 148, 149, 150),
  (7, 73, 1, 5, 0, 152, 153, 154),
  (7, 80, 1, 47, 1, 568, 569, 570),
  (7, 84, 1, 48, 1, 573, 574, 575),
  (7, 87, 4, 19, 2, 398, 399, 0),
  (7, 91, 0, 55, 2, 603, 604, 0),
  (7, 97, 0, 65, 6, 644, 645, 0),
  (7, 103, 1, 61, 1, 730, 629, 630),
  (7, 107, 4, 127, 2, 916, 909, 0),
  (7, 120, 1, 18, 2, 921, 395, 396),
  (8, 9, 2, 1, 0, 85, 86, 0),
  (8, 18, 2, 6, 1, 228, 229, 0),
  (8, 27, 3, 8, 0, 280, 281, 0),
  (8, 34, 3, 9, 0, 319, 320, 0),
  (8, 51, 1, 4, 0, 366, 149, 150),
  (8, 54, 0, 12, 3, 371, 372, 0),
  (8, 58, 1, 13, 0, 374, 376, 0),
  (8, 62, 1, 14, 0, 378, 380, 1),
  (8, 65, 1, 15, 3, 382, 383, 384),
  (8, 69, 1, 17, 1, 390, 392, 2),
  (8, 73, 1, 18, 2, 394, 395, 396),
  (8, 77, 1, 20, 0, 401, 403, 3),
  (8, 80, 1, 21, 2, 405, 406, 407),
  (8, 84, 0, 23, 1, 413, 414, 0),
  (8, 97, 1, 26, 3, 424, 425, 426),
  (8, 103, 1, 28, 1, 432, 433, 434),
  (8, 107, 1, 31, 0, 444, 445, 446),
  (8, 113, 1, 46, 1, 561, 562, 563),
  (8, 119, 1, 50, 1, 583, 585, 16),
  (8, 122, 1, 51, 0, 587, 588, 589),
  (8, 129, 1, 52, 2, 591, 592, 593),
  (8, 136, 1, 68, 0, 657, 658, 659),
  (8, 144, 1, 70, 0, 665, 667, 20),
  (8, 165, 1, 72, 3, 673, 674, 675),
  (8, 168, 1, 74, 2, 681, 682, 683),
  (8, 172, 1, 76, 2, 689, 690, 691),
  (8, 175, 1, 79, 1, 701, 702, 703),
  (8, 184, 1, 84, 0, 722, 723, 724),
  (8, 187, 1, 89, 0, 743, 744, 745),
  (8, 190, 1, 94, 2, 765, 766, 767),
  (8, 193, 1, 95, 3, 774, 770, 771),
  (8, 196, 1, 97, 1, 779, 780, 781),
  (8, 199, 0, 101, 2, 794, 795, 0),
  (8, 211, 1, 102, 5, 797, 798, 799),
  (8, 215, 1, 105, 2, 809, 810, 811),
  (8, 218, 1, 110, 4, 829, 830, 831),
  (8, 222, 1, 113, 3, 844, 845, 846),
  (8, 227, 1, 118, 2, 862, 863, 864),
  (8, 237, 0, 122, 1, 886, 887, 0),
  (8, 249, 1, 119, 1, 901, 874, 875),
  (8, 254, 1, 125, 1, 907, 898, 899),
  (8, 257, 0, 127, 2, 908, 909, 0),
  (8, 261, 1, 128, 1, 912, 913, 914),
  (8, 265, 1, 129, 1, 917, 918, 919),
  (8, 268, 0, 130, 2, 922, 923, 0),
  (8, 272, 1, 131, 1, 925, 926, 927),
  (8, 275, 1, 132, 1, 929, 930, 931),
  (9, 51, 0, 134, 1, 940, 941, 0),
  (9, 67, 0, 137, 3, 1014, 1015, 0),
  (9, 73, 1, 138, 0, 1018, 1020, 31),
  (9, 77, 1, 139, 0, 1022, 1024, 32),
  (9, 80, 0, 140, 4, 1026, 1027, 0),
  (9, 84, 1, 142, 1, 1033, 1035, 33),
  (9, 88, 1, 143, 0, 1037, 1039, 34),
  (9, 91, 0, 144, 3, 1041, 1042, 0),
  (9, 99, 0, 148, 4, 1058, 1059, 0),
  (9, 110, 1, 154, 1, 1082, 1084, 37),
  (9, 117, 1, 153, 0, 1078, 1080, 36),
  (9, 126, 1, 156, 1, 1098, 1100, 38),
  (9, 147, 0, 155, 2, 1088, 1089, 0),
  (9, 151, 1, 159, 3, 1110, 1112, 41),
  (9, 155, 1, 158, 0, 1106, 1108, 40),
  (9, 159, 1, 160, 0, 1117, 1119, 42),
  (9, 162, 1, 152, 0, 1074, 1076, 35),
  (9, 165, 1, 157, 1, 1102, 1104, 39),
  (9, 168, 0, 169, 6, 1152, 1153, 0),
  (9, 172, 1, 162, 1, 1125, 1127, 43),
  (9, 175, 1, 166, 1, 1140, 1142, 46),
  (9, 178, 1, 167, 4, 1144, 1146, 47),
  (9, 182, 1, 168, 4, 1148, 1150, 48),
  (9, 186, 1, 165, 3, 1136, 1138, 45),
  (9, 190, 0, 170, 2, 1155, 1156, 0),
  (9, 194, 0, 163, 4, 1129, 1130, 0),
  (9, 198, 1, 164, 1, 1132, 1134, 44),
  (9, 201, 1, 173, 0, 1166, 1168, 49),
  (9, 204, 1, 179, 3, 1190, 1192, 51),
  (9, 207, 0, 180, 1, 1194, 1195, 0),
  (9, 210, 1, 178, 3, 1186, 1188, 50),
  (9, 213, 1, 183, 3, 1205, 1207, 53),
  (9, 216, 1, 182, 3, 1201, 1203, 52),
  (9, 223, 1, 190, 2, 1235, 1237, 54),
  (9, 245, 1, 195, 0, 1263, 1265, 55),
  (9, 250, 1, 201, 1, 1288, 1290, 56)]
/-- fields: class, entry, kind of object, place, sort (0 int, 1 long, 2 reference), final, place of the word -/
abbrev am_F : Type := Nat × Nat × Nat × Nat × Nat × Nat × Nat
def am_fs : List am_F := [
  (0, 9, 0, 0, 2, 1, 238),
  (0, 15, 0, 1, 2, 1, 240),
  (0, 25, 6, 5, 2, 1, 171),
  (0, 30, 6, 0, 0, 0, 159),
  (0, 38, 6, 2, 2, 1, 164),
  (0, 41, 6, 9, 2, 1, 184),
  (0, 54, 6, 4, 2, 1, 169),
  (1, 9, 1, 0, 2, 1, 248),
  (1, 18, 1, 3, 2, 1, 253),
  (1, 25, 1, 4, 2, 1, 254),
  (1, 29, 1, 5, 2, 1, 255),
  (1, 32, 1, 6, 2, 1, 256),
  (1, 35, 1, 7, 2, 1, 257),
  (1, 38, 1, 8, 2, 1, 258),
  (1, 41, 1, 2, 2, 1, 252),
  (1, 48, 2, 0, 0, 0, 124),
  (1, 62, 6, 8, 2, 1, 182),
  (1, 69, 6, 0, 0, 0, 158),
  (1, 76, 2, 1, 2, 1, 127),
  (1, 79, 0, 0, 2, 1, 239),
  (1, 101, 6, 12, 2, 1, 190),
  (1, 108, 1, 1, 0, 0, 250),
  (1, 111, 6, 7, 0, 0, 180),
  (1, 124, 6, 10, 2, 1, 186),
  (1, 133, 2, 2, 2, 1, 131),
  (1, 136, 2, 3, 2, 1, 135),
  (2, 9, 2, 1, 2, 1, 126),
  (2, 15, 2, 2, 2, 1, 130),
  (2, 18, 2, 3, 2, 1, 134),
  (2, 21, 2, 0, 0, 0, 123),
  (3, 7, 3, 0, 1, 0, 323),
  (3, 13, 3, 1, 1, 0, 325),
  (5, 9, 4, 1, 2, 1, 98),
  (5, 15, 4, 2, 2, 1, 99),
  (5, 18, 4, 3, 2, 1, 100),
  (5, 21, 4, 4, 2, 1, 101),
  (5, 24, 4, 5, 2, 1, 102),
  (5, 27, 4, 0, 0, 0, 95),
  (6, 12, 5, 2, 2, 1, 290),
  (6, 18, 5, 3, 2, 1, 292),
  (6, 22, 5, 0, 0, 0, 286),
  (6, 29, 5, 1, 0, 0, 288),
  (6, 32, 5, 5, 0, 0, 294),
  (6, 35, 5, 4, 0, 0, 293),
  (6, 41, 5, 7, 0, 0, 296),
  (6, 44, 5, 6, 0, 0, 295),
  (6, 77, 6, 0, 0, 0, 160),
  (6, 80, 6, 7, 0, 0, 178),
  (6, 95, 6, 5, 2, 1, 173),
  (6, 98, 6, 6, 2, 1, 176),
  (6, 104, 5, 8, 0, 0, 297),
  (7, 9, 6, 1, 2, 1, 161),
  (7, 15, 6, 2, 2, 1, 163),
  (7, 18, 6, 3, 2, 1, 166),
  (7, 21, 6, 4, 2, 1, 168),
  (7, 24, 6, 5, 2, 1, 170),
  (7, 27, 6, 6, 2, 1, 174),
  (7, 30, 6, 8, 2, 1, 181),
  (7, 33, 6, 9, 2, 1, 183),
  (7, 36, 6, 10, 2, 1, 185),
  (7, 42, 6, 11, 2, 1, 187),
  (7, 49, 6, 12, 2, 1, 189),
  (7, 53, 6, 13, 2, 1, 192),
  (7, 60, 6, 0, 0, 0, 156),
  (7, 64, 6, 7, 0, 0, 177),
  (7, 67, 4, 0, 0, 0, 96),
  (7, 70, 6, 14, 0, 0, 193),
  (7, 111, 2, 1, 2, 1, 128),
  (7, 114, 2, 2, 2, 1, 132),
  (7, 117, 2, 3, 2, 1, 136),
  (8, 10, 7, 0, 2, 1, 333),
  (8, 21, 7, 1, 2, 1, 334),
  (8, 28, 7, 2, 2, 1, 335),
  (8, 35, 7, 3, 2, 1, 336),
  (8, 39, 7, 4, 2, 1, 337),
  (8, 43, 7, 5, 2, 1, 338),
  (8, 47, 6, 0, 0, 0, 157),
  (8, 87, 6, 5, 2, 1, 172),
  (8, 91, 6, 6, 2, 1, 175),
  (8, 94, 6, 7, 0, 0, 179),
  (8, 100, 5, 0, 0, 0, 287),
  (8, 110, 5, 2, 2, 1, 291),
  (8, 116, 5, 1, 0, 0, 289),
  (8, 125, 6, 12, 2, 1, 191),
  (8, 133, 6, 14, 0, 0, 194),
  (8, 139, 2, 0, 0, 0, 125),
  (8, 147, 6, 1, 2, 1, 162),
  (8, 150, 6, 2, 2, 1, 165),
  (8, 153, 6, 3, 2, 1, 167),
  (8, 156, 2, 1, 2, 1, 129),
  (8, 159, 2, 2, 2, 1, 133),
  (8, 162, 2, 3, 2, 1, 137),
  (8, 178, 1, 1, 0, 0, 251),
  (8, 181, 1, 0, 2, 1, 249),
  (8, 202, 6, 11, 2, 1, 188),
  (8, 206, 4, 0, 0, 0, 97),
  (8, 230, 3, 0, 1, 0, 324),
  (8, 234, 3, 1, 1, 0, 326),
  (8, 240, 7, 6, 0, 0, 339),
  (8, 243, 7, 7, 0, 0, 340),
  (8, 246, 7, 8, 0, 0, 341),
  (9, 7, 8, 0, 2, 1, 943),
  (9, 13, 8, 1, 2, 1, 944),
  (9, 16, 8, 2, 2, 1, 945),
  (9, 19, 8, 3, 2, 1, 946),
  (9, 22, 8, 4, 2, 1, 947),
  (9, 25, 8, 13, 2, 1, 956),
  (9, 28, 8, 14, 2, 1, 957),
  (9, 31, 8, 15, 2, 1, 958),
  (9, 34, 8, 16, 2, 1, 959),
  (9, 37, 8, 17, 2, 1, 960),
  (9, 40, 8, 18, 2, 1, 961),
  (9, 43, 8, 19, 2, 1, 962),
  (9, 47, 8, 7, 1, 0, 950),
  (9, 55, 8, 8, 0, 0, 951),
  (9, 59, 8, 9, 0, 0, 952),
  (9, 62, 8, 10, 0, 0, 953),
  (9, 104, 8, 5, 0, 0, 948),
  (9, 107, 8, 11, 0, 0, 954),
  (9, 114, 8, 12, 0, 0, 955),
  (9, 230, 8, 6, 1, 0, 949)]
/-- kinds of objects: the class number, name, fields, how many, types, the places of their words, the place of instantiable -/
abbrev am_K : Type := Nat × String × u_T × Nat × (Nat → FieldType) × List Nat × Nat
def am_ks : List am_K := [
  (0, RX0, TX0, 2, tyX0, [241, 243], 233),
  (1, RX1, TX1, 9, tyX1, [259, 261, 263, 265, 267, 269, 271, 273, 275], 227),
  (2, RX2, TX2, 4, tyX2, [138, 140, 142, 144], 118),
  (3, RX3, TX3, 2, tyX3, [327, 329], 318),
  (5, RX5, TX5, 6, tyX5, [103, 105, 107, 109, 111, 113], 90),
  (6, RX6, TX6, 9, tyX6, [298, 300, 302, 304, 306, 308, 310, 312, 314], 279),
  (7, RX7, TX7, 15, tyX7, [195, 197, 199, 201, 203, 205, 207, 209, 211, 213, 215, 217, 219, 221, 223], 84),
  (8, RX8, TX8, 9, tyX8, [342, 344, 346, 348, 350, 352, 354, 356, 358], 76),
  (9, RX9, TX9, 20, tyX9, [963, 965, 967, 969, 971, 973, 975, 977, 979, 981, 983, 985, 987, 989, 991, 993, 995, 997, 999, 1001], 935)]
/-- classes named: class, entry, kind of object, place of the word -/
def am_ns : List (Nat × Nat × Nat × Nat) := [(1, 15, 0, 232), (1, 22, 2, 246), (6, 9, 6, 284), (7, 39, 4, 89), (7, 46, 2, 117), (8, 7, 6, 83), (8, 16, 1, 226), (8, 25, 5, 278), (8, 32, 3, 317)]
def am_ci : List (Nat × Nat × Int32 × Nat) := [(10, 265, 1431655765, 758), (10, 266, 858993459, 759), (10, 267, 252645135, 760), (8, 226, 999999, 861)]
def am_cl : List (Nat × Nat × Int64 × Nat) := [(1, 178, 1103515245, 867), (1, 180, 12345, 868), (1, 182, 2147483648, 869), (1, 184, 65536, 870), (1, 186, 7, 871), (8, 252, 1069, 906), (8, 278, 31, 911), (9, 65, 5, 1013), (9, 71, 9, 1017), (9, 95, 3, 1048), (9, 97, 30, 1057), (9, 102, 127, 1065), (9, 143, 97, 1086), (9, 145, 122, 1087), (9, 129, 20152314, 1091), (9, 131, 192018050520, 1092), (9, 133, 12011405, 1093), (9, 135, 7012005, 1094), (9, 137, 23091404, 1095), (9, 139, 4091908, 1096), (9, 141, 100, 1097), (9, 120, 48, 1114), (9, 122, 57, 1115), (9, 124, 2, 1116), (9, 219, 60, 1225), (9, 221, 99, 1226), (9, 226, 10, 1251), (9, 228, 8, 1252), (9, 233, 999999, 1257), (9, 235, 1103515245, 1258), (9, 237, 12345, 1259), (9, 239, 2147483648, 1260), (9, 241, 65536, 1261), (9, 243, 7, 1262), (9, 248, 6, 1287), (9, 253, 1069, 1296), (9, 255, 31, 1297)]
def am_ct : List (Nat × Nat × Nat × String × Nat) := [(6, 117, 0, "town", 467), (6, 123, 1, "street", 520), (6, 125, 2, "lane", 521), (6, 127, 3, "gate", 522), (6, 129, 4, "wind", 523), (6, 131, 5, "dish", 524)]
def am_ac : List (Nat × Nat × Nat) := [(7, 74, 565), (5, 31, 572), (2, 25, 577), (1, 127, 717)]
def am_oi : List (Nat × Nat × Nat) := [(8, 1, 80), (7, 3, 88), (5, 3, 94), (2, 3, 122), (1, 3, 231), (0, 3, 237), (6, 3, 283), (3, 1, 322), (9, 1, 939)]
def am_ex : List (Nat × Nat × Nat × Nat) := [(6, 133, 0, 472), (6, 137, 1, 482)]
def am_pcopy : Nat × Nat × Nat := (567, 566, 71)
def am_pobj : Nat × Nat := (81, 82)
def am_parr : List Nat := [116, 1004, 361]
def am_povr : List Nat := [147, 332] -- ['Jvm.ClassFile.FieldType.object "KitchenSiege$Days"', 'Jvm.ClassFile.FieldType.object "KitchenSiege$Town"']
/-! what the tables' words say of the tables above: by the kernel -/
def am_lk {α : Type} : List (Nat × Nat × α) → Nat → Nat → Option α
  | [], _, _ => none
  | (a, b, x) :: t, c, i => if a = c ∧ b = i then some x else am_lk t c i
theorem am_lk_mem {α : Type} {c i : Nat} {x : α} : ∀ {l : List (Nat × Nat × α)}, am_lk l c i = some x → (c, i, x) ∈ l
  | [], h => by cases h
  | (a, b, y) :: t, h => by
    unfold am_lk at h
    split at h
    next e => obtain ⟨rfl, rfl⟩ := e; cases h; exact List.mem_cons_self
    next => exact List.mem_cons_of_mem _ (am_lk_mem h)
def am_wd (p : Nat) : Option Cond := lw_tbl[p]?
def am_ini (c : Nat) : Nat := (am_cs.getD c ("", 0)).2
def am_okM (k : Nat) : Bool :=
  decide ((am_y k).cls = am_R (am_kl k)) && decide (am_wd (am_ini (am_kl k)) = some (.initialized (am_R (am_kl k)))) && (plainName (am_y k).cls || decide (k = 55 ∨ k = 58))
    && decide ((am_y k).cls ≠ "java/lang/invoke/MethodHandle") && decide ((am_y k).cls ≠ "java/lang/invoke/VarHandle") && decide (am_rt k = none ∨ am_rt k = some .int ∨ am_rt k = some .long ∨ am_rt k = some .boolean) && decide (am_mx k ≤ 16) && decide (0 < am_mx k)
theorem am_okM_all : (List.range am_N).all am_okM = true := by decide +kernel
theorem am_pF : (NativeRow.find? natives "java/lang/Math" "floorMod" "(II)I").isNone = true := by decide +kernel
theorem am_pX : (NativeRow.find? natives "java/lang/Math" "max" "(II)I").isNone = true := by decide +kernel
theorem am_pl {k : Nat} (h : (plainName (am_y k).cls || decide (k = 55 ∨ k = 58)) = true) : plainFor (am_y k) = true := by
  rcases Bool.or_eq_true _ _ |>.mp h with h | h
  · exact plainFor_of_name h
  · rcases of_decide_eq_true h with rfl | rfl
    · have e : am_y 55 = ⟨"java/lang/Math", "floorMod", "(II)I"⟩ := by decide +kernel
      rw [e]; unfold plainFor; rw [Bool.or_eq_true]; exact Or.inr am_pF
    · have e : am_y 58 = ⟨"java/lang/Math", "max", "(II)I"⟩ := by decide +kernel
      rw [e]; unfold plainFor; rw [Bool.or_eq_true]; exact Or.inr am_pX
def am_okI (q : am_I) : Bool :=
  (if q.2.2.1 < 3 then decide (am_wd q.2.2.2.2.2.1 = some (.methodLink (am_R q.1) q.2.1 (am_y q.2.2.2.1))) else decide (am_wd q.2.2.2.2.2.1 = some (.methodLinkNest (am_R q.1) q.2.1 (am_y q.2.2.2.1) RX8)))
    && (if q.2.2.1 = 0 ∨ q.2.2.1 = 4 then decide (am_wd q.2.2.2.2.2.2.1 = some (.static (am_y q.2.2.2.1))) else decide (am_wd q.2.2.2.2.2.2.1 = some (.instanceMethod (am_y q.2.2.2.1))))
    && (if q.2.2.1 = 1 then decide (am_wd q.2.2.2.2.2.2.2 = some (.selects (am_y q.2.2.2.1).cls (am_y q.2.2.2.1) (am_y q.2.2.2.1))) else true)
    && (if q.2.2.1 = 2 ∨ q.2.2.1 = 3 then decide ((am_y q.2.2.2.1).name = "<init>") && decide (am_rt q.2.2.2.1 = none) else true)
    && decide (q.2.2.2.1 < am_N) && decide ((parseMethodDescriptor (am_y q.2.2.2.1).desc).map (fun d => d.parameters.length) = some q.2.2.2.2.1) && decide (q.2.2.1 ≤ 4)
theorem am_okI_all : am_is.all am_okI = true := by decide +kernel
abbrev am_K0 : am_K := (0, "", fun _ => ("", "", "", false), 0, fun _ => .int, [], 0)
def am_k (t : Nat) : am_K := am_ks.getD t am_K0
def am_okF (q : am_F) : Bool :=
  decide (q.2.2.2.1 < (am_k q.2.2.1).2.2.2.1) && decide (((am_k q.2.2.1).2.2.1 q.2.2.2.1).1 = (am_k q.2.2.1).2.1) && decide (am_wd q.2.2.2.2.2.2 = some (.fieldLink (am_R q.1) q.2.1 (am_k q.2.2.1).2.1 ((am_k q.2.2.1).2.2.1 q.2.2.2.1).2.1 ((am_k q.2.2.1).2.2.1 q.2.2.2.1).2.2.1)) && decide (((am_k q.2.2.1).2.2.1 q.2.2.2.1).2.2.2 = decide (q.2.2.2.2.2.1 = 1))
    && (if q.2.2.2.2.1 = 0 then decide (parseFieldDescriptor ((am_k q.2.2.1).2.2.1 q.2.2.2.1).2.2.1 = some .int) else if q.2.2.2.2.1 = 1 then decide (parseFieldDescriptor ((am_k q.2.2.1).2.2.1 q.2.2.2.1).2.2.1 = some .long) else match parseFieldDescriptor ((am_k q.2.2.1).2.2.1 q.2.2.2.1).2.2.1 with
        | some (.object _) => true
        | some (.array _) => true
        | _ => false) && decide (q.2.2.1 < 9)
theorem am_okF_all : am_fs.all am_okF = true := by decide +kernel
def am_okK (t : Nat) : Bool :=
  decide ((am_k t).2.1 = am_R (am_k t).1) && decide ((am_k t).2.2.2.1 ≤ (am_k t).2.2.2.2.2.1.length) && (List.range (am_k t).2.2.2.1).all (fun j => decide (am_wd ((am_k t).2.2.2.2.2.1.getD j 0) = some (u_lay (am_k t).2.1 (am_k t).2.2.1 j))) && decide (am_wd (am_k t).2.2.2.2.2.2 = some (.instantiable (am_k t).2.1 (am_k t).2.2.2.1)) && decide (am_wd (am_ini (am_k t).1) = some (.initialized (am_k t).2.1)) && decide (t < 9)
theorem am_okK_all : (List.range 9).all am_okK = true := by decide +kernel
theorem am_ks_cl : ∀ t, t < 9 → vwCl[t]? = some ((am_k t).2.1, (am_k t).2.2.1, (am_k t).2.2.2.1) := by
  intro t h
  match t, h with
  | 0, _ => rfl
  | 1, _ => rfl
  | 2, _ => rfl
  | 3, _ => rfl
  | 4, _ => rfl
  | 5, _ => rfl
  | 6, _ => rfl
  | 7, _ => rfl
  | 8, _ => rfl
theorem am_ks_ty : ∀ t, t < 9 → ∀ j, j < (am_k t).2.2.2.1 → parseFieldDescriptor ((am_k t).2.2.1 j).2.2.1 = some ((am_k t).2.2.2.2.1 j) := by
  intro t h
  match t, h with
  | 0, _ => exact tyX0_ok
  | 1, _ => exact tyX1_ok
  | 2, _ => exact tyX2_ok
  | 3, _ => exact tyX3_ok
  | 4, _ => exact tyX5_ok
  | 5, _ => exact tyX6_ok
  | 6, _ => exact tyX7_ok
  | 7, _ => exact tyX8_ok
  | 8, _ => exact tyX9_ok
theorem am_ks_nm : ∀ t, t < 9 → ∀ a, a < (am_k t).2.2.2.1 → ∀ b, b < (am_k t).2.2.2.1 → a ≠ b → ((am_k t).2.2.1 a).2.1 ≠ ((am_k t).2.2.1 b).2.1 := by
  intro t h
  match t, h with
  | 0, _ => exact nmX0
  | 1, _ => exact nmX1
  | 2, _ => exact nmX2
  | 3, _ => exact nmX3
  | 4, _ => exact nmX5
  | 5, _ => exact nmX6
  | 6, _ => exact nmX7
  | 7, _ => exact nmX8
  | 8, _ => exact nmX9
theorem am_okn_all : (am_ns.all fun q => decide (am_wd q.2.2.2 = some (.classLink (am_R q.1) q.2.1 (am_k q.2.2.1).2.1)) && decide (q.2.2.1 < 9)) = true := by decide +kernel
theorem am_okci_all : (am_ci.all fun q => decide (am_wd q.2.2.2 = some (.constant (am_R q.1) q.2.1 q.2.2.1))) = true := by decide +kernel
theorem am_okcl_all : (am_cl.all fun q => decide (am_wd q.2.2.2 = some (.constantLong (am_R q.1) q.2.1 q.2.2.1))) = true := by decide +kernel
theorem am_okct_all : (am_ct.all fun q => decide (am_wd q.2.2.2.2 = some (.stringRef (am_R q.1) q.2.1 q.2.2.2.1))) = true := by decide +kernel
theorem am_okac_all : (am_ac.all fun q => decide (am_wd q.2.2 = some (.methodLink (am_R q.1) q.2.1 arraycopyName))) = true := by decide +kernel
theorem am_okoi_all : (am_oi.all fun q => decide (am_wd q.2.2 = some (.methodLink (am_R q.1) q.2.1 objectInit))) = true := by decide +kernel
theorem am_okp : am_wd 567 = some (.native arraycopyName) ∧ am_wd 566 = some (.static arraycopyName) ∧ am_wd 71 = some (.initialized "java/lang/System") ∧ am_wd 81 = some (.instanceMethod objectInit) ∧ am_wd 82 = some (.code objectInit ⟨#[0xb1]⟩ 1 none) ∧ am_wd 116 = some (.arrayClass .int) ∧ am_wd 1004 = some (.arrayClass .long) ∧ am_wd 361 = some (.arrayClass .boolean) ∧ am_wd 147 = some (.arrayOver (.object RX2)) ∧ am_wd 332 = some (.arrayOver (.object RX7)) := by decide +kernel
/-- the words that live through a call -/
def am_gw : List Cond := lw_tbl.filter goodWord
theorem am_gw_in {p : Nat} {w : Cond} (h : am_wd p = some w) (hg : goodWord w = true) : w ∈ am_gw := List.mem_filter.mpr ⟨List.mem_of_getElem? h, hg⟩
theorem am_gw_good {ws : List Cond} (h : ∀ w ∈ ws, w ∈ am_gw) : GoodIn am_gw ws := fun w hw => ⟨h w hw, good_of_word (List.mem_filter.mp (h w hw)).2⟩
end
section
/-! each method's code word: by its place -/
set_option maxRecDepth 100000 in
theorem am_c0 : am_wd 79 = some (.code (am_y 0) (am_code 0) (am_mx 0) (am_rt 0)) := rfl
set_option maxRecDepth 100000 in
theorem am_c1 : am_wd 87 = some (.code (am_y 1) (am_code 1) (am_mx 1) (am_rt 1)) := rfl
set_option maxRecDepth 100000 in
theorem am_c2 : am_wd 93 = some (.code (am_y 2) (am_code 2) (am_mx 2) (am_rt 2)) := rfl
set_option maxRecDepth 100000 in
theorem am_c3 : am_wd 121 = some (.code (am_y 3) (am_code 3) (am_mx 3) (am_rt 3)) := rfl
set_option maxRecDepth 100000 in
theorem am_c4 : am_wd 151 = some (.code (am_y 4) (am_code 4) (am_mx 4) (am_rt 4)) := rfl
set_option maxRecDepth 100000 in
theorem am_c5 : am_wd 155 = some (.code (am_y 5) (am_code 5) (am_mx 5) (am_rt 5)) := rfl
set_option maxRecDepth 100000 in
theorem am_c6 : am_wd 230 = some (.code (am_y 6) (am_code 6) (am_mx 6) (am_rt 6)) := rfl
set_option maxRecDepth 100000 in
theorem am_c7 : am_wd 236 = some (.code (am_y 7) (am_code 7) (am_mx 7) (am_rt 7)) := rfl
set_option maxRecDepth 100000 in
theorem am_c8 : am_wd 282 = some (.code (am_y 8) (am_code 8) (am_mx 8) (am_rt 8)) := rfl
set_option maxRecDepth 100000 in
theorem am_c9 : am_wd 321 = some (.code (am_y 9) (am_code 9) (am_mx 9) (am_rt 9)) := rfl
set_option maxRecDepth 100000 in
theorem am_c10 : am_wd 365 = some (.code (am_y 10) (am_code 10) (am_mx 10) (am_rt 10)) := rfl
set_option maxRecDepth 100000 in
theorem am_c11 : am_wd 370 = some (.code (am_y 11) (am_code 11) (am_mx 11) (am_rt 11)) := rfl
set_option maxRecDepth 100000 in
theorem am_c12 : am_wd 373 = some (.code (am_y 12) (am_code 12) (am_mx 12) (am_rt 12)) := rfl
set_option maxRecDepth 100000 in
theorem am_c13 : am_wd 377 = some (.code (am_y 13) (am_code 13) (am_mx 13) (am_rt 13)) := rfl
set_option maxRecDepth 100000 in
theorem am_c14 : am_wd 381 = some (.code (am_y 14) (am_code 14) (am_mx 14) (am_rt 14)) := rfl
set_option maxRecDepth 100000 in
theorem am_c15 : am_wd 385 = some (.code (am_y 15) (am_code 15) (am_mx 15) (am_rt 15)) := rfl
set_option maxRecDepth 100000 in
theorem am_c16 : am_wd 389 = some (.code (am_y 16) (am_code 16) (am_mx 16) (am_rt 16)) := rfl
set_option maxRecDepth 100000 in
theorem am_c17 : am_wd 393 = some (.code (am_y 17) (am_code 17) (am_mx 17) (am_rt 17)) := rfl
set_option maxRecDepth 100000 in
theorem am_c18 : am_wd 397 = some (.code (am_y 18) (am_code 18) (am_mx 18) (am_rt 18)) := rfl
set_option maxRecDepth 100000 in
theorem am_c19 : am_wd 400 = some (.code (am_y 19) (am_code 19) (am_mx 19) (am_rt 19)) := rfl
set_option maxRecDepth 100000 in
theorem am_c20 : am_wd 404 = some (.code (am_y 20) (am_code 20) (am_mx 20) (am_rt 20)) := rfl
set_option maxRecDepth 100000 in
theorem am_c21 : am_wd 408 = some (.code (am_y 21) (am_code 21) (am_mx 21) (am_rt 21)) := rfl
set_option maxRecDepth 100000 in
theorem am_c22 : am_wd 412 = some (.code (am_y 22) (am_code 22) (am_mx 22) (am_rt 22)) := rfl
set_option maxRecDepth 100000 in
theorem am_c23 : am_wd 415 = some (.code (am_y 23) (am_code 23) (am_mx 23) (am_rt 23)) := rfl
set_option maxRecDepth 100000 in
theorem am_c24 : am_wd 419 = some (.code (am_y 24) (am_code 24) (am_mx 24) (am_rt 24)) := rfl
set_option maxRecDepth 100000 in
theorem am_c25 : am_wd 423 = some (.code (am_y 25) (am_code 25) (am_mx 25) (am_rt 25)) := rfl
set_option maxRecDepth 100000 in
theorem am_c26 : am_wd 427 = some (.code (am_y 26) (am_code 26) (am_mx 26) (am_rt 26)) := rfl
set_option maxRecDepth 100000 in
theorem am_c27 : am_wd 431 = some (.code (am_y 27) (am_code 27) (am_mx 27) (am_rt 27)) := rfl
set_option maxRecDepth 100000 in
theorem am_c28 : am_wd 435 = some (.code (am_y 28) (am_code 28) (am_mx 28) (am_rt 28)) := rfl
set_option maxRecDepth 100000 in
theorem am_c29 : am_wd 439 = some (.code (am_y 29) (am_code 29) (am_mx 29) (am_rt 29)) := rfl
set_option maxRecDepth 100000 in
theorem am_c30 : am_wd 443 = some (.code (am_y 30) (am_code 30) (am_mx 30) (am_rt 30)) := rfl
set_option maxRecDepth 100000 in
theorem am_c31 : am_wd 447 = some (.code (am_y 31) (am_code 31) (am_mx 31) (am_rt 31)) := rfl
set_option maxRecDepth 100000 in
theorem am_c32 : am_wd 452 = some (.code (am_y 32) (am_code 32) (am_mx 32) (am_rt 32)) := rfl
set_option maxRecDepth 100000 in
theorem am_c33 : am_wd 455 = some (.code (am_y 33) (am_code 33) (am_mx 33) (am_rt 33)) := rfl
set_option maxRecDepth 100000 in
theorem am_c34 : am_wd 458 = some (.code (am_y 34) (am_code 34) (am_mx 34) (am_rt 34)) := rfl
set_option maxRecDepth 100000 in
theorem am_c35 : am_wd 462 = some (.code (am_y 35) (am_code 35) (am_mx 35) (am_rt 35)) := rfl
set_option maxRecDepth 100000 in
theorem am_c36 : am_wd 466 = some (.code (am_y 36) (am_code 36) (am_mx 36) (am_rt 36)) := rfl
set_option maxRecDepth 100000 in
theorem am_c37 : am_wd 471 = some (.code (am_y 37) (am_code 37) (am_mx 37) (am_rt 37)) := rfl
set_option maxRecDepth 100000 in
theorem am_c38 : am_wd 528 = some (.code (am_y 38) (am_code 38) (am_mx 38) (am_rt 38)) := rfl
set_option maxRecDepth 100000 in
theorem am_c39 : am_wd 532 = some (.code (am_y 39) (am_code 39) (am_mx 39) (am_rt 39)) := rfl
set_option maxRecDepth 100000 in
theorem am_c40 : am_wd 536 = some (.code (am_y 40) (am_code 40) (am_mx 40) (am_rt 40)) := rfl
set_option maxRecDepth 100000 in
theorem am_c41 : am_wd 541 = some (.code (am_y 41) (am_code 41) (am_mx 41) (am_rt 41)) := rfl
set_option maxRecDepth 100000 in
theorem am_c42 : am_wd 546 = some (.code (am_y 42) (am_code 42) (am_mx 42) (am_rt 42)) := rfl
set_option maxRecDepth 100000 in
theorem am_c43 : am_wd 551 = some (.code (am_y 43) (am_code 43) (am_mx 43) (am_rt 43)) := rfl
set_option maxRecDepth 100000 in
theorem am_c44 : am_wd 555 = some (.code (am_y 44) (am_code 44) (am_mx 44) (am_rt 44)) := rfl
set_option maxRecDepth 100000 in
theorem am_c45 : am_wd 559 = some (.code (am_y 45) (am_code 45) (am_mx 45) (am_rt 45)) := rfl
set_option maxRecDepth 100000 in
theorem am_c46 : am_wd 564 = some (.code (am_y 46) (am_code 46) (am_mx 46) (am_rt 46)) := rfl
set_option maxRecDepth 100000 in
theorem am_c47 : am_wd 571 = some (.code (am_y 47) (am_code 47) (am_mx 47) (am_rt 47)) := rfl
set_option maxRecDepth 100000 in
theorem am_c48 : am_wd 576 = some (.code (am_y 48) (am_code 48) (am_mx 48) (am_rt 48)) := rfl
set_option maxRecDepth 100000 in
theorem am_c49 : am_wd 582 = some (.code (am_y 49) (am_code 49) (am_mx 49) (am_rt 49)) := rfl
set_option maxRecDepth 100000 in
theorem am_c50 : am_wd 586 = some (.code (am_y 50) (am_code 50) (am_mx 50) (am_rt 50)) := rfl
set_option maxRecDepth 100000 in
theorem am_c51 : am_wd 590 = some (.code (am_y 51) (am_code 51) (am_mx 51) (am_rt 51)) := rfl
set_option maxRecDepth 100000 in
theorem am_c52 : am_wd 594 = some (.code (am_y 52) (am_code 52) (am_mx 52) (am_rt 52)) := rfl
set_option maxRecDepth 100000 in
theorem am_c53 : am_wd 598 = some (.code (am_y 53) (am_code 53) (am_mx 53) (am_rt 53)) := rfl
set_option maxRecDepth 100000 in
theorem am_c54 : am_wd 602 = some (.code (am_y 54) (am_code 54) (am_mx 54) (am_rt 54)) := rfl
set_option maxRecDepth 100000 in
theorem am_c55 : am_wd 605 = some (.code (am_y 55) (am_code 55) (am_mx 55) (am_rt 55)) := rfl
set_option maxRecDepth 100000 in
theorem am_c56 : am_wd 609 = some (.code (am_y 56) (am_code 56) (am_mx 56) (am_rt 56)) := rfl
set_option maxRecDepth 100000 in
theorem am_c57 : am_wd 613 = some (.code (am_y 57) (am_code 57) (am_mx 57) (am_rt 57)) := rfl
set_option maxRecDepth 100000 in
theorem am_c58 : am_wd 618 = some (.code (am_y 58) (am_code 58) (am_mx 58) (am_rt 58)) := rfl
set_option maxRecDepth 100000 in
theorem am_c59 : am_wd 622 = some (.code (am_y 59) (am_code 59) (am_mx 59) (am_rt 59)) := rfl
set_option maxRecDepth 100000 in
theorem am_c60 : am_wd 627 = some (.code (am_y 60) (am_code 60) (am_mx 60) (am_rt 60)) := rfl
set_option maxRecDepth 100000 in
theorem am_c61 : am_wd 631 = some (.code (am_y 61) (am_code 61) (am_mx 61) (am_rt 61)) := rfl
set_option maxRecDepth 100000 in
theorem am_c62 : am_wd 635 = some (.code (am_y 62) (am_code 62) (am_mx 62) (am_rt 62)) := rfl
set_option maxRecDepth 100000 in
theorem am_c63 : am_wd 639 = some (.code (am_y 63) (am_code 63) (am_mx 63) (am_rt 63)) := rfl
set_option maxRecDepth 100000 in
theorem am_c64 : am_wd 643 = some (.code (am_y 64) (am_code 64) (am_mx 64) (am_rt 64)) := rfl
set_option maxRecDepth 100000 in
theorem am_c65 : am_wd 646 = some (.code (am_y 65) (am_code 65) (am_mx 65) (am_rt 65)) := rfl
set_option maxRecDepth 100000 in
theorem am_c66 : am_wd 651 = some (.code (am_y 66) (am_code 66) (am_mx 66) (am_rt 66)) := rfl
set_option maxRecDepth 100000 in
theorem am_c67 : am_wd 656 = some (.code (am_y 67) (am_code 67) (am_mx 67) (am_rt 67)) := rfl
set_option maxRecDepth 100000 in
theorem am_c68 : am_wd 660 = some (.code (am_y 68) (am_code 68) (am_mx 68) (am_rt 68)) := rfl
set_option maxRecDepth 100000 in
theorem am_c69 : am_wd 664 = some (.code (am_y 69) (am_code 69) (am_mx 69) (am_rt 69)) := rfl
set_option maxRecDepth 100000 in
theorem am_c70 : am_wd 668 = some (.code (am_y 70) (am_code 70) (am_mx 70) (am_rt 70)) := rfl
set_option maxRecDepth 100000 in
theorem am_c71 : am_wd 672 = some (.code (am_y 71) (am_code 71) (am_mx 71) (am_rt 71)) := rfl
set_option maxRecDepth 100000 in
theorem am_c72 : am_wd 676 = some (.code (am_y 72) (am_code 72) (am_mx 72) (am_rt 72)) := rfl
set_option maxRecDepth 100000 in
theorem am_c73 : am_wd 680 = some (.code (am_y 73) (am_code 73) (am_mx 73) (am_rt 73)) := rfl
set_option maxRecDepth 100000 in
theorem am_c74 : am_wd 684 = some (.code (am_y 74) (am_code 74) (am_mx 74) (am_rt 74)) := rfl
set_option maxRecDepth 100000 in
theorem am_c75 : am_wd 688 = some (.code (am_y 75) (am_code 75) (am_mx 75) (am_rt 75)) := rfl
set_option maxRecDepth 100000 in
theorem am_c76 : am_wd 692 = some (.code (am_y 76) (am_code 76) (am_mx 76) (am_rt 76)) := rfl
set_option maxRecDepth 100000 in
theorem am_c77 : am_wd 696 = some (.code (am_y 77) (am_code 77) (am_mx 77) (am_rt 77)) := rfl
set_option maxRecDepth 100000 in
theorem am_c78 : am_wd 700 = some (.code (am_y 78) (am_code 78) (am_mx 78) (am_rt 78)) := rfl
set_option maxRecDepth 100000 in
theorem am_c79 : am_wd 704 = some (.code (am_y 79) (am_code 79) (am_mx 79) (am_rt 79)) := rfl
set_option maxRecDepth 100000 in
theorem am_c80 : am_wd 708 = some (.code (am_y 80) (am_code 80) (am_mx 80) (am_rt 80)) := rfl
set_option maxRecDepth 100000 in
theorem am_c81 : am_wd 712 = some (.code (am_y 81) (am_code 81) (am_mx 81) (am_rt 81)) := rfl
set_option maxRecDepth 100000 in
theorem am_c82 : am_wd 716 = some (.code (am_y 82) (am_code 82) (am_mx 82) (am_rt 82)) := rfl
set_option maxRecDepth 100000 in
theorem am_c83 : am_wd 721 = some (.code (am_y 83) (am_code 83) (am_mx 83) (am_rt 83)) := rfl
set_option maxRecDepth 100000 in
theorem am_c84 : am_wd 725 = some (.code (am_y 84) (am_code 84) (am_mx 84) (am_rt 84)) := rfl
set_option maxRecDepth 100000 in
theorem am_c85 : am_wd 729 = some (.code (am_y 85) (am_code 85) (am_mx 85) (am_rt 85)) := rfl
set_option maxRecDepth 100000 in
theorem am_c86 : am_wd 734 = some (.code (am_y 86) (am_code 86) (am_mx 86) (am_rt 86)) := rfl
set_option maxRecDepth 100000 in
theorem am_c87 : am_wd 738 = some (.code (am_y 87) (am_code 87) (am_mx 87) (am_rt 87)) := rfl
set_option maxRecDepth 100000 in
theorem am_c88 : am_wd 742 = some (.code (am_y 88) (am_code 88) (am_mx 88) (am_rt 88)) := rfl
set_option maxRecDepth 100000 in
theorem am_c89 : am_wd 746 = some (.code (am_y 89) (am_code 89) (am_mx 89) (am_rt 89)) := rfl
set_option maxRecDepth 100000 in
theorem am_c90 : am_wd 750 = some (.code (am_y 90) (am_code 90) (am_mx 90) (am_rt 90)) := rfl
set_option maxRecDepth 100000 in
theorem am_c91 : am_wd 754 = some (.code (am_y 91) (am_code 91) (am_mx 91) (am_rt 91)) := rfl
set_option maxRecDepth 100000 in
theorem am_c92 : am_wd 757 = some (.code (am_y 92) (am_code 92) (am_mx 92) (am_rt 92)) := rfl
set_option maxRecDepth 100000 in
theorem am_c93 : am_wd 764 = some (.code (am_y 93) (am_code 93) (am_mx 93) (am_rt 93)) := rfl
set_option maxRecDepth 100000 in
theorem am_c94 : am_wd 768 = some (.code (am_y 94) (am_code 94) (am_mx 94) (am_rt 94)) := rfl
set_option maxRecDepth 100000 in
theorem am_c95 : am_wd 772 = some (.code (am_y 95) (am_code 95) (am_mx 95) (am_rt 95)) := rfl
set_option maxRecDepth 100000 in
theorem am_c96 : am_wd 778 = some (.code (am_y 96) (am_code 96) (am_mx 96) (am_rt 96)) := rfl
set_option maxRecDepth 100000 in
theorem am_c97 : am_wd 782 = some (.code (am_y 97) (am_code 97) (am_mx 97) (am_rt 97)) := rfl
set_option maxRecDepth 100000 in
theorem am_c98 : am_wd 785 = some (.code (am_y 98) (am_code 98) (am_mx 98) (am_rt 98)) := rfl
set_option maxRecDepth 100000 in
theorem am_c99 : am_wd 789 = some (.code (am_y 99) (am_code 99) (am_mx 99) (am_rt 99)) := rfl
set_option maxRecDepth 100000 in
theorem am_c100 : am_wd 793 = some (.code (am_y 100) (am_code 100) (am_mx 100) (am_rt 100)) := rfl
set_option maxRecDepth 100000 in
theorem am_c101 : am_wd 796 = some (.code (am_y 101) (am_code 101) (am_mx 101) (am_rt 101)) := rfl
set_option maxRecDepth 100000 in
theorem am_c102 : am_wd 800 = some (.code (am_y 102) (am_code 102) (am_mx 102) (am_rt 102)) := rfl
set_option maxRecDepth 100000 in
theorem am_c103 : am_wd 804 = some (.code (am_y 103) (am_code 103) (am_mx 103) (am_rt 103)) := rfl
set_option maxRecDepth 100000 in
theorem am_c104 : am_wd 808 = some (.code (am_y 104) (am_code 104) (am_mx 104) (am_rt 104)) := rfl
set_option maxRecDepth 100000 in
theorem am_c105 : am_wd 812 = some (.code (am_y 105) (am_code 105) (am_mx 105) (am_rt 105)) := rfl
set_option maxRecDepth 100000 in
theorem am_c106 : am_wd 816 = some (.code (am_y 106) (am_code 106) (am_mx 106) (am_rt 106)) := rfl
set_option maxRecDepth 100000 in
theorem am_c107 : am_wd 819 = some (.code (am_y 107) (am_code 107) (am_mx 107) (am_rt 107)) := rfl
set_option maxRecDepth 100000 in
theorem am_c108 : am_wd 824 = some (.code (am_y 108) (am_code 108) (am_mx 108) (am_rt 108)) := rfl
set_option maxRecDepth 100000 in
theorem am_c109 : am_wd 828 = some (.code (am_y 109) (am_code 109) (am_mx 109) (am_rt 109)) := rfl
set_option maxRecDepth 100000 in
theorem am_c110 : am_wd 832 = some (.code (am_y 110) (am_code 110) (am_mx 110) (am_rt 110)) := rfl
set_option maxRecDepth 100000 in
theorem am_c111 : am_wd 836 = some (.code (am_y 111) (am_code 111) (am_mx 111) (am_rt 111)) := rfl
set_option maxRecDepth 100000 in
theorem am_c112 : am_wd 843 = some (.code (am_y 112) (am_code 112) (am_mx 112) (am_rt 112)) := rfl
set_option maxRecDepth 100000 in
theorem am_c113 : am_wd 847 = some (.code (am_y 113) (am_code 113) (am_mx 113) (am_rt 113)) := rfl
set_option maxRecDepth 100000 in
theorem am_c114 : am_wd 850 = some (.code (am_y 114) (am_code 114) (am_mx 114) (am_rt 114)) := rfl
set_option maxRecDepth 100000 in
theorem am_c115 : am_wd 853 = some (.code (am_y 115) (am_code 115) (am_mx 115) (am_rt 115)) := rfl
set_option maxRecDepth 100000 in
theorem am_c116 : am_wd 856 = some (.code (am_y 116) (am_code 116) (am_mx 116) (am_rt 116)) := rfl
set_option maxRecDepth 100000 in
theorem am_c117 : am_wd 860 = some (.code (am_y 117) (am_code 117) (am_mx 117) (am_rt 117)) := rfl
set_option maxRecDepth 100000 in
theorem am_c118 : am_wd 865 = some (.code (am_y 118) (am_code 118) (am_mx 118) (am_rt 118)) := rfl
set_option maxRecDepth 100000 in
theorem am_c119 : am_wd 876 = some (.code (am_y 119) (am_code 119) (am_mx 119) (am_rt 119)) := rfl
set_option maxRecDepth 100000 in
theorem am_c120 : am_wd 881 = some (.code (am_y 120) (am_code 120) (am_mx 120) (am_rt 120)) := rfl
set_option maxRecDepth 100000 in
theorem am_c121 : am_wd 885 = some (.code (am_y 121) (am_code 121) (am_mx 121) (am_rt 121)) := rfl
set_option maxRecDepth 100000 in
theorem am_c122 : am_wd 888 = some (.code (am_y 122) (am_code 122) (am_mx 122) (am_rt 122)) := rfl
set_option maxRecDepth 100000 in
theorem am_c123 : am_wd 892 = some (.code (am_y 123) (am_code 123) (am_mx 123) (am_rt 123)) := rfl
set_option maxRecDepth 100000 in
theorem am_c124 : am_wd 896 = some (.code (am_y 124) (am_code 124) (am_mx 124) (am_rt 124)) := rfl
set_option maxRecDepth 100000 in
theorem am_c125 : am_wd 900 = some (.code (am_y 125) (am_code 125) (am_mx 125) (am_rt 125)) := rfl
set_option maxRecDepth 100000 in
theorem am_c126 : am_wd 905 = some (.code (am_y 126) (am_code 126) (am_mx 126) (am_rt 126)) := rfl
set_option maxRecDepth 100000 in
theorem am_c127 : am_wd 910 = some (.code (am_y 127) (am_code 127) (am_mx 127) (am_rt 127)) := rfl
set_option maxRecDepth 100000 in
theorem am_c128 : am_wd 915 = some (.code (am_y 128) (am_code 128) (am_mx 128) (am_rt 128)) := rfl
set_option maxRecDepth 100000 in
theorem am_c129 : am_wd 920 = some (.code (am_y 129) (am_code 129) (am_mx 129) (am_rt 129)) := rfl
set_option maxRecDepth 100000 in
theorem am_c130 : am_wd 924 = some (.code (am_y 130) (am_code 130) (am_mx 130) (am_rt 130)) := rfl
set_option maxRecDepth 100000 in
theorem am_c131 : am_wd 928 = some (.code (am_y 131) (am_code 131) (am_mx 131) (am_rt 131)) := rfl
set_option maxRecDepth 100000 in
theorem am_c132 : am_wd 932 = some (.code (am_y 132) (am_code 132) (am_mx 132) (am_rt 132)) := rfl
set_option maxRecDepth 100000 in
theorem am_c133 : am_wd 938 = some (.code (am_y 133) (am_code 133) (am_mx 133) (am_rt 133)) := rfl
set_option maxRecDepth 100000 in
theorem am_c134 : am_wd 942 = some (.code (am_y 134) (am_code 134) (am_mx 134) (am_rt 134)) := rfl
set_option maxRecDepth 100000 in
theorem am_c135 : am_wd 1008 = some (.code (am_y 135) (am_code 135) (am_mx 135) (am_rt 135)) := rfl
set_option maxRecDepth 100000 in
theorem am_c136 : am_wd 1012 = some (.code (am_y 136) (am_code 136) (am_mx 136) (am_rt 136)) := rfl
set_option maxRecDepth 100000 in
theorem am_c137 : am_wd 1016 = some (.code (am_y 137) (am_code 137) (am_mx 137) (am_rt 137)) := rfl
set_option maxRecDepth 100000 in
theorem am_c138 : am_wd 1021 = some (.code (am_y 138) (am_code 138) (am_mx 138) (am_rt 138)) := rfl
set_option maxRecDepth 100000 in
theorem am_c139 : am_wd 1025 = some (.code (am_y 139) (am_code 139) (am_mx 139) (am_rt 139)) := rfl
set_option maxRecDepth 100000 in
theorem am_c140 : am_wd 1028 = some (.code (am_y 140) (am_code 140) (am_mx 140) (am_rt 140)) := rfl
set_option maxRecDepth 100000 in
theorem am_c141 : am_wd 1032 = some (.code (am_y 141) (am_code 141) (am_mx 141) (am_rt 141)) := rfl
set_option maxRecDepth 100000 in
theorem am_c142 : am_wd 1036 = some (.code (am_y 142) (am_code 142) (am_mx 142) (am_rt 142)) := rfl
set_option maxRecDepth 100000 in
theorem am_c143 : am_wd 1040 = some (.code (am_y 143) (am_code 143) (am_mx 143) (am_rt 143)) := rfl
set_option maxRecDepth 100000 in
theorem am_c144 : am_wd 1043 = some (.code (am_y 144) (am_code 144) (am_mx 144) (am_rt 144)) := rfl
set_option maxRecDepth 100000 in
theorem am_c145 : am_wd 1047 = some (.code (am_y 145) (am_code 145) (am_mx 145) (am_rt 145)) := rfl
set_option maxRecDepth 100000 in
theorem am_c146 : am_wd 1052 = some (.code (am_y 146) (am_code 146) (am_mx 146) (am_rt 146)) := rfl
set_option maxRecDepth 100000 in
theorem am_c147 : am_wd 1056 = some (.code (am_y 147) (am_code 147) (am_mx 147) (am_rt 147)) := rfl
set_option maxRecDepth 100000 in
theorem am_c148 : am_wd 1060 = some (.code (am_y 148) (am_code 148) (am_mx 148) (am_rt 148)) := rfl
set_option maxRecDepth 100000 in
theorem am_c149 : am_wd 1064 = some (.code (am_y 149) (am_code 149) (am_mx 149) (am_rt 149)) := rfl
set_option maxRecDepth 100000 in
theorem am_c150 : am_wd 1069 = some (.code (am_y 150) (am_code 150) (am_mx 150) (am_rt 150)) := rfl
set_option maxRecDepth 100000 in
theorem am_c151 : am_wd 1073 = some (.code (am_y 151) (am_code 151) (am_mx 151) (am_rt 151)) := rfl
set_option maxRecDepth 100000 in
theorem am_c152 : am_wd 1077 = some (.code (am_y 152) (am_code 152) (am_mx 152) (am_rt 152)) := rfl
set_option maxRecDepth 100000 in
theorem am_c153 : am_wd 1081 = some (.code (am_y 153) (am_code 153) (am_mx 153) (am_rt 153)) := rfl
set_option maxRecDepth 100000 in
theorem am_c154 : am_wd 1085 = some (.code (am_y 154) (am_code 154) (am_mx 154) (am_rt 154)) := rfl
set_option maxRecDepth 100000 in
theorem am_c155 : am_wd 1090 = some (.code (am_y 155) (am_code 155) (am_mx 155) (am_rt 155)) := rfl
set_option maxRecDepth 100000 in
theorem am_c156 : am_wd 1101 = some (.code (am_y 156) (am_code 156) (am_mx 156) (am_rt 156)) := rfl
set_option maxRecDepth 100000 in
theorem am_c157 : am_wd 1105 = some (.code (am_y 157) (am_code 157) (am_mx 157) (am_rt 157)) := rfl
set_option maxRecDepth 100000 in
theorem am_c158 : am_wd 1109 = some (.code (am_y 158) (am_code 158) (am_mx 158) (am_rt 158)) := rfl
set_option maxRecDepth 100000 in
theorem am_c159 : am_wd 1113 = some (.code (am_y 159) (am_code 159) (am_mx 159) (am_rt 159)) := rfl
set_option maxRecDepth 100000 in
theorem am_c160 : am_wd 1120 = some (.code (am_y 160) (am_code 160) (am_mx 160) (am_rt 160)) := rfl
set_option maxRecDepth 100000 in
theorem am_c161 : am_wd 1124 = some (.code (am_y 161) (am_code 161) (am_mx 161) (am_rt 161)) := rfl
set_option maxRecDepth 100000 in
theorem am_c162 : am_wd 1128 = some (.code (am_y 162) (am_code 162) (am_mx 162) (am_rt 162)) := rfl
set_option maxRecDepth 100000 in
theorem am_c163 : am_wd 1131 = some (.code (am_y 163) (am_code 163) (am_mx 163) (am_rt 163)) := rfl
set_option maxRecDepth 100000 in
theorem am_c164 : am_wd 1135 = some (.code (am_y 164) (am_code 164) (am_mx 164) (am_rt 164)) := rfl
set_option maxRecDepth 100000 in
theorem am_c165 : am_wd 1139 = some (.code (am_y 165) (am_code 165) (am_mx 165) (am_rt 165)) := rfl
set_option maxRecDepth 100000 in
theorem am_c166 : am_wd 1143 = some (.code (am_y 166) (am_code 166) (am_mx 166) (am_rt 166)) := rfl
set_option maxRecDepth 100000 in
theorem am_c167 : am_wd 1147 = some (.code (am_y 167) (am_code 167) (am_mx 167) (am_rt 167)) := rfl
set_option maxRecDepth 100000 in
theorem am_c168 : am_wd 1151 = some (.code (am_y 168) (am_code 168) (am_mx 168) (am_rt 168)) := rfl
set_option maxRecDepth 100000 in
theorem am_c169 : am_wd 1154 = some (.code (am_y 169) (am_code 169) (am_mx 169) (am_rt 169)) := rfl
set_option maxRecDepth 100000 in
theorem am_c170 : am_wd 1157 = some (.code (am_y 170) (am_code 170) (am_mx 170) (am_rt 170)) := rfl
set_option maxRecDepth 100000 in
theorem am_c171 : am_wd 1161 = some (.code (am_y 171) (am_code 171) (am_mx 171) (am_rt 171)) := rfl
set_option maxRecDepth 100000 in
theorem am_c172 : am_wd 1165 = some (.code (am_y 172) (am_code 172) (am_mx 172) (am_rt 172)) := rfl
set_option maxRecDepth 100000 in
theorem am_c173 : am_wd 1169 = some (.code (am_y 173) (am_code 173) (am_mx 173) (am_rt 173)) := rfl
set_option maxRecDepth 100000 in
theorem am_c174 : am_wd 1173 = some (.code (am_y 174) (am_code 174) (am_mx 174) (am_rt 174)) := rfl
set_option maxRecDepth 100000 in
theorem am_c175 : am_wd 1177 = some (.code (am_y 175) (am_code 175) (am_mx 175) (am_rt 175)) := rfl
set_option maxRecDepth 100000 in
theorem am_c176 : am_wd 1181 = some (.code (am_y 176) (am_code 176) (am_mx 176) (am_rt 176)) := rfl
set_option maxRecDepth 100000 in
theorem am_c177 : am_wd 1185 = some (.code (am_y 177) (am_code 177) (am_mx 177) (am_rt 177)) := rfl
set_option maxRecDepth 100000 in
theorem am_c178 : am_wd 1189 = some (.code (am_y 178) (am_code 178) (am_mx 178) (am_rt 178)) := rfl
set_option maxRecDepth 100000 in
theorem am_c179 : am_wd 1193 = some (.code (am_y 179) (am_code 179) (am_mx 179) (am_rt 179)) := rfl
set_option maxRecDepth 100000 in
theorem am_c180 : am_wd 1196 = some (.code (am_y 180) (am_code 180) (am_mx 180) (am_rt 180)) := rfl
set_option maxRecDepth 100000 in
theorem am_c181 : am_wd 1200 = some (.code (am_y 181) (am_code 181) (am_mx 181) (am_rt 181)) := rfl
set_option maxRecDepth 100000 in
theorem am_c182 : am_wd 1204 = some (.code (am_y 182) (am_code 182) (am_mx 182) (am_rt 182)) := rfl
set_option maxRecDepth 100000 in
theorem am_c183 : am_wd 1208 = some (.code (am_y 183) (am_code 183) (am_mx 183) (am_rt 183)) := rfl
set_option maxRecDepth 100000 in
theorem am_c184 : am_wd 1212 = some (.code (am_y 184) (am_code 184) (am_mx 184) (am_rt 184)) := rfl
set_option maxRecDepth 100000 in
theorem am_c185 : am_wd 1216 = some (.code (am_y 185) (am_code 185) (am_mx 185) (am_rt 185)) := rfl
set_option maxRecDepth 100000 in
theorem am_c186 : am_wd 1220 = some (.code (am_y 186) (am_code 186) (am_mx 186) (am_rt 186)) := rfl
set_option maxRecDepth 100000 in
theorem am_c187 : am_wd 1224 = some (.code (am_y 187) (am_code 187) (am_mx 187) (am_rt 187)) := rfl
set_option maxRecDepth 100000 in
theorem am_c188 : am_wd 1230 = some (.code (am_y 188) (am_code 188) (am_mx 188) (am_rt 188)) := rfl
set_option maxRecDepth 100000 in
theorem am_c189 : am_wd 1234 = some (.code (am_y 189) (am_code 189) (am_mx 189) (am_rt 189)) := rfl
set_option maxRecDepth 100000 in
theorem am_c190 : am_wd 1238 = some (.code (am_y 190) (am_code 190) (am_mx 190) (am_rt 190)) := rfl
set_option maxRecDepth 100000 in
theorem am_c191 : am_wd 1242 = some (.code (am_y 191) (am_code 191) (am_mx 191) (am_rt 191)) := rfl
set_option maxRecDepth 100000 in
theorem am_c192 : am_wd 1246 = some (.code (am_y 192) (am_code 192) (am_mx 192) (am_rt 192)) := rfl
set_option maxRecDepth 100000 in
theorem am_c193 : am_wd 1250 = some (.code (am_y 193) (am_code 193) (am_mx 193) (am_rt 193)) := rfl
set_option maxRecDepth 100000 in
theorem am_c194 : am_wd 1256 = some (.code (am_y 194) (am_code 194) (am_mx 194) (am_rt 194)) := rfl
set_option maxRecDepth 100000 in
theorem am_c195 : am_wd 1266 = some (.code (am_y 195) (am_code 195) (am_mx 195) (am_rt 195)) := rfl
set_option maxRecDepth 100000 in
theorem am_c196 : am_wd 1270 = some (.code (am_y 196) (am_code 196) (am_mx 196) (am_rt 196)) := rfl
set_option maxRecDepth 100000 in
theorem am_c197 : am_wd 1274 = some (.code (am_y 197) (am_code 197) (am_mx 197) (am_rt 197)) := rfl
set_option maxRecDepth 100000 in
theorem am_c198 : am_wd 1278 = some (.code (am_y 198) (am_code 198) (am_mx 198) (am_rt 198)) := rfl
set_option maxRecDepth 100000 in
theorem am_c199 : am_wd 1282 = some (.code (am_y 199) (am_code 199) (am_mx 199) (am_rt 199)) := rfl
set_option maxRecDepth 100000 in
theorem am_c200 : am_wd 1286 = some (.code (am_y 200) (am_code 200) (am_mx 200) (am_rt 200)) := rfl
set_option maxRecDepth 100000 in
theorem am_c201 : am_wd 1291 = some (.code (am_y 201) (am_code 201) (am_mx 201) (am_rt 201)) := rfl
set_option maxRecDepth 100000 in
theorem am_c202 : am_wd 1295 = some (.code (am_y 202) (am_code 202) (am_mx 202) (am_rt 202)) := rfl
theorem am_okC : ∀ k, k < am_N → am_wd (am_m k).2.2.2.2.2 = some (.code (am_y k) (am_code k) (am_mx k) (am_rt k)) := by
  intro k h
  match k, h with
  | 0, _ => exact am_c0
  | 1, _ => exact am_c1
  | 2, _ => exact am_c2
  | 3, _ => exact am_c3
  | 4, _ => exact am_c4
  | 5, _ => exact am_c5
  | 6, _ => exact am_c6
  | 7, _ => exact am_c7
  | 8, _ => exact am_c8
  | 9, _ => exact am_c9
  | 10, _ => exact am_c10
  | 11, _ => exact am_c11
  | 12, _ => exact am_c12
  | 13, _ => exact am_c13
  | 14, _ => exact am_c14
  | 15, _ => exact am_c15
  | 16, _ => exact am_c16
  | 17, _ => exact am_c17
  | 18, _ => exact am_c18
  | 19, _ => exact am_c19
  | 20, _ => exact am_c20
  | 21, _ => exact am_c21
  | 22, _ => exact am_c22
  | 23, _ => exact am_c23
  | 24, _ => exact am_c24
  | 25, _ => exact am_c25
  | 26, _ => exact am_c26
  | 27, _ => exact am_c27
  | 28, _ => exact am_c28
  | 29, _ => exact am_c29
  | 30, _ => exact am_c30
  | 31, _ => exact am_c31
  | 32, _ => exact am_c32
  | 33, _ => exact am_c33
  | 34, _ => exact am_c34
  | 35, _ => exact am_c35
  | 36, _ => exact am_c36
  | 37, _ => exact am_c37
  | 38, _ => exact am_c38
  | 39, _ => exact am_c39
  | 40, _ => exact am_c40
  | 41, _ => exact am_c41
  | 42, _ => exact am_c42
  | 43, _ => exact am_c43
  | 44, _ => exact am_c44
  | 45, _ => exact am_c45
  | 46, _ => exact am_c46
  | 47, _ => exact am_c47
  | 48, _ => exact am_c48
  | 49, _ => exact am_c49
  | 50, _ => exact am_c50
  | 51, _ => exact am_c51
  | 52, _ => exact am_c52
  | 53, _ => exact am_c53
  | 54, _ => exact am_c54
  | 55, _ => exact am_c55
  | 56, _ => exact am_c56
  | 57, _ => exact am_c57
  | 58, _ => exact am_c58
  | 59, _ => exact am_c59
  | 60, _ => exact am_c60
  | 61, _ => exact am_c61
  | 62, _ => exact am_c62
  | 63, _ => exact am_c63
  | 64, _ => exact am_c64
  | 65, _ => exact am_c65
  | 66, _ => exact am_c66
  | 67, _ => exact am_c67
  | 68, _ => exact am_c68
  | 69, _ => exact am_c69
  | 70, _ => exact am_c70
  | 71, _ => exact am_c71
  | 72, _ => exact am_c72
  | 73, _ => exact am_c73
  | 74, _ => exact am_c74
  | 75, _ => exact am_c75
  | 76, _ => exact am_c76
  | 77, _ => exact am_c77
  | 78, _ => exact am_c78
  | 79, _ => exact am_c79
  | 80, _ => exact am_c80
  | 81, _ => exact am_c81
  | 82, _ => exact am_c82
  | 83, _ => exact am_c83
  | 84, _ => exact am_c84
  | 85, _ => exact am_c85
  | 86, _ => exact am_c86
  | 87, _ => exact am_c87
  | 88, _ => exact am_c88
  | 89, _ => exact am_c89
  | 90, _ => exact am_c90
  | 91, _ => exact am_c91
  | 92, _ => exact am_c92
  | 93, _ => exact am_c93
  | 94, _ => exact am_c94
  | 95, _ => exact am_c95
  | 96, _ => exact am_c96
  | 97, _ => exact am_c97
  | 98, _ => exact am_c98
  | 99, _ => exact am_c99
  | 100, _ => exact am_c100
  | 101, _ => exact am_c101
  | 102, _ => exact am_c102
  | 103, _ => exact am_c103
  | 104, _ => exact am_c104
  | 105, _ => exact am_c105
  | 106, _ => exact am_c106
  | 107, _ => exact am_c107
  | 108, _ => exact am_c108
  | 109, _ => exact am_c109
  | 110, _ => exact am_c110
  | 111, _ => exact am_c111
  | 112, _ => exact am_c112
  | 113, _ => exact am_c113
  | 114, _ => exact am_c114
  | 115, _ => exact am_c115
  | 116, _ => exact am_c116
  | 117, _ => exact am_c117
  | 118, _ => exact am_c118
  | 119, _ => exact am_c119
  | 120, _ => exact am_c120
  | 121, _ => exact am_c121
  | 122, _ => exact am_c122
  | 123, _ => exact am_c123
  | 124, _ => exact am_c124
  | 125, _ => exact am_c125
  | 126, _ => exact am_c126
  | 127, _ => exact am_c127
  | 128, _ => exact am_c128
  | 129, _ => exact am_c129
  | 130, _ => exact am_c130
  | 131, _ => exact am_c131
  | 132, _ => exact am_c132
  | 133, _ => exact am_c133
  | 134, _ => exact am_c134
  | 135, _ => exact am_c135
  | 136, _ => exact am_c136
  | 137, _ => exact am_c137
  | 138, _ => exact am_c138
  | 139, _ => exact am_c139
  | 140, _ => exact am_c140
  | 141, _ => exact am_c141
  | 142, _ => exact am_c142
  | 143, _ => exact am_c143
  | 144, _ => exact am_c144
  | 145, _ => exact am_c145
  | 146, _ => exact am_c146
  | 147, _ => exact am_c147
  | 148, _ => exact am_c148
  | 149, _ => exact am_c149
  | 150, _ => exact am_c150
  | 151, _ => exact am_c151
  | 152, _ => exact am_c152
  | 153, _ => exact am_c153
  | 154, _ => exact am_c154
  | 155, _ => exact am_c155
  | 156, _ => exact am_c156
  | 157, _ => exact am_c157
  | 158, _ => exact am_c158
  | 159, _ => exact am_c159
  | 160, _ => exact am_c160
  | 161, _ => exact am_c161
  | 162, _ => exact am_c162
  | 163, _ => exact am_c163
  | 164, _ => exact am_c164
  | 165, _ => exact am_c165
  | 166, _ => exact am_c166
  | 167, _ => exact am_c167
  | 168, _ => exact am_c168
  | 169, _ => exact am_c169
  | 170, _ => exact am_c170
  | 171, _ => exact am_c171
  | 172, _ => exact am_c172
  | 173, _ => exact am_c173
  | 174, _ => exact am_c174
  | 175, _ => exact am_c175
  | 176, _ => exact am_c176
  | 177, _ => exact am_c177
  | 178, _ => exact am_c178
  | 179, _ => exact am_c179
  | 180, _ => exact am_c180
  | 181, _ => exact am_c181
  | 182, _ => exact am_c182
  | 183, _ => exact am_c183
  | 184, _ => exact am_c184
  | 185, _ => exact am_c185
  | 186, _ => exact am_c186
  | 187, _ => exact am_c187
  | 188, _ => exact am_c188
  | 189, _ => exact am_c189
  | 190, _ => exact am_c190
  | 191, _ => exact am_c191
  | 192, _ => exact am_c192
  | 193, _ => exact am_c193
  | 194, _ => exact am_c194
  | 195, _ => exact am_c195
  | 196, _ => exact am_c196
  | 197, _ => exact am_c197
  | 198, _ => exact am_c198
  | 199, _ => exact am_c199
  | 200, _ => exact am_c200
  | 201, _ => exact am_c201
  | 202, _ => exact am_c202
  | k + 203, h => exact absurd (show k + 203 < 203 from h) (by omega)
end
section
/-! THE ABSTRACT MACHINE: values are the machine's own, but a reference is the place of a cell in the world (a list of cells; a cell: a kind and its values; 100 int[], 101 long[], 102 boolean[], 103 Days[], 104 Town[]); retAddr k is the k-th string constant -/
def am_tg (pc : Nat) (off : Int) : Option Nat := if 0 ≤ (pc : Int) + off then some ((pc : Int) + off).toNat else none
def am_ln : Instr → Nat
  | .bipush _ | .iload _ | .lload _ | .aload _ | .istore _ | .lstore _ | .astore _ | .newarray _ | .ldc _ => 2
  | .sipush _ | .iinc _ _ | .getfield _ | .putfield _ | .ldc_w _ | .ldc2_w _ | .new _ | .anewarray _ | .invokespecial _ | .invokestatic _ | .invokevirtual _ | .ifCond _ _ | .if_icmp _ _ | .goto _ => 3
  | _ => 1
def am_b2 (f : Int32 → Int32 → Int32) : List Value → Option (List Value)
  | .int y :: .int x :: r => some (.int (f x y) :: r)
  | _ => none
def am_d2 (f : Int32 → Int32 → Int32) : List Value → Option (List Value)
  | .int y :: .int x :: r => if y = 0 then none else some (.int (f x y) :: r)
  | _ => none
def am_l2 (f : Int64 → Int64 → Int64) : List Value → Option (List Value)
  | .long y :: .long x :: r => some (.long (f x y) :: r)
  | _ => none
def am_e2 (f : Int64 → Int64 → Int64) : List Value → Option (List Value)
  | .long y :: .long x :: r => if y = 0 then none else some (.long (f x y) :: r)
  | _ => none
/-- what works on the stack alone -/
def am_stk (i : Instr) (st : List Value) : Option (List Value) := match i with
  | .iconst n => some (.int (Int32.ofInt n) :: st)
  | .bipush n => some (.int (Int8.ofInt n).toInt32 :: st)
  | .sipush n => some (.int (Int16.ofInt n).toInt32 :: st)
  | .lconst n => some (.long (Int64.ofNat (n : Nat)) :: st)
  | .iadd => am_b2 (fun x y => x + y) st
  | .isub => am_b2 (fun x y => x - y) st
  | .imul => am_b2 (fun x y => x * y) st
  | .iand => am_b2 (fun x y => x &&& y) st
  | .ior => am_b2 (fun x y => x ||| y) st
  | .ixor => am_b2 (fun x y => x ^^^ y) st
  | .ishl => am_b2 (fun x y => x <<< (y &&& 31)) st
  | .ishr => am_b2 (fun x y => x >>> (y &&& 31)) st
  | .iushr => am_b2 (fun x y => (x.toUInt32 >>> (y.toUInt32 &&& Int32.toUInt32 31)).toInt32) st
  | .idiv => am_d2 (fun x y => x / y) st
  | .irem => am_d2 (fun x y => x - x / y * y) st
  | .ladd => am_l2 (fun x y => x + y) st
  | .lmul => am_l2 (fun x y => x * y) st
  | .ldiv => am_e2 (fun x y => x / y) st
  | .lrem => am_e2 (fun x y => x - x / y * y) st
  | .lcmp => match st with
    | .long y :: .long x :: r => some (.int (lg_cmp x y) :: r)
    | _ => none
  | .i2l => match st with
    | .int x :: r => some (.long x.toInt64 :: r)
    | _ => none
  | .l2i => match st with
    | .long x :: r => some (.int x.toInt32 :: r)
    | _ => none
  | .dup => match st with
    | v :: r => if v.category = 1 then some (v :: v :: r) else none
    | _ => none
  | .dup2 => match st with
    | v :: u :: r => if v.category = 1 ∧ u.category = 1 then some (v :: u :: v :: u :: r) else none
    | _ => none
  | .pop => match st with
    | v :: r => if v.category = 1 then some r else none
    | _ => none
  | _ => none
/-- the locals: a long's second place is none -/
def am_ld (L : List (Option Value)) (i : Nat) : Option Value := (L[i]?).join
def am_kill (L : List (Option Value)) : Nat → List (Option Value)
  | 0 => L
  | j + 1 => match am_ld L j with
    | some v => if v.category = 2 then L.set j none else L
    | none => L
def am_s1 (L : List (Option Value)) (i : Nat) (v : Value) : List (Option Value) := (am_kill L i).set i (some v)
def am_s2 (L : List (Option Value)) (i : Nat) (v : Value) : List (Option Value) := ((am_kill L i).set i (some v)).set (i + 1) none
def am_ldi (L : List (Option Value)) (st : List Value) (i : Nat) : Option (List (Option Value) × List Value) := match am_ld L i with
  | some (.int x) => some (L, .int x :: st)
  | _ => none
def am_ldl (L : List (Option Value)) (st : List Value) (i : Nat) : Option (List (Option Value) × List Value) := match am_ld L i with
  | some (.long x) => some (L, .long x :: st)
  | _ => none
def am_lda (L : List (Option Value)) (st : List Value) (i : Nat) : Option (List (Option Value) × List Value) := match am_ld L i with
  | some (.ref x) => some (L, .ref x :: st)
  | some (.retAddr x) => some (L, .retAddr x :: st)
  | _ => none
def am_sti (L : List (Option Value)) (st : List Value) (i : Nat) : Option (List (Option Value) × List Value) := match st with
  | .int x :: r => if i < L.length then some (am_s1 L i (.int x), r) else none
  | _ => none
def am_stl (L : List (Option Value)) (st : List Value) (i : Nat) : Option (List (Option Value) × List Value) := match st with
  | .long x :: r => if i + 1 < L.length then some (am_s2 L i (.long x), r) else none
  | _ => none
def am_sta (L : List (Option Value)) (st : List Value) (i : Nat) : Option (List (Option Value) × List Value) := match st with
  | .ref x :: r => if i < L.length then some (am_s1 L i (.ref x), r) else none
  | _ => none
/-- what works on locals and stack -/
def am_lo (i : Instr) (L : List (Option Value)) (st : List Value) : Option (List (Option Value) × List Value) := match i with
  | .iload j => am_ldi L st j
  | .iload_n j => am_ldi L st j
  | .lload j => am_ldl L st j
  | .lload_n j => am_ldl L st j
  | .aload j => am_lda L st j
  | .aload_n j => am_lda L st j
  | .istore j => am_sti L st j
  | .istore_n j => am_sti L st j
  | .lstore j => am_stl L st j
  | .lstore_n j => am_stl L st j
  | .astore_n j => am_sta L st j
  | .iinc j n => match am_ld L j with
    | some (.int x) => if j < L.length then some (am_s1 L j (.int (x + Int32.ofInt n)), st) else none
    | _ => none
  | _ => none
def am_go (pc : Nat) (off : Int) (c : Prop) [Decidable c] (r : List Value) : Option (Nat × List Value) := match am_tg pc off with
  | some t => if c then some (t, r) else some (pc + 3, r)
  | none => none
/-- the branches -/
def am_br (pc : Nat) (i : Instr) (st : List Value) : Option (Nat × List Value) := match i with
  | .goto off => match am_tg pc off with
    | some t => some (t, st)
    | none => none
  | .ifCond cd off => match st with
    | .int x :: r => match cd with
      | .eq => am_go pc off (x = 0) r
      | .ne => am_go pc off (¬ x = 0) r
      | .lt => am_go pc off (x < 0) r
      | .ge => am_go pc off (0 ≤ x) r
      | .gt => am_go pc off (0 < x) r
      | .le => am_go pc off (x ≤ 0) r
    | _ => none
  | .if_icmp cd off => match st with
    | .int y :: .int x :: r => match cd with
      | .eq => am_go pc off (x = y) r
      | .ne => am_go pc off (¬ x = y) r
      | .lt => am_go pc off (x < y) r
      | .ge => am_go pc off (y ≤ x) r
      | .gt => am_go pc off (y < x) r
      | .le => am_go pc off (x ≤ y) r
    | _ => none
  | .tableswitch dflt lo hi offs => match st with
    | .int x :: r => if x.toInt < lo ∨ hi < x.toInt then (match am_tg pc dflt with
        | some t => some (t, r)
        | none => none) else (match offs[(x.toInt - lo).toNat]? with
        | some off => (match am_tg pc off with
          | some t => some (t, r)
          | none => none)
        | none => none)
    | _ => none
  | .lookupswitch dflt ps => match st with
    | .int x :: r => if (ps.toList.zip (ps.toList.drop 1)).all (fun (a, next) => a.1 < next.1) = true then (match am_tg pc (Op.lookupswitch.offset ps.toList dflt x.toInt) with
        | some t => some (t, r)
        | none => none) else none
    | _ => none
  | _ => none
def am_vk : Nat → Value → Bool
  | 0, .int _ => true
  | 1, .long _ => true
  | 2, .ref _ => true
  | 2, .null => true
  | _, _ => false
/-- a kind's new object -/
def am_df (t : Nat) : List Value := (List.range (am_k t).2.2.2.1).map fun j => defaultValue ((am_k t).2.2.2.2.1 j)
def am_at (w : am_W) (a : Nat) (t : Nat) : Option (List Value) := match w[a]? with
  | some c => if c.1 = t then some c.2 else none
  | none => none
def am_ix (vs : List Value) (j : Int32) : Option Value := if j < 0 then none else vs[j.toNatClampNeg]?
/-- what works on the world too: class number, is it a constructor, depth -/
def am_hp (c : Nat) (ini : Bool) (d : Nat) (i : Instr) (st : List Value) (w : am_W) : Option (List Value × am_W) := match i with
  | .getfield idx => match st with
    | .ref a :: r => match am_lk am_fs c idx with
      | some q => match am_at w a q.1 with
        | some vs => match vs[q.2.1]? with
          | some v => some (v :: r, w)
          | none => none
        | none => none
      | none => none
    | _ => none
  | .putfield idx => match st with
    | v :: .ref a :: r => match am_lk am_fs c idx with
      | some q => match am_at w a q.1 with
        | some vs => if am_vk q.2.2.1 v = true ∧ q.2.1 < vs.length ∧ (¬ q.2.2.2.1 = 1 ∨ (ini = true ∧ (am_k q.1).1 = c)) then some (r, w.set a (q.1, vs.set q.2.1 v)) else none
        | none => none
      | none => none
    | _ => none
  | .iaload => match st with
    | .int j :: .ref a :: r => match am_at w a 100 with
      | some vs => match am_ix vs j with
        | some (.int x) => some (.int x :: r, w)
        | _ => none
      | none => none
    | _ => none
  | .laload => match st with
    | .int j :: .ref a :: r => match am_at w a 101 with
      | some vs => match am_ix vs j with
        | some (.long x) => some (.long x :: r, w)
        | _ => none
      | none => none
    | _ => none
  | .baload => match st with
    | .int j :: .ref a :: r => match am_at w a 102 with
      | some vs => match am_ix vs j with
        | some (.int x) => some (.int x :: r, w)
        | _ => none
      | none => none
    | _ => none
  | .aaload => match st with
    | .int j :: .ref a :: r => match w[a]? with
      | some c => if c.1 = 103 ∨ c.1 = 104 then (match am_ix c.2 j with
        | some (.ref x) => some (.ref x :: r, w)
        | _ => none) else none
      | none => none
    | _ => none
  | .iastore => match st with
    | .int x :: .int j :: .ref a :: r => match am_at w a 100 with
      | some vs => match am_ix vs j with
        | some _ => some (r, w.set a (100, vs.set j.toNatClampNeg (.int x)))
        | none => none
      | none => none
    | _ => none
  | .lastore => match st with
    | .long x :: .int j :: .ref a :: r => match am_at w a 101 with
      | some vs => match am_ix vs j with
        | some _ => some (r, w.set a (101, vs.set j.toNatClampNeg (.long x)))
        | none => none
      | none => none
    | _ => none
  | .bastore => match st with
    | .int x :: .int j :: .ref a :: r => match am_at w a 102 with
      | some vs => match am_ix vs j with
        | some _ => if x = 1 then some (r, w.set a (102, vs.set j.toNatClampNeg (.int 1))) else none
        | none => none
      | none => none
    | _ => none
  | .aastore => match st with
    | .ref b :: .int j :: .ref a :: r => match w[a]? with
      | some c => match am_ix c.2 j with
        | some _ => match w[b]? with
          | some e => if (c.1 = 103 ∧ e.1 = 2) ∨ (c.1 = 104 ∧ e.1 = 6) then some (r, w.set a (c.1, c.2.set j.toNatClampNeg (.ref b))) else none
          | none => none
        | none => none
      | none => none
    | _ => none
  | .arraylength => match st with
    | .ref a :: r => match w[a]? with
      | some c => if 100 ≤ c.1 ∧ c.1 ≤ 104 then some (.int (Int32.ofNat c.2.length) :: r, w) else none
      | none => none
    | _ => none
  | .new idx => match am_lk am_ns c idx with
    | some q => some (.ref w.length :: st, w ++ [(q.1, am_df q.1)])
    | none => none
  | .newarray t => match st with
    | .int n :: r => if n < 0 ∨ 100000 < n.toNatClampNeg then none else (match t with
      | .int => some (.ref w.length :: r, w ++ [(100, List.replicate n.toNatClampNeg (.int 0))])
      | .long => some (.ref w.length :: r, w ++ [(101, List.replicate n.toNatClampNeg (.long 0))])
      | .boolean => some (.ref w.length :: r, w ++ [(102, List.replicate n.toNatClampNeg (.int 0))])
      | _ => none)
    | _ => none
  | .anewarray idx => match st with
    | .int n :: r => if n < 0 ∨ 100000 < n.toNatClampNeg then none else (match am_lk am_ns c idx with
      | some q => if q.1 = 2 then some (.ref w.length :: r, w ++ [(103, List.replicate n.toNatClampNeg .null)]) else if q.1 = 6 then some (.ref w.length :: r, w ++ [(104, List.replicate n.toNatClampNeg .null)]) else none
      | none => none)
    | _ => none
  | .ldc idx => match am_lk am_ci c idx with
    | some q => some (.int q.1 :: st, w)
    | none => match am_lk am_ct c idx with
      | some q => some (.retAddr q.1 :: st, w)
      | none => none
  | .ldc_w idx => match am_lk am_ci c idx with
    | some q => some (.int q.1 :: st, w)
    | none => none
  | .ldc2_w idx => match am_lk am_cl c idx with
    | some q => some (.long q.1 :: st, w)
    | none => none
  | .invokespecial idx => match st with
    | .ref a :: r => match am_lk am_oi c idx with
      | some _ => if 0 < d ∧ r.length ≤ 4 then some (r, w) else none
      | none => none
    | _ => none
  | .invokestatic idx => match st with
    | .int n :: .int dp :: .ref a :: .int sp :: .ref b :: r => match am_lk am_ac c idx with
      | some _ => match am_at w b 100 with
        | some vs => match am_at w a 100 with
          | some us => if ¬ sp < 0 ∧ ¬ dp < 0 ∧ ¬ n < 0 ∧ sp.toNatClampNeg + n.toNatClampNeg ≤ vs.length ∧ dp.toNatClampNeg + n.toNatClampNeg ≤ us.length ∧ 0 < d ∧ r.length ≤ 2 then
              some (r, w.set a (100, us.take dp.toNatClampNeg ++ (vs.drop sp.toNatClampNeg).take n.toNatClampNeg ++ us.drop (dp.toNatClampNeg + n.toNatClampNeg))) else none
          | none => none
        | none => none
      | none => none
    | _ => none
  | _ => none
def am_zb (i : Instr) (z : Nat) : Bool := match i with
  | .tableswitch _ _ _ _ => true
  | .lookupswitch _ _ => true
  | _ => decide (am_ln i = z)
/-- one instruction that is no call and no return -/
def am_one (c : Nat) (ini : Bool) (d pc : Nat) (i : Instr) (z : Nat) (L : List (Option Value)) (st : List Value) (w : am_W) : Option (Nat × List (Option Value) × List Value × am_W) :=
  match am_br pc i st with
  | some (t, st') => if am_zb i z = true then some (t, L, st', w) else none
  | none => if am_ln i = z then (match am_stk i st with
    | some st' => some (pc + z, L, st', w)
    | none => match am_lo i L st with
      | some (L', st') => some (pc + z, L', st', w)
      | none => match am_hp c ini d i st w with
        | some (st', w') => some (pc + z, L, st', w')
        | none => none) else none
/-- a return: the answer -/
def am_re (rt : Option FieldType) (i : Instr) (st : List Value) : Option (Option Value) := match i with
  | .return_ => match st with
    | [] => if rt = none then some none else none
    | _ => none
  | .ireturn => match st with
    | [.int v] => if rt = some .int ∨ (rt = some .boolean ∧ (v = 0 ∨ v = 1)) then some (some (.int v)) else none
    | _ => none
  | .lreturn => match st with
    | [.long v] => if rt = some .long then some (some (.long v)) else none
    | _ => none
  | _ => none
/-- the locals at a method's entry -/
def am_en : List Value → List (Option Value)
  | [] => []
  | v :: t => if v.category = 2 then some v :: none :: am_en t else some v :: am_en t
/-- a call: the method, its arguments, what stays on the stack -/
def am_ca (c : Nat) (i : Instr) (st : List Value) (w : am_W) : Option (Nat × List Value × List Value) := match i with
  | .invokestatic idx => match am_lk am_is c idx with
    | some q => if (q.1 = 0 ∨ q.1 = 4) ∧ q.2.2.1 ≤ st.length ∧ (st.drop q.2.2.1).length ≤ 4 then some (q.2.1, (st.take q.2.2.1).reverse, st.drop q.2.2.1) else none
    | none => none
  | .invokespecial idx => match am_lk am_is c idx with
    | some q => if (q.1 = 2 ∨ q.1 = 3) ∧ q.2.2.1 + 1 ≤ st.length ∧ (st.drop (q.2.2.1 + 1)).length ≤ 4 then (match st.drop q.2.2.1 with
      | .ref a :: r => some (q.2.1, .ref a :: (st.take q.2.2.1).reverse, r)
      | _ => none) else none
    | none => none
  | .invokevirtual idx => match am_lk am_is c idx with
    | some q => if q.1 = 1 ∧ q.2.2.1 + 1 ≤ st.length ∧ (st.drop (q.2.2.1 + 1)).length ≤ 4 then (match st.drop q.2.2.1 with
      | .ref a :: r => match w[a]? with
        | some e => if e.1 < 9 ∧ (am_k e.1).1 = am_kl q.2.1 then some (q.2.1, .ref a :: (st.take q.2.2.1).reverse, r) else none
        | none => none
      | _ => none) else none
    | none => none
  | _ => none
/-- what String's own members answer of a constant: 0 length, 1 charAt -/
def am_tx : List (List Int32) := [[116, 111, 119, 110], [115, 116, 114, 101, 101, 116], [108, 97, 110, 101], [103, 97, 116, 101], [119, 105, 110, 100], [100, 105, 115, 104]]
def am_xe (c d : Nat) (i : Instr) (st : List Value) : Option (List Value) := match i with
  | .invokevirtual idx => match am_lk am_ex c idx with
    | some q => if 6 ≤ d then (match q.1, st with
      | 0, .retAddr k :: r => match am_tx[k]? with
        | some t => if r.length ≤ 4 then some (.int (Int32.ofNat t.length) :: r) else none
        | none => none
      | 1, .int j :: .retAddr k :: r => match am_tx[k]? with
        | some t => if j < 0 ∨ 4 < r.length then none else (match t[j.toNatClampNeg]? with
          | some x => some (.int x :: r)
          | none => none)
        | none => none
      | _, _ => none) else none
    | none => none
  | _ => none
/-- THE RUN of method k at depth d from pc; n: how many instructions at most -/
def am_run : Nat → Nat → Nat → Nat → List (Option Value) → List Value → am_W → Option (Option Value × am_W)
  | 0, _, _, _, _, _, _ => none
  | n + 1, d, k, pc, L, st, w => match decode (am_code k) pc with
    | .ok (i, z) => match am_one (am_kl k) (decide ((am_y k).name = "<init>")) d pc i z L st w with
      | some (pc', L', st', w') => am_run n d k pc' L' st' w'
      | none => match am_re (am_rt k) i st with
        | some v => if z = 1 then some (v, w) else none
        | none => match am_ca (am_kl k) i st w with
          | some (k', as, r) => match d with
            | 0 => none
            | d' + 1 => if z = 3 ∧ (am_en as).length ≤ am_mx k' ∧ k' < am_N then (match am_run n d' k' 0 (am_en as ++ List.replicate (am_mx k' - (am_en as).length) none) [] w with
              | some (v, w') => am_run n (d' + 1) k (pc + 3) L (v.toList ++ r) w'
              | none => none) else none
          | none => match am_xe (am_kl k) d i st with
            | some st' => if z = 3 then am_run n d k (pc + 3) L st' w else none
            | none => none
    | _ => none
end
section
/-! the plain groups are sound: by the kit's rows -/
def am_sh (B : Nat) (sa : Nat → Nat) : Value → Value
  | .ref a => .ref (B + a)
  | .retAddr k => .ref (sa k)
  | v => v
theorem am_sh_cat (B : Nat) (sa : Nat → Nat) (v : Value) : (am_sh B sa v).category = v.category := by cases v <;> rfl
theorem am_b2_of {f : Int32 → Int32 → Int32} {st st' : List Value} (h : am_b2 f st = some st') : ∃ x y r, st = .int y :: .int x :: r ∧ st' = .int (f x y) :: r := by
  unfold am_b2 at h
  split at h
  · cases h; exact ⟨_, _, _, rfl, rfl⟩
  · cases h
theorem am_d2_of {f : Int32 → Int32 → Int32} {st st' : List Value} (h : am_d2 f st = some st') : ∃ x y r, st = .int y :: .int x :: r ∧ ¬ y = 0 ∧ st' = .int (f x y) :: r := by
  unfold am_d2 at h
  split at h
  · split at h
    · cases h
    next hy => cases h; exact ⟨_, _, _, rfl, hy, rfl⟩
  · cases h
theorem am_l2_of {f : Int64 → Int64 → Int64} {st st' : List Value} (h : am_l2 f st = some st') : ∃ x y r, st = .long y :: .long x :: r ∧ st' = .long (f x y) :: r := by
  unfold am_l2 at h
  split at h
  · cases h; exact ⟨_, _, _, rfl, rfl⟩
  · cases h
theorem am_e2_of {f : Int64 → Int64 → Int64} {st st' : List Value} (h : am_e2 f st = some st') : ∃ x y r, st = .long y :: .long x :: r ∧ ¬ y = 0 ∧ st' = .long (f x y) :: r := by
  unfold am_e2 at h
  split at h
  · split at h
    · cases h
    next hy => cases h; exact ⟨_, _, _, rfl, hy, rfl⟩
  · cases h
section AMP
variable {p : Program} {l : Launch} {e : Env} {R : Room} {s : State} {m : MethodId} {args : Array Value} {below : List Frame} {meth : Method} {c : Code} {H : Heap} {locs : List Loc} {cells slots : Nat} {Q : State → Prop}
variable {cc : ByteArray} {pc : Nat} {ls : Array Slot} {B : Nat} {sa : Nat → Nat}
set_option maxHeartbeats 2000000 in
theorem am_stk_ok (hx : p.tables.exec = Jvm.exec) (hb : c.code = cc) {i : Instr} {z : Nat} {st st' : List Value} (h : am_stk i st = some st') (hd : decode cc pc = .ok (i, z)) (hz : am_ln i = z)
    (kk : W p l e R s m args below meth c H locs cells slots Q (F0 m (pc + z) ls (st'.map (am_sh B sa)))) : W p l e R s m args below meth c H locs cells slots Q (F0 m pc ls (st.map (am_sh B sa))) := by
  subst hz
  cases i with
  | iconst n => cases h; exact lv_iconst hx hb hd rfl kk
  | bipush n => cases h; exact lv_bipush hx hb hd rfl kk
  | sipush n => cases h; exact lv_sipush hx hb hd rfl kk
  | lconst n => cases h; exact lv_lconst hx hb hd rfl kk
  | iadd => obtain ⟨x, y, r, rfl, rfl⟩ := am_b2_of h; exact lv_iadd hx hb hd kk
  | isub => obtain ⟨x, y, r, rfl, rfl⟩ := am_b2_of h; exact lv_isub hx hb hd kk
  | imul => obtain ⟨x, y, r, rfl, rfl⟩ := am_b2_of h; exact lv_imul hx hb hd kk
  | iand => obtain ⟨x, y, r, rfl, rfl⟩ := am_b2_of h; exact lv_iand hx hb hd kk
  | ior => obtain ⟨x, y, r, rfl, rfl⟩ := am_b2_of h; exact lv_ior hx hb hd kk
  | ixor => obtain ⟨x, y, r, rfl, rfl⟩ := am_b2_of h; exact lv_ixor hx hb hd kk
  | ishl => obtain ⟨x, y, r, rfl, rfl⟩ := am_b2_of h; exact lv_ishl hx hb hd kk
  | ishr => obtain ⟨x, y, r, rfl, rfl⟩ := am_b2_of h; exact lv_ishr hx hb hd kk
  | iushr => obtain ⟨x, y, r, rfl, rfl⟩ := am_b2_of h; exact lv_iushr hx hb hd rfl kk
  | idiv => obtain ⟨x, y, r, rfl, hy, rfl⟩ := am_d2_of h; exact lv_idiv hx hb hd hy kk
  | irem => obtain ⟨x, y, r, rfl, hy, rfl⟩ := am_d2_of h; exact lv_irem hx hb hd hy kk
  | ladd => obtain ⟨x, y, r, rfl, rfl⟩ := am_l2_of h; exact lv_ladd hx hb hd kk
  | lmul => obtain ⟨x, y, r, rfl, rfl⟩ := am_l2_of h; exact lv_lmul hx hb hd kk
  | ldiv => obtain ⟨x, y, r, rfl, hy, rfl⟩ := am_e2_of h; exact lv_ldiv hx hb hd hy kk
  | lrem => obtain ⟨x, y, r, rfl, hy, rfl⟩ := am_e2_of h; exact lv_lrem hx hb hd hy kk
  | lcmp =>
    simp only [am_stk] at h
    split at h
    · cases h; exact W.lcmp hx hb hd kk
    · cases h
  | i2l =>
    simp only [am_stk] at h
    split at h
    · cases h; exact lv_i2l hx hb hd rfl kk
    · cases h
  | l2i =>
    simp only [am_stk] at h
    split at h
    · cases h; exact lv_l2i hx hb hd rfl kk
    · cases h
  | dup =>
    simp only [am_stk] at h
    split at h
    · split at h
      next hv => cases h; exact lv_dup hx hb hd ((am_sh_cat B sa _).trans hv) kk
      next => cases h
    · cases h
  | dup2 =>
    simp only [am_stk] at h
    split at h
    · split at h
      next hv => cases h; exact lv_dup2_11 hx hb hd ((am_sh_cat B sa _).trans hv.1) ((am_sh_cat B sa _).trans hv.2) kk
      next => cases h
    · cases h
  | pop =>
    simp only [am_stk] at h
    split at h
    · split at h
      next hv => cases h; exact lv_pop hx hb hd ((am_sh_cat B sa _).trans hv) kk
      next => cases h
    · cases h
  | _ => cases (show none = some st' from h)
theorem am_tg_of {pc : Nat} {off : Int} {t : Nat} (h : am_tg pc off = some t) : (pc : Int) + off = (t : Int) := by
  unfold am_tg at h
  split at h
  next hh => cases h; exact (Int.toNat_of_nonneg hh).symm
  next => cases h
theorem am_go_of {pc : Nat} {off : Int} {C : Prop} [Decidable C] {r r' : List Value} {t' : Nat} (h : am_go pc off C r = some (t', r')) : r' = r ∧ ∃ t : Nat, (pc : Int) + off = (t : Int) ∧ ((C ∧ t' = t) ∨ (¬ C ∧ t' = pc + 3)) := by
  unfold am_go at h
  split at h
  next t ht =>
    split at h
    next hc => cases h; exact ⟨rfl, _, am_tg_of ht, Or.inl ⟨hc, rfl⟩⟩
    next hc => cases h; exact ⟨rfl, _, am_tg_of ht, Or.inr ⟨hc, rfl⟩⟩
  next => cases h
theorem am_br_ok (hx : p.tables.exec = Jvm.exec) (hb : c.code = cc) {i : Instr} {z : Nat} {st st' : List Value} {t : Nat} (h : am_br pc i st = some (t, st')) (hd : decode cc pc = .ok (i, z)) (hz : (∃ o, i = .goto o) ∨ (∃ a o, i = .ifCond a o) ∨ (∃ a o, i = .if_icmp a o) → z = 3)
    (kk : W p l e R s m args below meth c H locs cells slots Q (F0 m t ls (st'.map (am_sh B sa)))) : W p l e R s m args below meth c H locs cells slots Q (F0 m pc ls (st.map (am_sh B sa))) := by
  cases i with
  | goto off =>
    obtain rfl := hz (Or.inl ⟨_, rfl⟩)
    simp only [am_br] at h
    split at h
    next t ht => cases h; exact lv_goto hx hb hd (am_tg_of ht) kk
    next => cases h
  | ifCond cd off =>
    obtain rfl := hz (Or.inr (Or.inl ⟨_, _, rfl⟩))
    simp only [am_br] at h
    split at h
    next x r =>
      cases cd with
      | eq => obtain ⟨rfl, t, ht, hc⟩ := am_go_of h; exact lv_if_eq (tgt := t) hx hb hd ht (fun k => by rcases hc with ⟨-, rfl⟩ | ⟨q, -⟩; exact kk; exact absurd k q) (fun k => by rcases hc with ⟨q, -⟩ | ⟨-, rfl⟩; exact absurd q k; exact kk)
      | ne => obtain ⟨rfl, t, ht, hc⟩ := am_go_of h; exact lv_if_ne (tgt := t) hx hb hd ht (fun k => by rcases hc with ⟨-, rfl⟩ | ⟨q, -⟩; exact kk; exact absurd k q) (fun k => by rcases hc with ⟨q, -⟩ | ⟨-, rfl⟩; exact absurd k q; exact kk)
      | lt => obtain ⟨rfl, t, ht, hc⟩ := am_go_of h; exact lv_if_lt (tgt := t) hx hb hd ht (fun k => by rcases hc with ⟨-, rfl⟩ | ⟨q, -⟩; exact kk; exact absurd k q) (fun k => by rcases hc with ⟨q, -⟩ | ⟨-, rfl⟩; exact absurd q k; exact kk)
      | ge => obtain ⟨rfl, t, ht, hc⟩ := am_go_of h; exact lv_if_ge (tgt := t) hx hb hd ht (fun k => by rcases hc with ⟨-, rfl⟩ | ⟨q, -⟩; exact kk; exact absurd k q) (fun k => by rcases hc with ⟨q, -⟩ | ⟨-, rfl⟩; exact absurd q k; exact kk)
      | gt => obtain ⟨rfl, t, ht, hc⟩ := am_go_of h; exact lv_if_gt (tgt := t) hx hb hd ht (fun k => by rcases hc with ⟨-, rfl⟩ | ⟨q, -⟩; exact kk; exact absurd k q) (fun k => by rcases hc with ⟨q, -⟩ | ⟨-, rfl⟩; exact absurd q k; exact kk)
      | le => obtain ⟨rfl, t, ht, hc⟩ := am_go_of h; exact lv_if_le (tgt := t) hx hb hd ht (fun k => by rcases hc with ⟨-, rfl⟩ | ⟨q, -⟩; exact kk; exact absurd k q) (fun k => by rcases hc with ⟨q, -⟩ | ⟨-, rfl⟩; exact absurd q k; exact kk)
    next => cases h
  | if_icmp cd off =>
    obtain rfl := hz (Or.inr (Or.inr ⟨_, _, rfl⟩))
    simp only [am_br] at h
    split at h
    next y x r =>
      cases cd with
      | eq => obtain ⟨rfl, t, ht, hc⟩ := am_go_of h; exact lv_icmp_eq (tgt := t) hx hb hd ht (fun k => by rcases hc with ⟨-, rfl⟩ | ⟨q, -⟩; exact kk; exact absurd k q) (fun k => by rcases hc with ⟨q, -⟩ | ⟨-, rfl⟩; exact absurd q k; exact kk)
      | ne => obtain ⟨rfl, t, ht, hc⟩ := am_go_of h; exact lv_icmp_ne (tgt := t) hx hb hd ht (fun k => by rcases hc with ⟨-, rfl⟩ | ⟨q, -⟩; exact kk; exact absurd k q) (fun k => by rcases hc with ⟨q, -⟩ | ⟨-, rfl⟩; exact absurd k q; exact kk)
      | lt => obtain ⟨rfl, t, ht, hc⟩ := am_go_of h; exact lv_icmp_lt (tgt := t) hx hb hd ht (fun k => by rcases hc with ⟨-, rfl⟩ | ⟨q, -⟩; exact kk; exact absurd k q) (fun k => by rcases hc with ⟨q, -⟩ | ⟨-, rfl⟩; exact absurd q k; exact kk)
      | ge => obtain ⟨rfl, t, ht, hc⟩ := am_go_of h; exact lv_icmp_ge (tgt := t) hx hb hd ht (fun k => by rcases hc with ⟨-, rfl⟩ | ⟨q, -⟩; exact kk; exact absurd k q) (fun k => by rcases hc with ⟨q, -⟩ | ⟨-, rfl⟩; exact absurd q k; exact kk)
      | gt => obtain ⟨rfl, t, ht, hc⟩ := am_go_of h; exact lv_icmp_gt (tgt := t) hx hb hd ht (fun k => by rcases hc with ⟨-, rfl⟩ | ⟨q, -⟩; exact kk; exact absurd k q) (fun k => by rcases hc with ⟨q, -⟩ | ⟨-, rfl⟩; exact absurd q k; exact kk)
      | le => obtain ⟨rfl, t, ht, hc⟩ := am_go_of h; exact lv_icmp_le (tgt := t) hx hb hd ht (fun k => by rcases hc with ⟨-, rfl⟩ | ⟨q, -⟩; exact kk; exact absurd k q) (fun k => by rcases hc with ⟨q, -⟩ | ⟨-, rfl⟩; exact absurd q k; exact kk)
    next => cases h
  | tableswitch dflt lo hi offs =>
    simp only [am_br] at h
    split at h
    · split at h
      next ho =>
        split at h
        next t ht => cases h; exact lv_tableOut hx hb hd ho (am_tg_of ht) kk
        next => cases h
      next ho =>
        split at h
        next off hoff =>
          split at h
          next t ht => cases h; exact lv_tableIn hx hb hd (fun q => ho (Or.inl q)) (fun q => ho (Or.inr q)) hoff (am_tg_of ht) kk
          next => cases h
        next => cases h
    · cases h
  | lookupswitch dflt ps =>
    simp only [am_br] at h
    split at h
    · split at h
      next hp =>
        split at h
        next t ht => cases h; exact lv_lookup hx hb hd hp rfl (am_tg_of ht) kk
        next => cases h
      next => cases h
    · cases h
  | _ => cases (show none = some (t, st') from h)
end AMP
end
section
/-! locals and world: the abstract ones stand for the machine's -/
def am_as (B : Nat) (sa : Nat → Nat) : Nat → List (Option Value) → List (Nat × Value)
  | _, [] => []
  | i, some v :: t => (i, am_sh B sa v) :: am_as B sa (i + 1) t
  | i, none :: t => am_as B sa (i + 1) t
theorem am_as_mem {B : Nat} {sa : Nat → Nat} {q : Nat × Value} : ∀ {L : List (Option Value)} {i : Nat}, q ∈ am_as B sa i L ↔ ∃ k v, L[k]? = some (some v) ∧ q = (i + k, am_sh B sa v)
  | [], i => by simp [am_as]
  | none :: t, i => by
    rw [am_as, am_as_mem]
    constructor
    · rintro ⟨k, v, h1, h2⟩
      exact ⟨k + 1, v, by simpa using h1, by rw [h2]; congr 1; omega⟩
    · rintro ⟨k, v, h1, h2⟩
      cases k with
      | zero => simp at h1
      | succ k => exact ⟨k, v, by simpa using h1, by rw [h2]; congr 1; omega⟩
  | some u :: t, i => by
    rw [am_as, List.mem_cons, am_as_mem]
    constructor
    · rintro (h | ⟨k, v, h1, h2⟩)
      · exact ⟨0, u, by simp, by rw [h]; rfl⟩
      · exact ⟨k + 1, v, by simpa using h1, by rw [h2]; congr 1; omega⟩
    · rintro ⟨k, v, h1, h2⟩
      cases k with
      | zero => simp at h1; subst h1; exact Or.inl (by rw [h2]; rfl)
      | succ k => exact Or.inr ⟨k, v, by simpa using h1, by rw [h2]; congr 1; omega⟩
def am_Lh (B : Nat) (sa : Nat → Nat) (nL : Nat) (L : List (Option Value)) (ls : Array Slot) : Prop := L.length = nL ∧ lv_has ls nL (am_as B sa 0 L)
theorem am_ld_some {L : List (Option Value)} {j : Nat} {v : Value} (h : am_ld L j = some v) : L[j]? = some (some v) := by
  unfold am_ld at h
  cases hL : L[j]? with
  | none => rw [hL] at h; cases h
  | some o => rw [hL] at h; cases o with
    | none => cases h
    | some u => cases h; rfl
theorem am_in {B : Nat} {sa : Nat → Nat} {L : List (Option Value)} {j : Nat} {v : Value} (h : am_ld L j = some v) : (j, am_sh B sa v) ∈ am_as B sa 0 L :=
  am_as_mem.mpr ⟨j, v, am_ld_some h, by simp⟩
theorem am_ld_at {B : Nat} {sa : Nat → Nat} {nL : Nat} {L : List (Option Value)} {ls : Array Slot} {j : Nat} {v : Value} (hl : am_Lh B sa nL L ls) (h : am_ld L j = some v) : ls[j]? = some (.val (am_sh B sa v)) := hl.2.2.2 _ (am_in h)
theorem lv_weak {ls : Array Slot} {nL : Nat} {l l' : List (Nat × Value)} (h : lv_has ls nL l) (hs : ∀ q ∈ l', q ∈ l) : lv_has ls nL l' := ⟨h.1, h.2.1, fun q hq => h.2.2 q (hs q hq)⟩
theorem am_kill_len (L : List (Option Value)) (i : Nat) : (am_kill L i).length = L.length := by
  cases i with
  | zero => rfl
  | succ j =>
    simp only [am_kill]
    split
    · split
      · simp
      · rfl
    · rfl
theorem am_kill_get {L : List (Option Value)} {i k : Nat} {u : Value} (h : (am_kill L i)[k]? = some (some u)) : L[k]? = some (some u) ∧ ¬ (k + 1 = i ∧ u.category = 2) := by
  cases i with
  | zero => exact ⟨h, fun q => by omega⟩
  | succ j =>
    simp only [am_kill] at h
    split at h
    next v hv =>
      split at h
      next hc =>
        by_cases hk : k = j
        · subst hk
          rw [List.getElem?_set] at h
          simp at h
        · rw [List.getElem?_set_ne (Ne.symm hk)] at h
          exact ⟨h, fun q => hk (by omega)⟩
      next hc =>
        refine ⟨h, fun q => ?_⟩
        have hk : k = j := by omega
        subst hk
        have := am_ld_some hv
        rw [this] at h
        cases h
        exact hc q.2
    next hv =>
      refine ⟨h, fun q => ?_⟩
      have hk : k = j := by omega
      subst hk
      unfold am_ld at hv
      rw [h] at hv
      cases hv
theorem am_s1_in {B : Nat} {sa : Nat → Nat} {L : List (Option Value)} {i : Nat} {v : Value} (hi : i < L.length) : ∀ q ∈ am_as B sa 0 (am_s1 L i v), q ∈ (i, am_sh B sa v) :: (am_as B sa 0 L).filter (fun q => !(q.1 == i) && !(q.1 + 1 == i && q.2.category == 2)) := by
  intro q hq
  obtain ⟨k, u, h1, rfl⟩ := am_as_mem.mp hq
  rw [Nat.zero_add]
  unfold am_s1 at h1
  by_cases hk : k = i
  · subst hk
    rw [List.getElem?_set_self (by rw [am_kill_len]; exact hi)] at h1
    cases h1
    exact List.mem_cons_self
  · rw [List.getElem?_set_ne (Ne.symm hk)] at h1
    obtain ⟨h2, h3⟩ := am_kill_get h1
    refine List.mem_cons_of_mem _ (List.mem_filter.mpr ⟨am_as_mem.mpr ⟨k, u, h2, by simp⟩, ?_⟩)
    simp only [am_sh_cat]
    simp [hk]
    by_cases h4 : k + 1 = i
    · exact Or.inr fun h5 => h3 ⟨h4, h5⟩
    · exact Or.inl h4
theorem am_s2_in {B : Nat} {sa : Nat → Nat} {L : List (Option Value)} {i : Nat} {v : Value} (hi : i + 1 < L.length) : ∀ q ∈ am_as B sa 0 (am_s2 L i v), q ∈ (i, am_sh B sa v) :: (am_as B sa 0 L).filter (fun q => !(q.1 == i) && (!(q.1 == i + 1) && !(q.1 + 1 == i && q.2.category == 2))) := by
  intro q hq
  obtain ⟨k, u, h1, rfl⟩ := am_as_mem.mp hq
  rw [Nat.zero_add]
  unfold am_s2 at h1
  by_cases hk1 : k = i + 1
  · subst hk1
    rw [List.getElem?_set] at h1
    simp at h1
  · rw [List.getElem?_set_ne (Ne.symm hk1)] at h1
    by_cases hk : k = i
    · subst hk
      rw [List.getElem?_set_self (by rw [am_kill_len]; omega)] at h1
      cases h1
      exact List.mem_cons_self
    · rw [List.getElem?_set_ne (Ne.symm hk)] at h1
      obtain ⟨h2, h3⟩ := am_kill_get h1
      refine List.mem_cons_of_mem _ (List.mem_filter.mpr ⟨am_as_mem.mpr ⟨k, u, h2, by simp⟩, ?_⟩)
      simp only [am_sh_cat]
      simp [hk, hk1]
      by_cases h4 : k + 1 = i
      · exact Or.inr fun h5 => h3 ⟨h4, h5⟩
      · exact Or.inl h4
theorem am_s1_len (L : List (Option Value)) (i : Nat) (v : Value) : (am_s1 L i v).length = L.length := by simp [am_s1, am_kill_len]
theorem am_s2_len (L : List (Option Value)) (i : Nat) (v : Value) : (am_s2 L i v).length = L.length := by simp [am_s2, am_kill_len]
theorem am_en_in {B : Nat} {sa : Nat → Nat} : ∀ (as : List Value) (n i : Nat), ∀ q ∈ am_as B sa i (am_en as ++ List.replicate n none), q ∈ lv_args i (as.map (am_sh B sa))
  | [], n, i, q, h => by
    obtain ⟨k, u, h1, -⟩ := am_as_mem.mp h
    simp [am_en, List.getElem?_replicate] at h1
  | v :: t, n, i, q, h => by
    simp only [List.map_cons, lv_args, am_sh_cat]
    unfold am_en at h
    by_cases hc : v.category = 2
    · rw [if_pos hc] at h ⊢
      simp only [List.cons_append, am_as] at h
      rcases List.mem_cons.mp h with h | h
      · rw [h]; exact List.mem_cons_self
      · exact List.mem_cons_of_mem _ (am_en_in t n (i + 1 + 1) q h)
    · rw [if_neg hc] at h ⊢
      simp only [List.cons_append, am_as] at h
      rcases List.mem_cons.mp h with h | h
      · rw [h]; exact List.mem_cons_self
      · exact List.mem_cons_of_mem _ (am_en_in t n (i + 1) q h)
theorem am_en_len (B : Nat) (sa : Nat → Nat) : ∀ (as : List Value), (lg_sl (as.map (am_sh B sa))).length = (am_en as).length
  | [] => rfl
  | v :: t => by
    have h := am_en_len B sa t
    unfold lg_sl at h ⊢
    rw [List.map_cons, List.flatMap_cons, List.length_append, h, am_sh_cat, show am_en (v :: t) = if v.category = 2 then some v :: none :: am_en t else some v :: am_en t from rfl]
    by_cases hc : v.category = 2
    · rw [if_pos hc, if_pos hc]; simp; omega
    · rw [if_neg hc, if_neg hc]; simp; omega
/-! the world -/
def am_i : Value → Int32
  | .int x => x
  | _ => 0
def am_l : Value → Int64
  | .long x => x
  | _ => 0
def am_r (B : Nat) : Value → Option Nat
  | .ref a => some (B + a)
  | _ => none
def am_E (dA : Nat → ClassId) (B : Nat) (sa : Nat → Nat) (c : am_C) : va_E :=
  if c.1 < 100 then .inr (c.1, c.2.map (am_sh B sa)) else if c.1 = 101 then .inl (dA 1, c.2.length, .inr (.inl (fun j => am_l (c.2.getD j .null))))
  else if c.1 = 103 ∨ c.1 = 104 then .inl (dA (c.1 - 100), c.2.length, .inr (.inr (.inr (.inr (fun j => am_r B (c.2.getD j .null)))))) else .inl (dA (c.1 - 100), c.2.length, .inl (fun j => am_i (c.2.getD j .null)))
def am_rz (dA : Nat → ClassId) (B : Nat) (sa : Nat → Nat) : Nat → am_W → va_W
  | _, [] => []
  | i, c :: t => (B + i, am_E dA B sa c) :: am_rz dA B sa (i + 1) t
theorem am_rz_get (dA : Nat → ClassId) (B : Nat) (sa : Nat → Nat) : ∀ (w : am_W) (i k : Nat), (am_rz dA B sa i w)[k]? = (w[k]?).map (fun c => (B + (i + k), am_E dA B sa c))
  | [], i, k => by simp [am_rz]
  | c :: t, i, 0 => by simp [am_rz]
  | c :: t, i, k + 1 => by
    simp only [am_rz, List.getElem?_cons_succ]
    rw [am_rz_get dA B sa t (i + 1) k, show i + 1 + k = i + (k + 1) by omega]
theorem am_rz_set (dA : Nat → ClassId) (B : Nat) (sa : Nat → Nat) (c' : am_C) : ∀ (w : am_W) (i k : Nat), (am_rz dA B sa i w).set k (B + (i + k), am_E dA B sa c') = am_rz dA B sa i (w.set k c')
  | [], i, k => by simp [am_rz]
  | c :: t, i, 0 => by simp [am_rz]
  | c :: t, i, k + 1 => by
    simp only [am_rz, List.set_cons_succ]
    rw [← am_rz_set dA B sa c' t (i + 1) k, show i + 1 + k = i + (k + 1) by omega]
theorem am_rz_app (dA : Nat → ClassId) (B : Nat) (sa : Nat → Nat) (c : am_C) : ∀ (w : am_W) (i : Nat), am_rz dA B sa i (w ++ [c]) = am_rz dA B sa i w ++ [(B + (i + w.length), am_E dA B sa c)]
  | [], i => by simp [am_rz]
  | d :: t, i => by
    simp only [am_rz, List.cons_append, am_rz_app dA B sa c t (i + 1), List.length_cons]
    rw [show i + 1 + t.length = i + (t.length + 1) by omega]
theorem am_rz_D (dA : Nat → ClassId) (B : Nat) (sa : Nat → Nat) (w : am_W) : va_D (fun q => B ≤ q) (am_rz dA B sa 0 w) := by
  refine ⟨fun i j p q hi hj hpq => ?_, fun k q hk => ?_⟩
  · rw [am_rz_get] at hi hj
    cases h1 : w[i]? with
    | none => rw [h1] at hi; cases hi
    | some a =>
      cases h2 : w[j]? with
      | none => rw [h2] at hj; cases hj
      | some b =>
        rw [h1] at hi; rw [h2] at hj
        cases hi; cases hj
        simp only at hpq
        omega
  · rw [am_rz_get] at hk
    cases h1 : w[k]? with
    | none => rw [h1] at hk; cases hk
    | some a => rw [h1] at hk; cases hk; show B ≤ B + _; omega
theorem am_at_some {w : am_W} {a t : Nat} {vs : List Value} (h : am_at w a t = some vs) : w[a]? = some (t, vs) := by
  unfold am_at at h
  split at h
  next c hc =>
    split at h
    next ht => cases h; subst ht; exact hc
    next => cases h
  next => cases h
theorem am_ix_some {vs : List Value} {j : Int32} {v : Value} (h : am_ix vs j = some v) : ¬ j < 0 ∧ vs[j.toNatClampNeg]? = some v := by
  unfold am_ix at h
  split at h
  next => cases h
  next hj => exact ⟨hj, h⟩
theorem am_ix_in {vs : List Value} {j : Int32} {v : Value} (h : am_ix vs j = some v) : vp_in j vs.length := by
  obtain ⟨h1, h2⟩ := am_ix_some h
  have := (List.getElem?_eq_some_iff.mp h2).1
  exact fun q => by rcases q with q | q; exact h1 q; omega
def am_sz (w : am_W) : Nat := (w.map fun c => c.2.length).sum
theorem am_sz_set {w : am_W} {a : Nat} {c c' : am_C} (h : w[a]? = some c) (hl : c'.2.length = c.2.length) : am_sz (w.set a c') = am_sz w := by
  unfold am_sz
  rw [List.map_set, hl]
  congr 1
  apply List.ext_getElem?
  intro i
  rw [List.getElem?_set]
  split
  next e =>
    subst e
    have hlt := (List.getElem?_eq_some_iff.mp h).1
    rw [List.length_map, if_pos hlt, List.getElem?_map, h]; rfl
  next => rfl
theorem am_sz_app (w : am_W) (c : am_C) : am_sz (w ++ [c]) = am_sz w + c.2.length := by simp [am_sz]
theorem am_get (dA : Nat → ClassId) {B : Nat} {sa : Nat → Nat} {w : am_W} {a : Nat} {c : am_C} (h : w[a]? = some c) : (am_rz dA B sa 0 w)[a]? = some (B + a, am_E dA B sa c) := by
  rw [am_rz_get, h]; simp
theorem am_put {dA : Nat → ClassId} {B : Nat} {sa : Nat → Nat} {w : am_W} {a : Nat} {c : am_C} {x : va_E} (hx : x = am_E dA B sa c) : (am_rz dA B sa 0 w).set a (B + a, x) = am_rz dA B sa 0 (w.set a c) := by
  rw [hx, ← am_rz_set dA B sa c w 0 a, Nat.zero_add]
end
section
/-! what works on the world is sound -/
def am_tys (dA : Nat → ClassId) : List (ClassId × FieldType) := [(dA 0, .int), (dA 1, .long), (dA 2, .boolean), (dA 3, .object RX2), (dA 4, .object RX7)]
def am_Kx (D : va_G) (dA : Nat → ClassId) (sa : Nat → Nat) (s : State) : Prop := va_K D vwCl (am_tys dA) s ∧ (∀ q ∈ am_is, 3 ≤ q.2.2.1 → va_Nw (.methodLinkNest (am_R q.1) q.2.1 (am_y q.2.2.2.1) RX8) s) ∧ (∀ q ∈ am_ct, vk_R (am_R q.1) q.2.1 q.2.2.2.1 (sa q.2.2.1) s) ∧ va_AO RX2 s ∧ va_AO RX7 s
theorem am_Kx.warm {D : va_G} {dA : Nat → ClassId} {sa : Nat → Nat} {s U : State} (hW : s.WarmedH U.vm) (h : am_Kx D dA sa s) : am_Kx D dA sa U :=
  ⟨va_K.moved hW.alike h.1, fun q hq hk => va_Nw.warmM hW (h.2.1 q hq hk), fun q hq => (h.2.2.1 q hq).warm hW, va_AO.moved hW.alike h.2.2.2.1, va_AO.moved hW.alike h.2.2.2.2⟩
theorem am_E_obj {dA : Nat → ClassId} {B : Nat} {sa : Nat → Nat} {t : Nat} {vs : List Value} (h : t < 9) : am_E dA B sa (t, vs) = .inr (t, vs.map (am_sh B sa)) := by
  unfold am_E; rw [if_pos (show t < 100 by omega)]
theorem am_E_100 {dA : Nat → ClassId} {B : Nat} {sa : Nat → Nat} {vs : List Value} : am_E dA B sa (100, vs) = .inl (dA 0, vs.length, .inl (fun j => am_i (vs.getD j .null))) := rfl
theorem am_E_101 {dA : Nat → ClassId} {B : Nat} {sa : Nat → Nat} {vs : List Value} : am_E dA B sa (101, vs) = .inl (dA 1, vs.length, .inr (.inl (fun j => am_l (vs.getD j .null)))) := rfl
theorem am_E_102 {dA : Nat → ClassId} {B : Nat} {sa : Nat → Nat} {vs : List Value} : am_E dA B sa (102, vs) = .inl (dA 2, vs.length, .inl (fun j => am_i (vs.getD j .null))) := rfl
theorem am_E_103 {dA : Nat → ClassId} {B : Nat} {sa : Nat → Nat} {vs : List Value} : am_E dA B sa (103, vs) = .inl (dA 3, vs.length, .inr (.inr (.inr (.inr (fun j => am_r B (vs.getD j .null)))))) := rfl
theorem am_E_104 {dA : Nat → ClassId} {B : Nat} {sa : Nat → Nat} {vs : List Value} : am_E dA B sa (104, vs) = .inl (dA 4, vs.length, .inr (.inr (.inr (.inr (fun j => am_r B (vs.getD j .null)))))) := rfl
theorem am_fs_of {c idx : Nat} {q : Nat × Nat × Nat × Nat × Nat} (h : am_lk am_fs c idx = some q) : q.1 < 9 ∧ q.2.1 < (am_k q.1).2.2.2.1 ∧ ((am_k q.1).2.2.1 q.2.1).1 = (am_k q.1).2.1 ∧ am_wd q.2.2.2.2 = some (.fieldLink (am_R c) idx (am_k q.1).2.1 ((am_k q.1).2.2.1 q.2.1).2.1 ((am_k q.1).2.2.1 q.2.1).2.2.1) ∧ ((am_k q.1).2.2.1 q.2.1).2.2.2 = decide (q.2.2.2.1 = 1) ∧
    (if q.2.2.1 = 0 then decide (parseFieldDescriptor ((am_k q.1).2.2.1 q.2.1).2.2.1 = some .int) else if q.2.2.1 = 1 then decide (parseFieldDescriptor ((am_k q.1).2.2.1 q.2.1).2.2.1 = some .long) else match parseFieldDescriptor ((am_k q.1).2.2.1 q.2.1).2.2.1 with
        | some (.object _) => true
        | some (.array _) => true
        | _ => false) = true := by
  have h1 := List.all_eq_true.mp am_okF_all _ (am_lk_mem h)
  simp only [am_okF, Bool.and_eq_true, decide_eq_true_eq] at h1
  obtain ⟨⟨⟨⟨⟨h2, h3⟩, h4⟩, h5⟩, h6⟩, h7⟩ := h1
  exact ⟨h7, h2, h3, h4, h5, h6⟩
theorem am_vk_of {B : Nat} {sa : Nat → Nat} {fk : Nat} {v : Value} {ds : String} (h : am_vk fk v = true) (ht : (if fk = 0 then decide (parseFieldDescriptor ds = some .int) else if fk = 1 then decide (parseFieldDescriptor ds = some .long) else match parseFieldDescriptor ds with
        | some (.object _) => true
        | some (.array _) => true
        | _ => false) = true) : ∃ ty, parseFieldDescriptor ds = some ty ∧ narrow ty (am_sh B sa v) = am_sh B sa v ∧ fits ty (am_sh B sa v) = true := by
  unfold am_vk at h
  split at h
  · rw [if_pos rfl] at ht
    exact ⟨_, of_decide_eq_true ht, rfl, rfl⟩
  · rw [if_neg (by decide), if_pos rfl] at ht
    exact ⟨_, of_decide_eq_true ht, rfl, rfl⟩
  · rw [if_neg (by decide), if_neg (by decide)] at ht
    split at ht
    next he => exact ⟨_, he, rfl, rfl⟩
    next he => exact ⟨_, he, rfl, rfl⟩
    next => cases ht
  · rw [if_neg (by decide), if_neg (by decide)] at ht
    split at ht
    next he => exact ⟨_, he, rfl, rfl⟩
    next he => exact ⟨_, he, rfl, rfl⟩
    next => cases ht
  · cases h
theorem am_ks_of {t : Nat} (ht : t < 9) : (am_k t).2.1 = am_R (am_k t).1 ∧ (∀ j, j < (am_k t).2.2.2.1 → am_wd ((am_k t).2.2.2.2.2.1.getD j 0) = some (u_lay (am_k t).2.1 (am_k t).2.2.1 j)) ∧ am_wd (am_k t).2.2.2.2.2.2 = some (.instantiable (am_k t).2.1 (am_k t).2.2.2.1) ∧ am_wd (am_ini (am_k t).1) = some (.initialized (am_k t).2.1) := by
  have h1 := List.all_eq_true.mp am_okK_all t (List.mem_range.mpr ht)
  simp only [am_okK, Bool.and_eq_true, decide_eq_true_eq, List.all_eq_true, List.mem_range] at h1
  obtain ⟨⟨⟨⟨⟨h2, h3⟩, h4⟩, h5⟩, h6⟩, h7⟩ := h1
  exact ⟨h2, h4, h5, h6⟩
theorem am_ks_in {t : Nat} (ht : t < 9) : ∀ w ∈ u_ws (am_k t).2.1 (am_k t).2.2.1 (am_k t).2.2.2.1, w ∈ am_gw := by
  intro w hw
  obtain ⟨j, hj, rfl⟩ := List.mem_map.mp hw
  refine am_gw_in ((am_ks_of ht).2.1 j (List.mem_range.mp hj)) ?_
  unfold u_lay
  split <;> rfl
theorem am_ns_of {c idx : Nat} {q : Nat × Nat} (h : am_lk am_ns c idx = some q) : am_wd q.2 = some (.classLink (am_R c) idx (am_k q.1).2.1) ∧ q.1 < 9 := by
  have h1 := List.all_eq_true.mp am_okn_all _ (am_lk_mem h)
  simp only [Bool.and_eq_true, decide_eq_true_eq] at h1
  exact h1
theorem am_df_sh (B : Nat) (sa : Nat → Nat) {t : Nat} : ∀ j, j < (am_k t).2.2.2.1 → defaultValue ((am_k t).2.2.2.2.1 j) = vp_V ((am_df t).map (am_sh B sa)) j := by
  intro j hj
  unfold vp_V am_df
  rw [List.getD_eq_getElem?_getD, List.getElem?_map, List.getElem?_map, List.getElem?_range hj]
  show _ = am_sh B sa (defaultValue _)
  cases (am_k t).2.2.2.2.1 j <;> rfl
section AMH
variable {p : Program} {l : Launch} {e : Env} {R : Room} {s : State} {m : MethodId} {args : Array Value} {below : List Frame} {meth : Method} {c : Code} {H : Heap} {locs : List Loc} {cells slots : Nat} {Q : State → Prop}
variable {cc : ByteArray} {pc : Nat} {ls : Array Slot} {D : va_G} {dA : Nat → ClassId} {B : Nat} {sa : Nat → Nat}
theorem am_szW {g : JFrame} (k : H.size ≤ s.heap.size + cells → W p l e R s m args below meth c H locs cells slots Q g) : W p l e R s m args below meth c H locs cells slots Q g :=
  fun T hT X => k (by rw [← hT]; exact X.heapSize) T hT X
theorem am_size {w : am_W} (hP : va_P D vwCl (am_rz dA B sa 0 w) H) (hS : va_S (fun q => B ≤ q) s.heap H locs) (hB : B ≤ s.heap.size) (hc : s.heap.size + cells = B + w.length) (h : H.size ≤ s.heap.size + cells) : H.size = B + w.length := by
  have h1 : B + w.length ≤ H.size := by
    cases hw : w.length with
    | zero => have := hS.1; omega
    | succ n =>
      have hl : n < w.length := by omega
      have := (hP n _ (am_get dA (List.getElem?_eq_getElem hl))).lt
      simp only at this
      omega
  omega
theorem am_new {w : am_W} {x : am_C} {H1 : Heap} (hP : va_P D vwCl (am_rz dA B sa 0 w) H) (hz : H.size = B + w.length) (hx : va_at D vwCl (B + w.length, am_E dA B sa x) H1) (o1 : ∀ q : Nat, q < H.size → H1[q]? = H[q]?) : va_P D vwCl (am_rz dA B sa 0 (w ++ [x])) H1 := by
  rw [am_rz_app, Nat.zero_add]
  refine va_P.app (hP.kept fun k q hk => o1 q.1 (hP k q hk).lt) (fun k q hk => ?_)
  cases k with
  | zero => simp at hk; rw [← hk]; exact hx
  | succ k => simp at hk
theorem am_newS {H1 : Heap} (hS : va_S (fun q => B ≤ q) s.heap H locs) (z : H.size ≤ H1.size) (o1 : ∀ q : Nat, q < H.size → H1[q]? = H[q]?) : va_S (fun q => B ≤ q) s.heap H1 locs :=
  ⟨Nat.le_trans hS.1 z, fun q h1 h2 => (o1 q (Nat.lt_of_lt_of_le h1 hS.1)).trans (hS.2.1 q h1 h2), hS.2.2⟩
theorem am_push (H : Heap) (x : Cell) : (H.push x)[H.size]? = some x ∧ (H.push x).size = H.size + 1 ∧ ∀ q : Nat, q < H.size → (H.push x)[q]? = H[q]? :=
  ⟨by simp, by simp, fun q hq => by rw [Array.getElem?_push, if_neg (Nat.ne_of_lt hq)]⟩
theorem am_sum4 {B : Nat} {sa : Nat → Nat} : ∀ (r : List Value) , (((r.map (am_sh B sa)).map fun v => v.category).sum) ≤ 2 * r.length
  | [] => by simp
  | v :: t => by
    have h := am_sum4 (B := B) (sa := sa) t
    have h2 : (am_sh B sa v).category ≤ 2 := by rcases lv_cat (am_sh B sa v) with h | h <;> omega
    simp only [List.map_cons, List.sum_cons, List.length_cons]
    omega
set_option maxHeartbeats 4000000 in
theorem am_hp_ok (hx : p.tables.exec = Jvm.exec) (hb : c.code = cc) (hml : c.maxLocals = ls.size) {k : Nat} (hown : s.vm.findClass (am_R k) = some m.cls) (hts : ∀ w ∈ am_gw, w.before args s = true) (hK : am_Kx D dA sa s) {ini : Bool} (hini : ini = true → meth.name = "<init>") {d : Nat} (hfr : d ≤ R.frames) (hlo : 35 * d ≤ R.locals)
    {i : Instr} {z : Nat} {st st' : List Value} {w w' : am_W} (h : am_hp k ini d i st w = some (st', w')) (hd : decode cc pc = .ok (i, z)) (hz : am_ln i = z)
    (hP : va_P D vwCl (am_rz dA B sa 0 w) H) (hS : va_S (fun q => B ≤ q) s.heap H locs) (hB : B ≤ s.heap.size) (hc : s.heap.size + cells = B + w.length) {z0 : Nat} (hs : z0 + slots = am_sz w) (hcr : B + w'.length ≤ s.heap.size + R.cells) (hsr : am_sz w' ≤ z0 + R.slots)
    (kk : ∀ (H' : Heap) (locs' : List Loc) (cells' slots' : Nat), va_P D vwCl (am_rz dA B sa 0 w') H' → va_S (fun q => B ≤ q) s.heap H' locs' → s.heap.size + cells' = B + w'.length → z0 + slots' = am_sz w' → W p l e R s m args below meth c H' locs' cells' slots' Q (F0 m (pc + z) ls (st'.map (am_sh B sa)))) :
    W p l e R s m args below meth c H locs cells slots Q (F0 m pc ls (st.map (am_sh B sa))) := by
  subst hz
  have hD := am_rz_D dA B sa w
  cases i with
  | getfield idx =>
    simp only [am_hp] at h
    split at h
    next a r =>
      split at h
      next q hq =>
        split at h
        next vs hvs =>
          split at h
          next v hv =>
            cases h
            obtain ⟨ht, hk, hT1, hlink, -, -⟩ := am_fs_of hq
            have he := am_get dA (B := B) (sa := sa) (am_at_some hvs)
            rw [am_E_obj ht] at he
            exact va_get hx hb hts (am_ks_in ht) hown hK.1 hP a he (am_ks_cl _ ht) q.2.1 hk (ref := (am_k q.1).2.1) (hts _ (am_gw_in hlink rfl)) (fun x h9 => by rw [hT1] at h9; exact h9) (v := am_sh B sa v) (by rw [List.getElem?_map, hv]; rfl) hd (kk H locs cells slots hP hS hc hs)
          next => cases h
        next => cases h
      next => cases h
    next => cases h
  | putfield idx =>
    simp only [am_hp] at h
    split at h
    next v a r =>
      split at h
      next q hq =>
        split at h
        next vs hvs =>
          split at h
          next hq2 =>
            cases h
            obtain ⟨hvk, hlen, hfi⟩ := hq2
            obtain ⟨ht, hk, hT1, hlink, hfin, hty⟩ := am_fs_of hq
            have hw := am_at_some hvs
            have he := am_get dA (B := B) (sa := sa) hw
            rw [am_E_obj ht] at he
            obtain ⟨ty, h1, h2, h3⟩ := am_vk_of (B := B) (sa := sa) hvk hty
            have hput : (am_rz dA B sa 0 w).set a (B + a, .inr (q.1, (vs.map (am_sh B sa)).set q.2.1 (am_sh B sa v))) = am_rz dA B sa 0 (w.set a (q.1, vs.set q.2.1 v)) := am_put (by rw [am_E_obj ht, List.map_set])
            have fin : ∀ (H1 : Heap) (locs1 : List Loc), va_P D vwCl ((am_rz dA B sa 0 w).set a (B + a, .inr (q.1, (vs.map (am_sh B sa)).set q.2.1 (am_sh B sa v)))) H1 → va_D (fun q => B ≤ q) ((am_rz dA B sa 0 w).set a (B + a, .inr (q.1, (vs.map (am_sh B sa)).set q.2.1 (am_sh B sa v)))) → va_S (fun q => B ≤ q) s.heap H1 locs1 → W p l e R s m args below meth c H1 locs1 cells slots Q (F0 m (pc + 3) ls (st'.map (am_sh B sa))) := by
              intro H1 locs1 hP1 _ hS1
              rw [hput] at hP1
              exact kk H1 locs1 cells slots hP1 hS1 (by rw [List.length_set]; exact hc) (by rw [am_sz_set hw (by simp)]; exact hs)
            by_cases hf : q.2.2.2.1 = 1
            · have hf2 := hfi.resolve_left (fun q => q hf)
              exact va_putF hx hb hts (am_ks_in ht) (am_k q.1).2.2.2.2.1 (am_ks_ty _ ht) (am_ks_nm _ ht) hown hK.1 hP hD hS a he (am_ks_cl _ ht) q.2.1 hk (ref := (am_k q.1).2.1) (hts _ (am_gw_in hlink rfl)) (fun x h9 => by rw [hT1] at h9; exact h9) (by rw [hfin, hf]; rfl) (hini hf2.1) (by rw [hT1, (am_ks_of ht).1, hf2.2]) h1 h2 h3 (by rw [List.length_map]; exact hlen) hd fin
            · exact va_put hx hb hts (am_ks_in ht) (am_k q.1).2.2.2.2.1 (am_ks_ty _ ht) (am_ks_nm _ ht) hown hK.1 hP hD hS a he (am_ks_cl _ ht) q.2.1 hk (ref := (am_k q.1).2.1) (hts _ (am_gw_in hlink rfl)) (fun x h9 => by rw [hT1] at h9; exact h9) (by rw [hfin]; exact decide_eq_false hf) h1 h2 h3 (by rw [List.length_map]; exact hlen) hd fin
          next => cases h
        next => cases h
      next => cases h
    next => cases h
  | iaload =>
    simp only [am_hp] at h
    split at h
    next j a r =>
      split at h
      next vs hvs =>
        split at h
        next x hv =>
          cases h
          have he := am_get dA (B := B) (sa := sa) (am_at_some hvs)
          rw [am_E_100] at he
          refine va_iald hx hb hK.1 hP a 0 he rfl (am_ix_in hv) hd ?_
          rw [List.getD_eq_getElem?_getD, (am_ix_some hv).2]
          exact kk H locs cells slots hP hS hc hs
        next => cases h
      next => cases h
    next => cases h
  | laload =>
    simp only [am_hp] at h
    split at h
    next j a r =>
      split at h
      next vs hvs =>
        split at h
        next x hv =>
          cases h
          have he := am_get dA (B := B) (sa := sa) (am_at_some hvs)
          rw [am_E_101] at he
          refine va_lald hx hb hK.1 hP a 1 he rfl (am_ix_in hv) hd ?_
          rw [List.getD_eq_getElem?_getD, (am_ix_some hv).2]
          exact kk H locs cells slots hP hS hc hs
        next => cases h
      next => cases h
    next => cases h
  | baload =>
    simp only [am_hp] at h
    split at h
    next j a r =>
      split at h
      next vs hvs =>
        split at h
        next x hv =>
          cases h
          have he := am_get dA (B := B) (sa := sa) (am_at_some hvs)
          rw [am_E_102] at he
          refine va_zald hx hb hK.1 hP a 2 he rfl (am_ix_in hv) hd ?_
          rw [List.getD_eq_getElem?_getD, (am_ix_some hv).2]
          exact kk H locs cells slots hP hS hc hs
        next => cases h
      next => cases h
    next => cases h
  | aaload =>
    simp only [am_hp] at h
    split at h
    next j a r =>
      split at h
      next x hw =>
        split at h
        next ht =>
          split at h
          next y hv =>
            cases h
            obtain ⟨t, vs⟩ := x
            have he := am_get dA (B := B) (sa := sa) hw
            rcases ht with rfl | rfl
            · rw [am_E_103] at he
              refine va_aldq hx hb hK.1 hP a 3 he rfl (am_ix_in hv) hd ?_
              rw [List.getD_eq_getElem?_getD, (am_ix_some hv).2]
              exact kk H locs cells slots hP hS hc hs
            · rw [am_E_104] at he
              refine va_aldq hx hb hK.1 hP a 4 he rfl (am_ix_in hv) hd ?_
              rw [List.getD_eq_getElem?_getD, (am_ix_some hv).2]
              exact kk H locs cells slots hP hS hc hs
          next => cases h
        next => cases h
      next => cases h
    next => cases h
  | iastore =>
    simp only [am_hp] at h
    split at h
    next x j a r =>
      split at h
      next vs hvs =>
        split at h
        next u hv =>
          cases h
          have hw := am_at_some hvs
          have he := am_get dA (B := B) (sa := sa) hw
          rw [am_E_100] at he
          have hlt := (List.getElem?_eq_some_iff.mp (am_ix_some hv).2).1
          refine va_iast hx hb hK.1 hP hD hS a 0 he rfl (am_ix_in hv) hd fun H1 locs1 hP1 _ hS1 => ?_
          rw [am_put (c := (100, vs.set j.toNatClampNeg (.int x))) (by
            rw [am_E_100, List.length_set]
            congr 4
            funext q
            unfold upd
            dsimp only
            rw [List.getD_eq_getElem?_getD, List.getD_eq_getElem?_getD, List.getElem?_set]
            by_cases hq : q = j.toNatClampNeg
            · rw [if_pos hq, if_pos hq.symm, if_pos hlt]; rfl
            · rw [if_neg hq, if_neg (Ne.symm hq)])] at hP1
          exact kk H1 locs1 cells slots hP1 hS1 (by rw [List.length_set]; exact hc) (by rw [am_sz_set hw (by simp)]; exact hs)
        next => cases h
      next => cases h
    next => cases h
  | lastore =>
    simp only [am_hp] at h
    split at h
    next x j a r =>
      split at h
      next vs hvs =>
        split at h
        next u hv =>
          cases h
          have hw := am_at_some hvs
          have he := am_get dA (B := B) (sa := sa) hw
          rw [am_E_101] at he
          have hlt := (List.getElem?_eq_some_iff.mp (am_ix_some hv).2).1
          refine va_last hx hb hK.1 hP hD hS a 1 he rfl (am_ix_in hv) hd fun H1 locs1 hP1 _ hS1 => ?_
          rw [am_put (c := (101, vs.set j.toNatClampNeg (.long x))) (by
            rw [am_E_101, List.length_set]
            congr 5
            funext q
            unfold vp_updL
            dsimp only
            rw [List.getD_eq_getElem?_getD, List.getD_eq_getElem?_getD, List.getElem?_set]
            by_cases hq : q = j.toNatClampNeg
            · rw [if_pos hq, if_pos hq.symm, if_pos hlt]; rfl
            · rw [if_neg hq, if_neg (Ne.symm hq)])] at hP1
          exact kk H1 locs1 cells slots hP1 hS1 (by rw [List.length_set]; exact hc) (by rw [am_sz_set hw (by simp)]; exact hs)
        next => cases h
      next => cases h
    next => cases h
  | bastore =>
    simp only [am_hp] at h
    split at h
    next x j a r =>
      split at h
      next vs hvs =>
        split at h
        next u hv =>
          split at h
          next hx1 =>
            cases h
            subst hx1
            have hw := am_at_some hvs
            have he := am_get dA (B := B) (sa := sa) hw
            rw [am_E_102] at he
            have hlt := (List.getElem?_eq_some_iff.mp (am_ix_some hv).2).1
            refine va_zast hx hb hK.1 hP hD hS a 2 he rfl (am_ix_in hv) hd fun H1 locs1 hP1 _ hS1 => ?_
            rw [am_put (c := (102, vs.set j.toNatClampNeg (.int 1))) (by
              rw [am_E_102, List.length_set]
              congr 4
              funext q
              unfold upd
              dsimp only
              rw [List.getD_eq_getElem?_getD, List.getD_eq_getElem?_getD, List.getElem?_set]
              by_cases hq : q = j.toNatClampNeg
              · rw [if_pos hq, if_pos hq.symm, if_pos hlt]; decide
              · rw [if_neg hq, if_neg (Ne.symm hq)])] at hP1
            exact kk H1 locs1 cells slots hP1 hS1 (by rw [List.length_set]; exact hc) (by rw [am_sz_set hw (by simp)]; exact hs)
          next => cases h
        next => cases h
      next => cases h
    next => cases h
  | aastore =>
    simp only [am_hp] at h
    split at h
    next b j a r =>
      split at h
      next x hw =>
        split at h
        next u hv =>
          split at h
          next y hy =>
            split at h
            next ht =>
              cases h
              obtain ⟨t, vs⟩ := x
              obtain ⟨t2, us⟩ := y
              have he := am_get dA (B := B) (sa := sa) hw
              have hb2 := am_get dA (B := B) (sa := sa) hy
              have hlt := (List.getElem?_eq_some_iff.mp (am_ix_some hv).2).1
              have hfn : va_up (fun j => am_r B (vs.getD j .null)) j.toNatClampNeg (some (B + b)) = fun q => am_r B ((vs.set j.toNatClampNeg (.ref b)).getD q .null) := by
                funext q
                unfold va_up
                dsimp only
                rw [List.getD_eq_getElem?_getD, List.getD_eq_getElem?_getD, List.getElem?_set]
                by_cases hq : q = j.toNatClampNeg
                · rw [if_pos hq, if_pos hq.symm, if_pos hlt]; rfl
                · rw [if_neg hq, if_neg (Ne.symm hq)]
              rcases ht with ⟨rfl, rfl⟩ | ⟨rfl, rfl⟩
              · rw [am_E_103] at he
                rw [am_E_obj (by decide)] at hb2
                refine va_astq hx hb hK.1 hP hD hS a 3 b 2 he (r := (RX2, TX2, 4)) rfl hb2 rfl (am_ix_in hv) hd fun H1 locs1 hP1 _ hS1 => ?_
                rw [am_put (c := (103, vs.set j.toNatClampNeg (.ref b))) (by rw [am_E_103, List.length_set, hfn])] at hP1
                exact kk H1 locs1 cells slots hP1 hS1 (by rw [List.length_set]; exact hc) (by rw [am_sz_set hw (by simp)]; exact hs)
              · rw [am_E_104] at he
                rw [am_E_obj (by decide)] at hb2
                refine va_astq hx hb hK.1 hP hD hS a 4 b 6 he (r := (RX7, TX7, 15)) rfl hb2 rfl (am_ix_in hv) hd fun H1 locs1 hP1 _ hS1 => ?_
                rw [am_put (c := (104, vs.set j.toNatClampNeg (.ref b))) (by rw [am_E_104, List.length_set, hfn])] at hP1
                exact kk H1 locs1 cells slots hP1 hS1 (by rw [List.length_set]; exact hc) (by rw [am_sz_set hw (by simp)]; exact hs)
            next => cases h
          next => cases h
        next => cases h
      next => cases h
    next => cases h
  | arraylength =>
    simp only [am_hp] at h
    split at h
    next a r =>
      split at h
      next x hw =>
        split at h
        next ht =>
          cases h
          obtain ⟨t, vs⟩ := x
          have he := am_get dA (B := B) (sa := sa) hw
          obtain ⟨h1, h2⟩ := ht
          simp only at h1 h2
          rcases (show t = 100 ∨ t = 101 ∨ t = 102 ∨ t = 103 ∨ t = 104 by omega) with rfl | rfl | rfl | rfl | rfl
          · rw [am_E_100] at he; exact va_alen hx hb hK.1 hP a 0 he rfl rfl hd (kk H locs cells slots hP hS hc hs)
          · rw [am_E_101] at he; exact va_alen hx hb hK.1 hP a 1 he rfl rfl hd (kk H locs cells slots hP hS hc hs)
          · rw [am_E_102] at he; exact va_alen hx hb hK.1 hP a 2 he rfl rfl hd (kk H locs cells slots hP hS hc hs)
          · rw [am_E_103] at he; exact va_alen hx hb hK.1 hP a 3 he rfl rfl hd (kk H locs cells slots hP hS hc hs)
          · rw [am_E_104] at he; exact va_alen hx hb hK.1 hP a 4 he rfl rfl hd (kk H locs cells slots hP hS hc hs)
        next => cases h
      next => cases h
    next => cases h
  | new idx =>
    simp only [am_hp] at h
    split at h
    next q hq =>
      cases h
      obtain ⟨hlink, ht⟩ := am_ns_of hq
      obtain ⟨-, -, hin2, hin3⟩ := am_ks_of ht
      have hKn := hK.1.1 q.1 _ (am_ks_cl _ ht)
      have hlen : (am_df q.1).length = (am_k q.1).2.2.2.1 := by simp [am_df]
      rw [List.length_append] at hcr
      rw [am_sz_app] at hsr
      simp only [List.length_cons, List.length_nil, hlen] at hcr hsr
      refine am_szW fun hle => ?_
      have hsz := am_size hP hS hB hc hle
      refine W.newcK hx hb hown (hts _ (am_gw_in hlink rfl)) (hts _ (am_gw_in hin2 rfl)) (hts _ (am_gw_in hin3 rfl)) rfl hd (by omega) (by omega) hKn.2.1 hsz fun H1 kC hkC e1 z1 o1 => ?_
      refine kk H1 locs (cells + 1) (slots + (am_k q.1).2.2.2.1) (am_new hP hsz ?_ (fun x hx => o1 x (by omega))) (am_newS hS (by omega) (fun x hx => o1 x (by omega))) (by simp; omega) (by rw [am_sz_app, hlen]; omega)
      rw [am_E_obj ht]
      exact ⟨_, am_ks_cl _ ht, (u_born _ hts (am_ks_in ht) hKn hkC e1 (am_ks_ty _ ht)).to (am_df_sh B sa)⟩
    next => cases h
  | newarray ty =>
    simp only [am_hp] at h
    split at h
    next n r =>
      split at h
      next => cases h
      next hn =>
        have hn0 : ¬ n < 0 := fun q => hn (Or.inl q)
        have hn1 : n.toNatClampNeg ≤ 100000 := by
          rcases Nat.lt_or_ge 100000 n.toNatClampNeg with q | q
          · exact absurd (Or.inr q) hn
          · exact q
        split at h
        · cases h
          rw [List.length_append] at hcr
          rw [am_sz_app] at hsr
          simp only [List.length_cons, List.length_nil, List.length_replicate] at hcr hsr
          refine am_szW fun hle => ?_
          have hsz := am_size hP hS hB hc hle
          refine W.newa hx hb (atype := .int) (hts _ (am_gw_in am_okp.2.2.2.2.2.1 rfl)) rfl hd rfl hn0 (by show _ * 4 ≤ _; omega) (by omega) (by omega) fun cA kA comp f1 f2 f3 => ?_
          have hA : cA = dA 0 := Option.some.inj (f1.symm.trans (hK.1.2 0 (dA 0, .int) rfl).2)
          subst hA
          obtain ⟨g1, g2, g3⟩ := am_push H ({ cls := dA 0, slots := Array.replicate n.toNatClampNeg (defaultValue (newarray.typeOf .int)), vm := .none } : Cell)
          rw [hsz] at g1
          have := kk (H.push ({ cls := dA 0, slots := Array.replicate n.toNatClampNeg (defaultValue (newarray.typeOf .int)), vm := .none } : Cell)) locs (cells + 1) (slots + n.toNatClampNeg) (am_new hP hsz (by
            rw [am_E_100]
            show _ = some (vp_cell _ _)
            rw [g1, arrV_new, vp_cell_i, List.length_replicate]
            congr 2
            funext j
            rw [List.getD_eq_getElem?_getD, List.getElem?_replicate]
            split <;> rfl) g3) (am_newS hS (by omega) g3) (by simp; omega) (by rw [am_sz_app, List.length_replicate]; omega)
          rw [hsz]
          exact this
        · cases h
          rw [List.length_append] at hcr
          rw [am_sz_app] at hsr
          simp only [List.length_cons, List.length_nil, List.length_replicate] at hcr hsr
          refine am_szW fun hle => ?_
          have hsz := am_size hP hS hB hc hle
          refine W.newa hx hb (atype := .long) (hts _ (am_gw_in am_okp.2.2.2.2.2.2.1 rfl)) rfl hd rfl hn0 (by show _ * 8 ≤ _; omega) (by omega) (by omega) fun cA kA comp f1 f2 f3 => ?_
          have hA : cA = dA 1 := Option.some.inj (f1.symm.trans (hK.1.2 1 (dA 1, .long) rfl).2)
          subst hA
          obtain ⟨g1, g2, g3⟩ := am_push H ({ cls := dA 1, slots := Array.replicate n.toNatClampNeg (defaultValue (newarray.typeOf .long)), vm := .none } : Cell)
          rw [hsz] at g1
          have := kk (H.push ({ cls := dA 1, slots := Array.replicate n.toNatClampNeg (defaultValue (newarray.typeOf .long)), vm := .none } : Cell)) locs (cells + 1) (slots + n.toNatClampNeg) (am_new hP hsz (by
            rw [am_E_101]
            show _ = some (vp_cell _ _)
            rw [g1, arrV_new, vp_cell_l, List.length_replicate]
            congr 2
            funext j
            rw [List.getD_eq_getElem?_getD, List.getElem?_replicate]
            split <;> rfl) g3) (am_newS hS (by omega) g3) (by simp; omega) (by rw [am_sz_app, List.length_replicate]; omega)
          rw [hsz]
          exact this
        · cases h
          rw [List.length_append] at hcr
          rw [am_sz_app] at hsr
          simp only [List.length_cons, List.length_nil, List.length_replicate] at hcr hsr
          refine am_szW fun hle => ?_
          have hsz := am_size hP hS hB hc hle
          refine W.newa hx hb (atype := .boolean) (hts _ (am_gw_in am_okp.2.2.2.2.2.2.2.1 rfl)) rfl hd rfl hn0 (by show _ * 1 ≤ _; omega) (by omega) (by omega) fun cA kA comp f1 f2 f3 => ?_
          have hA : cA = dA 2 := Option.some.inj (f1.symm.trans (hK.1.2 2 (dA 2, .boolean) rfl).2)
          subst hA
          obtain ⟨g1, g2, g3⟩ := am_push H ({ cls := dA 2, slots := Array.replicate n.toNatClampNeg (defaultValue (newarray.typeOf .boolean)), vm := .none } : Cell)
          rw [hsz] at g1
          have := kk (H.push ({ cls := dA 2, slots := Array.replicate n.toNatClampNeg (defaultValue (newarray.typeOf .boolean)), vm := .none } : Cell)) locs (cells + 1) (slots + n.toNatClampNeg) (am_new hP hsz (by
            rw [am_E_102]
            show _ = some (vp_cell _ _)
            rw [g1, arrV_new, vp_cell_i, List.length_replicate]
            congr 2
            funext j
            rw [List.getD_eq_getElem?_getD, List.getElem?_replicate]
            split <;> rfl) g3) (am_newS hS (by omega) g3) (by simp; omega) (by rw [am_sz_app, List.length_replicate]; omega)
          rw [hsz]
          exact this
        · cases h
    next => cases h
  | anewarray idx =>
    simp only [am_hp] at h
    split at h
    next n r =>
      split at h
      next => cases h
      next hn =>
        have hn0 : ¬ n < 0 := fun q => hn (Or.inl q)
        have hn1 : n.toNatClampNeg ≤ 100000 := by
          rcases Nat.lt_or_ge 100000 n.toNatClampNeg with q | q
          · exact absurd (Or.inr q) hn
          · exact q
        split at h
        next q hq =>
          obtain ⟨hlink, ht⟩ := am_ns_of hq
          obtain ⟨q1, q2⟩ := q
          simp only at hlink h ht
          split at h
          next hq1 =>
            subst hq1
            cases h
            rw [List.length_append] at hcr
            rw [am_sz_app] at hsr
            simp only [List.length_cons, List.length_nil, List.length_replicate] at hcr hsr
            refine am_szW fun hle => ?_
            have hsz := am_size hP hS hB hc hle
            refine W.anew hx hb hown (hts _ (am_gw_in hlink rfl)) (C := RX2) (va_AO.use hK.2.2.2.1) rfl hd rfl hn0 (by omega) (by omega) (by omega) fun cA kA comp f1 f2 f3 f4 => ?_
            obtain ⟨kB, cmp, b1, b2, b3, b4⟩ := (hK.1.2 3 (dA 3, .object RX2) rfl).2
            have hA : cA = dA 3 := Option.some.inj (f1.symm.trans b4)
            subst hA
            obtain ⟨g1, g2, g3⟩ := am_push H ({ cls := dA 3, slots := Array.replicate n.toNatClampNeg .null, vm := .none } : Cell)
            rw [hsz] at g1
            have := kk (H.push ({ cls := dA 3, slots := Array.replicate n.toNatClampNeg .null, vm := .none } : Cell)) locs (cells + 1) (slots + n.toNatClampNeg) (am_new hP hsz (by
              rw [am_E_103]
              show _ = some (vp_cell _ _)
              rw [g1, arrV_new, vp_cell_q, List.length_replicate]
              congr 2
              funext j
              rw [List.getD_eq_getElem?_getD, List.getElem?_replicate]
              split <;> rfl) g3) (am_newS hS (by omega) g3) (by simp; omega) (by rw [am_sz_app, List.length_replicate]; omega)
            rw [hsz]
            exact this
          next =>
            split at h
            next hq1 =>
              subst hq1
              cases h
              rw [List.length_append] at hcr
              rw [am_sz_app] at hsr
              simp only [List.length_cons, List.length_nil, List.length_replicate] at hcr hsr
              refine am_szW fun hle => ?_
              have hsz := am_size hP hS hB hc hle
              refine W.anew hx hb hown (hts _ (am_gw_in hlink rfl)) (C := RX7) (va_AO.use hK.2.2.2.2) rfl hd rfl hn0 (by omega) (by omega) (by omega) fun cA kA comp f1 f2 f3 f4 => ?_
              obtain ⟨kB, cmp, b1, b2, b3, b4⟩ := (hK.1.2 4 (dA 4, .object RX7) rfl).2
              have hA : cA = dA 4 := Option.some.inj (f1.symm.trans b4)
              subst hA
              obtain ⟨g1, g2, g3⟩ := am_push H ({ cls := dA 4, slots := Array.replicate n.toNatClampNeg .null, vm := .none } : Cell)
              rw [hsz] at g1
              have := kk (H.push ({ cls := dA 4, slots := Array.replicate n.toNatClampNeg .null, vm := .none } : Cell)) locs (cells + 1) (slots + n.toNatClampNeg) (am_new hP hsz (by
                rw [am_E_104]
                show _ = some (vp_cell _ _)
                rw [g1, arrV_new, vp_cell_q, List.length_replicate]
                congr 2
                funext j
                rw [List.getD_eq_getElem?_getD, List.getElem?_replicate]
                split <;> rfl) g3) (am_newS hS (by omega) g3) (by simp; omega) (by rw [am_sz_app, List.length_replicate]; omega)
              rw [hsz]
              exact this
            next => cases h
        next => cases h
    next => cases h
  | ldc idx =>
    simp only [am_hp] at h
    split at h
    next q hq =>
      cases h
      have h1 := List.all_eq_true.mp am_okci_all _ (am_lk_mem hq)
      simp only [decide_eq_true_eq] at h1
      exact lv_ldc hx hb hown (hts _ (am_gw_in h1 rfl)) hd (kk H locs cells slots hP hS hc hs)
    next =>
      split at h
      next q hq =>
        cases h
        exact va_ldcS hx hb hown (hK.2.2.1 _ (am_lk_mem hq)) hd (kk H locs cells slots hP hS hc hs)
      next => cases h
  | ldc_w idx =>
    simp only [am_hp] at h
    split at h
    next q hq =>
      cases h
      have h1 := List.all_eq_true.mp am_okci_all _ (am_lk_mem hq)
      simp only [decide_eq_true_eq] at h1
      exact lv_ldcw hx hb hown (hts _ (am_gw_in h1 rfl)) hd (kk H locs cells slots hP hS hc hs)
    next => cases h
  | ldc2_w idx =>
    simp only [am_hp] at h
    split at h
    next q hq =>
      cases h
      have h1 := List.all_eq_true.mp am_okcl_all _ (am_lk_mem hq)
      simp only [decide_eq_true_eq] at h1
      exact lv_ldc2 hx hb hown (hts _ (am_gw_in h1 rfl)) hd (kk H locs cells slots hP hS hc hs)
    next => cases h
  | invokespecial idx =>
    simp only [am_hp] at h
    split at h
    next a r =>
      split at h
      next q hq =>
        split at h
        next hq2 =>
          cases h
          have h1 := List.all_eq_true.mp am_okoi_all _ (am_lk_mem hq)
          simp only [decide_eq_true_eq] at h1
          have h4 := am_sum4 (B := B) (sa := sa) st'
          have h5 : 2 * (F0 m pc ls (.ref (B + a) :: st'.map (am_sh B sa))).monitorRoom + ((st'.map (am_sh B sa)).map fun v => v.category).sum ≤ 8 := lv_room (by omega)
          exact W.objInit hx hb hown (hts _ (am_gw_in h1 rfl)) (hts _ (am_gw_in am_okp.2.2.2.1 rfl)) (hts _ (am_gw_in am_okp.2.2.2.2.1 rfl)) (g := F0 m pc ls (.ref (B + a) :: st'.map (am_sh B sa))) rfl hml.symm rfl hd (by omega) (by omega) (kk H locs cells slots hP hS hc hs)
        next => cases h
      next => cases h
    next => cases h
  | invokestatic idx =>
    simp only [am_hp] at h
    split at h
    next n dp a sp b r =>
      split at h
      next q hq =>
        split at h
        next vs hvs =>
          split at h
          next us hus =>
            split at h
            next hcond =>
              cases h
              obtain ⟨k1, k2, k3, k4, k5, k6, k7⟩ := hcond
              have h1 := List.all_eq_true.mp am_okac_all _ (am_lk_mem hq)
              simp only [decide_eq_true_eq] at h1
              have h4 := am_sum4 (B := B) (sa := sa) st'
              have hwb := am_at_some hvs
              have hwa := am_at_some hus
              have heb := am_get dA (B := B) (sa := sa) hwb
              have hea := am_get dA (B := B) (sa := sa) hwa
              rw [am_E_100] at heb hea
              refine va_copyi hx hb hml hown (hts _ (am_gw_in h1 rfl)) (hts _ (am_gw_in am_okp.1 rfl)) (hts _ (am_gw_in am_okp.2.1 rfl)) (hts _ (am_gw_in am_okp.2.2.1 rfl)) hK.1 hP hD hS b a 0 0 heb hea rfl rfl rfl k1 k2 k3 k4 k5 (fun _ _ => rfl) (by omega) (by
                have e : nativeFrameWords "java/lang/System" "arraycopy" 5 = 7 := by decide
                rw [e]; omega) hd fun H1 locs1 hP1 _ hS1 => ?_
              rw [am_put (c := (100, us.take dp.toNatClampNeg ++ (vs.drop sp.toNatClampNeg).take n.toNatClampNeg ++ us.drop (dp.toNatClampNeg + n.toNatClampNeg))) (by
                rw [am_E_100]
                have e1 : (us.take dp.toNatClampNeg).length = dp.toNatClampNeg := by rw [List.length_take]; omega
                have e2 : ((vs.drop sp.toNatClampNeg).take n.toNatClampNeg).length = n.toNatClampNeg := by rw [List.length_take, List.length_drop]; omega
                have e3 : (us.take dp.toNatClampNeg ++ (vs.drop sp.toNatClampNeg).take n.toNatClampNeg ++ us.drop (dp.toNatClampNeg + n.toNatClampNeg)).length = us.length := by
                  rw [List.length_append, List.length_append, e1, e2, List.length_drop]; omega
                rw [e3]
                congr 4
                funext j
                unfold va_cpy
                dsimp only
                rw [List.getD_eq_getElem?_getD, List.getD_eq_getElem?_getD, List.getD_eq_getElem?_getD]
                by_cases hj : dp.toNatClampNeg ≤ j ∧ j < dp.toNatClampNeg + n.toNatClampNeg
                · rw [if_pos hj, List.getElem?_append_left (by rw [List.length_append, e1, e2]; omega), List.getElem?_append_right (by rw [e1]; omega), e1, List.getElem?_take, if_pos (by omega), List.getElem?_drop]
                · rw [if_neg hj]
                  by_cases hj2 : j < dp.toNatClampNeg
                  · rw [List.getElem?_append_left (by rw [List.length_append, e1, e2]; omega), List.getElem?_append_left (by rw [e1]; omega), List.getElem?_take, if_pos hj2]
                  · rw [List.getElem?_append_right (by rw [List.length_append, e1, e2]; omega), List.length_append, e1, e2, List.getElem?_drop]
                    congr 3
                    omega)] at hP1
              have e1 : (us.take dp.toNatClampNeg).length = dp.toNatClampNeg := by rw [List.length_take]; omega
              have e2 : ((vs.drop sp.toNatClampNeg).take n.toNatClampNeg).length = n.toNatClampNeg := by rw [List.length_take, List.length_drop]; omega
              have e3 : (us.take dp.toNatClampNeg ++ (vs.drop sp.toNatClampNeg).take n.toNatClampNeg ++ us.drop (dp.toNatClampNeg + n.toNatClampNeg)).length = us.length := by
                rw [List.length_append, List.length_append, e1, e2, List.length_drop]; omega
              exact kk H1 locs1 cells slots hP1 hS1 (by rw [List.length_set]; exact hc) (by rw [am_sz_set hwa e3]; exact hs)
            next => cases h
          next => cases h
        next => cases h
      next => cases h
    next => cases h
  | _ => cases (show none = some (st', w') from h)
end AMH
end
section
/-! THE RUN IS SOUND -/
theorem am_ofW {l : Launch} {y : MethodName} {ws ws' : List Cond} {rm : Room} {Pc : Array Value → State → Prop} {Qc : Array Value → State → Outcome → State → Prop} {mc ms : Nat} {free : Addr → Prop} {cc : ByteArray} {maxL : Nat} {ret : Option FieldType}
    (hy : plainFor y = true) (hw : ws = Cond.code y cc maxL ret :: ws')
    (body : ∀ p e s m args below meth c s₁, BodyLoose p l y (headSpec ws rm) cc maxL ret e s m args below meth c s₁ → c.maxLocals = maxL → Pc args s →
      W p l e (headSpec ws rm).room s m args below meth c s.heap [] 0 0 (MQ below Qc args s mc ms free) (entryFrame m args maxL)) : Met l y ws rm Pc Qc mc ms free := by
  refine MetFree.of_bodySF (code := cc) (maxLocals := maxL) (ret := ret) hy ?_ ?_
  · intro args s m h hn
    obtain ⟨meth, c, h1, h2, h3, h4, h5, h6, -, -⟩ := Cond.code_spec hn (atoms_spec (ws := ws) h _ (by rw [hw]; exact List.mem_cons_self))
    exact ⟨meth, c, h1, h2, h3, h4, h5, h6⟩
  · intro p e s m args below meth c s₁ B hml hP _
    have hh0 : s₁.heap = s.heap := by rw [B.state]; rfl
    obtain ⟨t, a1, o, b1, b2, b3⟩ := body p e s m args below meth c s₁ B hml hP s₁ hh0 (Stand.of_body B)
    exact ⟨t, o, a1, b1, b2, ⟨b3.1, b3.2⟩⟩
theorem am_setm {w : am_W} {a : Nat} {c c' : am_C} (h : w[a]? = some c) (hl : c'.2.length = c.2.length) : w.length ≤ (w.set a c').length ∧ am_sz w ≤ am_sz (w.set a c') :=
  ⟨by simp, Nat.le_of_eq (am_sz_set h hl).symm⟩
theorem am_appm (w : am_W) (c : am_C) : w.length ≤ (w ++ [c]).length ∧ am_sz w ≤ am_sz (w ++ [c]) := ⟨by simp, by rw [am_sz_app]; omega⟩
theorem am_rfm (w : am_W) : w.length ≤ w.length ∧ am_sz w ≤ am_sz w := ⟨Nat.le_refl _, Nat.le_refl _⟩
set_option maxHeartbeats 4000000 in
theorem am_hp_mono {c : Nat} {ini : Bool} {d : Nat} {i : Instr} {st st' : List Value} {w w' : am_W} (h : am_hp c ini d i st w = some (st', w')) : w.length ≤ w'.length ∧ am_sz w ≤ am_sz w' := by
  cases i with
  | invokestatic idx =>
    simp only [am_hp] at h
    repeat' (split at h)
    all_goals first
      | (cases h; done)
      | skip
    next hcond =>
      cases h
      obtain ⟨k1, k2, k3, k4, k5, k6, k7⟩ := hcond
      refine am_setm (am_at_some (by assumption)) ?_
      simp only [List.length_append, List.length_take, List.length_drop]
      omega
  | _ =>
    simp only [am_hp] at h
    repeat' (split at h)
    all_goals first
      | (cases h; done)
      | (cases h; exact am_rfm _)
      | (cases h; exact am_appm _ _)
      | (cases h; exact am_setm (am_at_some (by assumption)) (by simp))
      | (cases h; exact am_setm (by assumption) (by simp))
theorem am_one_mono {c : Nat} {ini : Bool} {d pc z : Nat} {i : Instr} {L L' : List (Option Value)} {st st' : List Value} {w w' : am_W} {pc' : Nat} (h : am_one c ini d pc i z L st w = some (pc', L', st', w')) : w.length ≤ w'.length ∧ am_sz w ≤ am_sz w' := by
  unfold am_one at h
  split at h
  · split at h
    · cases h; exact am_rfm _
    · cases h
  · split at h
    · split at h
      · cases h; exact am_rfm _
      · split at h
        · cases h; exact am_rfm _
        · split at h
          next hh => cases h; exact am_hp_mono hh
          next => cases h
    · cases h
theorem am_run_mono : ∀ (n : Nat) {d k pc : Nat} {L : List (Option Value)} {st : List Value} {w w' : am_W} {v : Option Value}, am_run n d k pc L st w = some (v, w') → w.length ≤ w'.length ∧ am_sz w ≤ am_sz w' := by
  intro n
  induction n with
  | zero => intro d k pc L st w w' v h; cases h
  | succ n ih =>
    intro d k pc L st w w' v h
    rw [am_run] at h
    split at h
    · split at h
      next h1 =>
        have a := am_one_mono h1
        have b := ih h
        omega
      · split at h
        · split at h
          · cases h; exact am_rfm _
          · cases h
        · split at h
          · split at h
            · cases h
            · split at h
              · split at h
                next h1 =>
                  have a := ih h1
                  have b := ih h
                  omega
                · cases h
              · cases h
          · split at h
            · split at h
              · exact ih h
              · cases h
            · cases h
    · cases h
/-- what an answer and a world are behind a method -/
def am_Q (D : va_G) (dA : Nat → ClassId) (B : Nat) (sa : Nat → Nat) (v : Option Value) (w : am_W) : Array Value → State → Outcome → State → Prop := fun _ s o t =>
  o = .returned (v.map (am_sh B sa)) ∧ va_P D vwCl (am_rz dA B sa 0 w) t.heap ∧ t.heap.size = B + w.length ∧ va_F (fun q => B ≤ q) s t
def am_rm (d mc ms : Nat) : Room := { frames := d, cells := mc, slots := ms, locals := 35 * d }
/-- what holds of a method's frame -/
def am_Fx (p : Program) (R : Room) (s : State) (m : MethodId) (args : Array Value) (meth : Method) (c : Code) (k d : Nat) : Prop :=
  p.tables.exec = Jvm.exec ∧ c.code = am_code k ∧ meth.sig.returnType = am_rt k ∧ c.maxLocals = am_mx k ∧ s.vm.findClass (am_R (am_kl k)) = some m.cls ∧ meth.locks = false ∧ meth.name = (am_y k).name ∧ (∀ w ∈ am_gw, w.before args s = true) ∧ d ≤ R.frames ∧ 35 * d ≤ R.locals
/-- X is of the tables and of what lies below B -/
def am_XM (B : Nat) (X : State → Prop) : Prop := ∀ s U : State, s.WarmedH U.vm → s.heap.size ≤ U.heap.size → (∀ q : Nat, q < s.heap.size → ¬ B ≤ q → U.heap[q]? = s.heap[q]?) → X s → X U
/-- the String constants' own members are sound -/
def am_XE (l : Launch) (D : va_G) (dA : Nat → ClassId) (B : Nat) (sa : Nat → Nat) (X : State → Prop) : Prop :=
  ∀ (p : Program) (e : Env) (R : Room) (s : State) (m : MethodId) (args : Array Value) (below : List Frame) (meth : Method) (c : Code) (H : Heap) (locs : List Loc) (cells slots : Nat) (Q : State → Prop) (pc : Nat) (ls : Array Slot) (k d : Nat) (i : Instr) (st st' : List Value),
    am_Fx p R s m args meth c k d → ls.size = am_mx k → am_Kx D dA sa s → X s → va_S (fun q => B ≤ q) s.heap H locs → B ≤ s.heap.size → cells ≤ R.cells → slots ≤ R.slots → am_xe (am_kl k) d i st = some st' → decode (am_code k) pc = .ok (i, 3) →
    W p l e R s m args below meth c H locs cells slots Q (F0 m (pc + 3) ls (st'.map (am_sh B sa))) → W p l e R s m args below meth c H locs cells slots Q (F0 m pc ls (st.map (am_sh B sa)))
theorem am_okM_of {k : Nat} (hk : k < am_N) : am_wd (am_m k).2.2.2.2.2 = some (.code (am_y k) (am_code k) (am_mx k) (am_rt k)) ∧ (am_y k).cls = am_R (am_kl k) ∧ am_wd (am_ini (am_kl k)) = some (.initialized (am_R (am_kl k))) ∧ plainFor (am_y k) = true ∧ ((am_y k).cls ≠ "java/lang/invoke/MethodHandle" ∧ (am_y k).cls ≠ "java/lang/invoke/VarHandle") ∧ am_mx k ≤ 16 ∧ 0 < am_mx k := by
  have h1 := List.all_eq_true.mp am_okM_all k (List.mem_range.mpr hk)
  simp only [am_okM, Bool.and_eq_true, decide_eq_true_eq] at h1
  obtain ⟨⟨⟨⟨⟨⟨⟨h2, h3⟩, h4⟩, h5⟩, h6⟩, h7⟩, h8⟩, h9⟩ := h1
  exact ⟨am_okC k hk, h2, h3, am_pl h4, ⟨h5, h6⟩, h8, h9⟩
theorem am_is_of {c idx : Nat} {q : Nat × Nat × Nat × Nat × Nat × Nat} (h : am_lk am_is c idx = some q) :
    (q.1 < 3 → am_wd q.2.2.2.1 = some (.methodLink (am_R c) idx (am_y q.2.1))) ∧ (q.1 = 0 ∨ q.1 = 4 → am_wd q.2.2.2.2.1 = some (.static (am_y q.2.1))) ∧ (¬ (q.1 = 0 ∨ q.1 = 4) → am_wd q.2.2.2.2.1 = some (.instanceMethod (am_y q.2.1))) ∧ (q.1 = 1 → am_wd q.2.2.2.2.2 = some (.selects (am_y q.2.1).cls (am_y q.2.1) (am_y q.2.1))) ∧ (q.1 = 2 ∨ q.1 = 3 → (am_y q.2.1).name = "<init>" ∧ am_rt q.2.1 = none) ∧ q.2.1 < am_N ∧ (parseMethodDescriptor (am_y q.2.1).desc).map (fun d => d.parameters.length) = some q.2.2.1 := by
  have h1 := List.all_eq_true.mp am_okI_all _ (am_lk_mem h)
  simp only [am_okI, Bool.and_eq_true, decide_eq_true_eq] at h1
  obtain ⟨⟨⟨⟨⟨⟨h2, h3⟩, h4⟩, h5⟩, h6⟩, h7⟩, h8⟩ := h1
  refine ⟨fun q => ?_, fun q => ?_, fun q => ?_, fun q => ?_, fun q => ?_, h6, h7⟩
  · rw [if_pos q] at h2; exact of_decide_eq_true h2
  · rw [if_pos q] at h3; exact of_decide_eq_true h3
  · rw [if_neg q] at h3; exact of_decide_eq_true h3
  · rw [if_pos q] at h4; exact of_decide_eq_true h4
  · rw [if_pos q, Bool.and_eq_true] at h5; exact ⟨of_decide_eq_true h5.1, of_decide_eq_true h5.2⟩
section AMR
variable {p : Program} {l : Launch} {e : Env} {R : Room} {s : State} {m : MethodId} {args : Array Value} {below : List Frame} {meth : Method} {c : Code} {H : Heap} {locs : List Loc} {cells slots : Nat} {Q : State → Prop}
variable {pc : Nat} {ls : Array Slot} {D : va_G} {dA : Nat → ClassId} {B : Nat} {sa : Nat → Nat}
theorem am_lo_ok {cc : ByteArray} (hx : p.tables.exec = Jvm.exec) (hb : c.code = cc) {nL : Nat} {i : Instr} {z : Nat} {L L' : List (Option Value)} {st st' : List Value} (h : am_lo i L st = some (L', st')) (hd : decode cc pc = .ok (i, z)) (hz : am_ln i = z) (hl : am_Lh B sa nL L ls)
    (kk : ∀ ls' : Array Slot, am_Lh B sa nL L' ls' → W p l e R s m args below meth c H locs cells slots Q (F0 m (pc + z) ls' (st'.map (am_sh B sa)))) : W p l e R s m args below meth c H locs cells slots Q (F0 m pc ls (st.map (am_sh B sa))) := by
  subst hz
  have keep1 : ∀ {j : Nat} {v : Value} {ls' : Array Slot}, j < L.length → lv_has ls' nL ((j, am_sh B sa v) :: (am_as B sa 0 L).filter (fun q => !(q.1 == j) && !(q.1 + 1 == j && q.2.category == 2))) → am_Lh B sa nL (am_s1 L j v) ls' :=
    fun hj h1 => ⟨by rw [am_s1_len]; exact hl.1, lv_weak h1 (am_s1_in hj)⟩
  have keep2 : ∀ {j : Nat} {v : Value} {ls' : Array Slot}, j + 1 < L.length → lv_has ls' nL ((j, am_sh B sa v) :: (am_as B sa 0 L).filter (fun q => !(q.1 == j) && (!(q.1 == j + 1) && !(q.1 + 1 == j && q.2.category == 2)))) → am_Lh B sa nL (am_s2 L j v) ls' :=
    fun hj h1 => ⟨by rw [am_s2_len]; exact hl.1, lv_weak h1 (am_s2_in hj)⟩
  cases i with
  | iload j =>
    simp only [am_lo, am_ldi] at h
    split at h
    next x hx2 => cases h; exact lv_iload hx hb hd (am_ld_at hl hx2) (kk ls hl)
    next => cases h
  | iload_n j =>
    simp only [am_lo, am_ldi] at h
    split at h
    next x hx2 => cases h; exact lv_iload_n hx hb hd rfl (am_ld_at hl hx2) (kk ls hl)
    next => cases h
  | lload j =>
    simp only [am_lo, am_ldl] at h
    split at h
    next x hx2 => cases h; exact lv_lload hx hb hd (am_ld_at hl hx2) (kk ls hl)
    next => cases h
  | lload_n j =>
    simp only [am_lo, am_ldl] at h
    split at h
    next x hx2 => cases h; exact lv_lload_n hx hb hd rfl (am_ld_at hl hx2) (kk ls hl)
    next => cases h
  | aload j =>
    simp only [am_lo, am_lda] at h
    split at h
    next x hx2 => cases h; exact lv_aload hx hb hd (am_ld_at hl hx2) (kk ls hl)
    next x hx2 => cases h; exact lv_aload hx hb hd (am_ld_at hl hx2) (kk ls hl)
    next => cases h
  | aload_n j =>
    simp only [am_lo, am_lda] at h
    split at h
    next x hx2 => cases h; exact lv_aload_n hx hb hd rfl (am_ld_at hl hx2) (kk ls hl)
    next x hx2 => cases h; exact lv_aload_n hx hb hd rfl (am_ld_at hl hx2) (kk ls hl)
    next => cases h
  | istore j =>
    simp only [am_lo, am_sti] at h
    split at h
    next x r =>
      split at h
      next hj => cases h; exact lv_istore hx hb hd hl.2 (by rw [← hl.1]; exact hj) rfl fun ls' h1 => kk ls' (keep1 (v := .int x) hj h1)
      next => cases h
    next => cases h
  | istore_n j =>
    simp only [am_lo, am_sti] at h
    split at h
    next x r =>
      split at h
      next hj => cases h; exact lv_istore_n hx hb hd rfl hl.2 (by rw [← hl.1]; exact hj) rfl fun ls' h1 => kk ls' (keep1 (v := .int x) hj h1)
      next => cases h
    next => cases h
  | lstore j =>
    simp only [am_lo, am_stl] at h
    split at h
    next x r =>
      split at h
      next hj => cases h; exact lv_lstore hx hb hd hl.2 (by rw [← hl.1]; exact hj) rfl fun ls' h1 => kk ls' (keep2 (v := .long x) hj h1)
      next => cases h
    next => cases h
  | lstore_n j =>
    simp only [am_lo, am_stl] at h
    split at h
    next x r =>
      split at h
      next hj => cases h; exact lv_lstore_n hx hb hd rfl hl.2 (by rw [← hl.1]; exact hj) rfl fun ls' h1 => kk ls' (keep2 (v := .long x) hj h1)
      next => cases h
    next => cases h
  | astore_n j =>
    simp only [am_lo, am_sta] at h
    split at h
    next x r =>
      split at h
      next hj => cases h; exact lv_astore_n hx hb hd rfl hl.2 (by rw [← hl.1]; exact hj) rfl fun ls' h1 => kk ls' (keep1 (v := .ref x) hj h1)
      next => cases h
    next => cases h
  | iinc j n =>
    simp only [am_lo] at h
    split at h
    next x hx2 =>
      split at h
      next hj =>
        cases h
        obtain ⟨q, hq⟩ := List.getElem?_of_mem (am_in (B := B) (sa := sa) hx2)
        exact lv_iinc hx hb hd hl.2 hq rfl (by rw [← hl.1]; exact hj) rfl fun ls' h1 => kk ls' (keep1 (v := .int (x + Int32.ofInt n)) hj h1)
      next => cases h
    next => cases h
  | _ => cases (show none = some (L', st') from h)
theorem am_call {y : Nat} {mc ms : Nat} {st0 r : List Value} {free : Addr → Prop} {Qa : State → Outcome → State → Prop} (hr : va_Run p l e R s m args below meth c H locs cells slots mc ms (F0 m pc ls st0) r Qa free)
    (kk : ∀ (v : Option Value) (st t : State) (L : List Loc), st.heap = H → (∀ q ∈ L, free q.base) → Qa st (.returned v) t → W p l e R s m args below meth c t.heap (locs ++ L) (cells + mc) (slots + ms) Q (F0 m (pc + 3) ls (v.toList ++ r))) : W p l e R s m args below meth c H locs cells slots Q (F0 m pc ls st0) := by
  intro T hT X
  obtain ⟨v, st₀, t, T', L, h0, X', hL, e1, e2, hq, st⟩ := hr T hT X
  obtain ⟨t2, a1, b1⟩ := kk v st₀ t L h0 hL hq T' e1 X'
  exact ⟨t2, st t2 a1, b1⟩
set_option maxHeartbeats 3000000 in
/-- a call of k', by its contract -/
theorem am_ca_ok {k d' : Nat} (F : am_Fx p R s m args meth c k (d' + 1)) (hK : am_Kx D dA sa s) {i : Instr} {st as r : List Value} {w : am_W} {k' : Nat} (h : am_ca (am_kl k) i st w = some (k', as, r)) (hd : decode (am_code k) pc = .ok (i, 3)) (hsz : ls.size = am_mx k)
    {mc ms : Nat} {Pc : Array Value → State → Prop} {Qc : Array Value → State → Outcome → State → Prop} {free : Addr → Prop} (hM : Met l (am_y k') (.code (am_y k') (am_code k') (am_mx k') (am_rt k') :: am_gw) (am_rm d' mc ms) Pc Qc mc ms free)
    (hbl : FrameBlind Pc) (hPc : ∀ U : State, U.heap = H → s.WarmedH U.vm → Pc (as.map (am_sh B sa)).toArray U) (hP : va_P D vwCl (am_rz dA B sa 0 w) H) (hf : cells + mc ≤ R.cells ∧ slots + ms ≤ R.slots) :
    va_Run p l e R s m args below meth c H locs cells slots mc ms (F0 m pc ls (st.map (am_sh B sa))) (r.map (am_sh B sa)) (Qc (as.map (am_sh B sa)).toArray) free := by
  obtain ⟨hx, hb, hrt, hml, hown, hlk, hnm, hts, hfr, hlo⟩ := F
  have base : ∀ {q : Nat × Nat × Nat × Nat × Nat × Nat} {idx : Nat}, am_lk am_is (am_kl k) idx = some q → q.2.1 = k' → ((am_rm d' mc ms).cells = mc ∧ (am_rm d' mc ms).slots = ms ∧ (am_rm d' mc ms).frames + 1 ≤ R.frames ∧ 8 + (am_mx k' + 11) + (am_rm d' mc ms).locals ≤ R.locals ∧ (∀ w ∈ (Cond.code (am_y k') (am_code k') (am_mx k') (am_rt k') :: am_gw), ∀ (a' : Array Value) (U : State), s.WarmedH U.vm → w.before a' U = true) ∧ Cond.code (am_y k') (am_code k') (am_mx k') (am_rt k') ∈ (Cond.code (am_y k') (am_code k') (am_mx k') (am_rt k') :: am_gw)) ∧
      (Cond.code (am_y k') (am_code k') (am_mx k') (am_rt k')).before args s = true ∧ (Cond.initialized (am_y k').cls).before args s = true ∧ ((am_y k').cls ≠ "java/lang/invoke/MethodHandle" ∧ (am_y k').cls ≠ "java/lang/invoke/VarHandle") ∧ (∀ sig, parseMethodDescriptor (am_y k').desc = some sig → q.2.2.1 = sig.parameters.length) := by
    intro q idx hq hk
    obtain ⟨-, -, -, -, -, hk2, har⟩ := am_is_of hq
    rw [hk] at hk2 har
    obtain ⟨h1, h2, h3, -, h5, h6, -⟩ := am_okM_of hk2
    have hcode := am_gw_in h1 rfl
    refine ⟨⟨rfl, rfl, hfr, by show 8 + (am_mx k' + 11) + 35 * d' ≤ R.locals; omega, pay_in hts fun w hw => ?_, List.mem_cons_self⟩, hts _ hcode, hts _ (by rw [h2]; exact am_gw_in h3 rfl), h5, fun sig h => ?_⟩
    · rcases List.mem_cons.mp hw with rfl | hw
      · exact ⟨hcode, good_of_word rfl⟩
      · exact ⟨hw, good_of_word (List.mem_filter.mp hw).2⟩
    · rw [h] at har
      exact (Option.some.inj har).symm
  have lr : ∀ {r : List Value}, r.length ≤ 4 → ∀ st0 : List Value, 2 * (F0 m pc ls st0).monitorRoom + ((r.map (am_sh B sa)).map fun v => v.category).sum ≤ 8 := fun {r} hr st0 => lv_room (by have := am_sum4 (B := B) (sa := sa) r; omega)
  have S : CallFix p m c (am_code k) (am_mx k) s args am_gw (am_R (am_kl k)) := ⟨hx, hb, hml, hown, hts⟩
  cases i with
  | invokestatic idx =>
    simp only [am_ca] at h
    split at h
    next q hq =>
      split at h
      next hc =>
        cases h
        obtain ⟨hkind, hn, hr⟩ := hc
        obtain ⟨w1, w2, -, -, -, -, -⟩ := am_is_of hq
        obtain ⟨b1, b2, b3, b4, b5⟩ := base hq rfl
        have hst : st.map (am_sh B sa) = ((st.take q.2.2.1).reverse.map (am_sh B sa)).reverse ++ (st.drop q.2.2.1).map (am_sh B sa) := by
          rw [List.map_reverse, List.reverse_reverse, ← List.map_append, List.take_append_drop]
        have hlen : ((st.take q.2.2.1).reverse.map (am_sh B sa)).length = q.2.2.1 := by simp; omega
        rcases hkind with hk | hk
        · exact va_runS S hM ⟨⟨b1.1, b1.2.1, b1.2.2.1, b1.2.2.2.1, b1.2.2.2.2.1, b1.2.2.2.2.2, b2, b3, b4, b5, hts _ (am_gw_in (w1 (by omega)) rfl)⟩, hts _ (am_gw_in (w2 (Or.inl hk)) rfl)⟩ ⟨hbl, hPc⟩ rfl hlen hsz hst (lr hr _) hd hf
        · have h3 : 3 ≤ q.1 := by omega
          have hN : va_Nw (.methodLinkNest (am_R (am_kl k)) idx (am_y q.2.1) RX8) s := hK.2.1 (am_kl k, idx, q) (am_lk_mem hq) h3
          have hN2 : (Cond.methodLinkNest (am_R (am_kl k)) idx (am_y q.2.1) RX8).before args s = true := va_Nw.use rfl hN
          exact va_runSN (host := RX8) S hM ⟨⟨b1, b2, b3, b4, b5, hN2⟩, hts _ (am_gw_in (w2 (Or.inr hk)) rfl), trivial⟩ ⟨hbl, hPc⟩ rfl hlen hsz hst (lr hr _) hd hf
      next => cases h
    next => cases h
  | invokespecial idx =>
    simp only [am_ca] at h
    split at h
    next q hq =>
      split at h
      next hc =>
        split at h
        next a r' hdrop =>
          cases h
          obtain ⟨hkind, hn, hr⟩ := hc
          obtain ⟨w1, -, w3, -, w5, -, -⟩ := am_is_of hq
          obtain ⟨b1, b2, b3, b4, b5⟩ := base hq rfl
          obtain ⟨n1, n2⟩ := w5 hkind
          have hr2 : r.length ≤ 4 := by
            have e := congrArg List.length hdrop
            rw [List.length_drop] at hr e
            simp at e
            omega
          have hst : st.map (am_sh B sa) = ((st.take q.2.2.1).reverse.map (am_sh B sa)).reverse ++ .ref (B + a) :: r.map (am_sh B sa) := by
            rw [List.map_reverse, List.reverse_reverse]
            have e : st.map (am_sh B sa) = (st.take q.2.2.1 ++ st.drop q.2.2.1).map (am_sh B sa) := by rw [List.take_append_drop]
            rw [e, hdrop, List.map_append]; rfl
          have hlen : ((st.take q.2.2.1).reverse.map (am_sh B sa)).length = q.2.2.1 := by simp; omega
          have hi := hts _ (am_gw_in (w3 (by omega)) rfl)
          rw [n2] at b1 b2 hM
          rcases hkind with hk | hk
          · exact va_runI (b := B + a) S hM ⟨⟨b1.1, b1.2.1, b1.2.2.1, b1.2.2.2.1, b1.2.2.2.2.1, b1.2.2.2.2.2, b2, b3, b4, b5, hts _ (am_gw_in (w1 (by omega)) rfl)⟩, n1, hi⟩ ⟨hbl, hPc⟩ rfl hlen hsz hst (lr hr2 _) hd hf
          · have h3 : 3 ≤ q.1 := by omega
            have hN : va_Nw (.methodLinkNest (am_R (am_kl k)) idx (am_y q.2.1) RX8) s := hK.2.1 (am_kl k, idx, q) (am_lk_mem hq) h3
            have hN2 : (Cond.methodLinkNest (am_R (am_kl k)) idx (am_y q.2.1) RX8).before args s = true := va_Nw.use rfl hN
            exact va_runIN (host := RX8) (b := B + a) S hM ⟨⟨b1, b2, b3, b4, b5, hN2⟩, n1, hi⟩ ⟨hbl, hPc⟩ rfl hlen hsz hst (lr hr2 _) hd hf
        next => cases h
      next => cases h
    next => cases h
  | invokevirtual idx =>
    simp only [am_ca] at h
    split at h
    next q hq =>
      split at h
      next hc =>
        split at h
        next a r' hdrop =>
          split at h
          next x hw =>
            split at h
            next ht =>
              cases h
              obtain ⟨hkind, hn, hr⟩ := hc
              obtain ⟨t, vs⟩ := x
              obtain ⟨ht1, ht2⟩ := ht
              simp only at ht1 ht2
              obtain ⟨w1, -, w3, w4, -, hkN, -⟩ := am_is_of hq
              obtain ⟨b1, b2, b3, b4, b5⟩ := base hq rfl
              have hr2 : r.length ≤ 4 := by
                have e := congrArg List.length hdrop
                rw [List.length_drop] at hr e
                simp at e
                omega
              have hst : st.map (am_sh B sa) = ((st.take q.2.2.1).reverse.map (am_sh B sa)).reverse ++ .ref (B + a) :: r.map (am_sh B sa) := by
                rw [List.map_reverse, List.reverse_reverse]
                have e : st.map (am_sh B sa) = (st.take q.2.2.1 ++ st.drop q.2.2.1).map (am_sh B sa) := by rw [List.take_append_drop]
                rw [e, hdrop, List.map_append]; rfl
              have hlen : ((st.take q.2.2.1).reverse.map (am_sh B sa)).length = q.2.2.1 := by simp; omega
              have he := am_get dA (B := B) (sa := sa) hw
              rw [am_E_obj ht1] at he
              have hC : (am_k t).2.1 = (am_y q.2.1).cls := by rw [(am_ks_of ht1).1, ht2, (am_okM_of hkN).2.1]
              have hrec := va_recv hK.1 hP (am_ks_cl _ ht1) he
              exact va_runV (b := B + a) (C := (am_y q.2.1).cls) S hM ⟨⟨b1.1, b1.2.1, b1.2.2.1, b1.2.2.2.1, b1.2.2.2.2.1, b1.2.2.2.2.2, b2, b3, b4, b5, hts _ (am_gw_in (w1 (by omega)) rfl)⟩, hts _ (am_gw_in (w3 (by omega)) rfl), hts _ (am_gw_in (w4 hkind) rfl)⟩ ⟨hbl, by rw [← hC]; exact hrec, hPc⟩ rfl hlen hsz hst (lr hr2 _) hd hf
            next => cases h
          next => cases h
        next => cases h
      next => cases h
    next => cases h
  | _ => cases (show none = some (k', as, r) from h)
theorem am_one_ok {k d : Nat} (F : am_Fx p R s m args meth c k d) (hK : am_Kx D dA sa s) {i : Instr} {z pc' : Nat} {L L' : List (Option Value)} {st st' : List Value} {w w' : am_W} (h : am_one (am_kl k) (decide ((am_y k).name = "<init>")) d pc i z L st w = some (pc', L', st', w')) (hd : decode (am_code k) pc = .ok (i, z))
    (hl : am_Lh B sa (am_mx k) L ls) (hP : va_P D vwCl (am_rz dA B sa 0 w) H) (hS : va_S (fun q => B ≤ q) s.heap H locs) (hB : B ≤ s.heap.size) (hc : s.heap.size + cells = B + w.length) {z0 : Nat} (hs : z0 + slots = am_sz w) (hcr : B + w'.length ≤ s.heap.size + R.cells) (hsr : am_sz w' ≤ z0 + R.slots)
    (kk : ∀ (H' : Heap) (locs' : List Loc) (cells' slots' : Nat) (ls' : Array Slot), am_Lh B sa (am_mx k) L' ls' → va_P D vwCl (am_rz dA B sa 0 w') H' → va_S (fun q => B ≤ q) s.heap H' locs' → s.heap.size + cells' = B + w'.length → z0 + slots' = am_sz w' → W p l e R s m args below meth c H' locs' cells' slots' Q (F0 m pc' ls' (st'.map (am_sh B sa)))) :
    W p l e R s m args below meth c H locs cells slots Q (F0 m pc ls (st.map (am_sh B sa))) := by
  obtain ⟨hx, hb, hrt, hml, hown, hlk, hnm, hts, hfr, hlo⟩ := F
  unfold am_one at h
  split at h
  next t st2 h1 =>
    split at h
    next hz =>
      cases h
      refine am_br_ok hx hb h1 hd ?_ (kk H locs cells slots ls hl hP hS hc hs)
      rintro (⟨o, rfl⟩ | ⟨a, o, rfl⟩ | ⟨a, o, rfl⟩)
      · exact (of_decide_eq_true hz).symm
      · exact (of_decide_eq_true hz).symm
      · exact (of_decide_eq_true hz).symm
    next => cases h
  next =>
    split at h
    next hz =>
      split at h
      next st2 h1 => cases h; exact am_stk_ok hx hb h1 hd hz (kk H locs cells slots ls hl hP hS hc hs)
      next =>
        split at h
        next L2 st2 h1 => cases h; exact am_lo_ok hx hb h1 hd hz hl fun ls' hl' => kk H locs cells slots ls' hl' hP hS hc hs
        next =>
          split at h
          next st2 w2 h1 => cases h; exact am_hp_ok hx hb (by rw [hml, hl.2.1]) hown hts hK (fun q => by rw [hnm]; exact of_decide_eq_true q) hfr hlo h1 hd hz hP hS hB hc hs hcr hsr fun H' locs' cells' slots' a1 a2 a3 a4 => kk H' locs' cells' slots' ls hl a1 a2 a3 a4
          next => cases h
    next => cases h
/-- the contract of a method, out of the soundness of its run -/
def am_Pc (D : va_G) (dA : Nat → ClassId) (B : Nat) (sa : Nat → Nat) (X : State → Prop) (as : List Value) (w : am_W) : Array Value → State → Prop :=
  va_Pc (as.map (am_sh B sa)) (fun U => am_Kx D dA sa U ∧ X U ∧ va_P D vwCl (am_rz dA B sa 0 w) U.heap ∧ U.heap.size = B + w.length)
def am_Ok (l : Launch) (D : va_G) (dA : Nat → ClassId) (B : Nat) (sa : Nat → Nat) (X : State → Prop) (n : Nat) : Prop :=
  ∀ (d k pc : Nat) (L : List (Option Value)) (st : List Value) (w w' : am_W) (v : Option Value), am_run n d k pc L st w = some (v, w') → k < am_N →
  ∀ (p : Program) (e : Env) (R : Room) (s : State) (m : MethodId) (args : Array Value) (below : List Frame) (meth : Method) (c : Code) (H : Heap) (locs : List Loc) (cells slots mc ms z0 : Nat) (ls : Array Slot),
    am_Fx p R s m args meth c k d → am_Kx D dA sa s → X s → am_Lh B sa (am_mx k) L ls → va_P D vwCl (am_rz dA B sa 0 w) H → va_S (fun q => B ≤ q) s.heap H locs → B ≤ s.heap.size → s.heap.size + cells = B + w.length → z0 + slots = am_sz w → s.heap.size + mc = B + w'.length → z0 + ms = am_sz w' → mc ≤ R.cells → ms ≤ R.slots →
    W p l e R s m args below meth c H locs cells slots (MQ below (am_Q D dA B sa v w') args s mc ms (fun q => B ≤ q)) (F0 m pc ls (st.map (am_sh B sa)))
theorem am_met {X : State → Prop} {n d k mc ms : Nat} (hn : am_Ok l D dA B sa X n) (hk : k < am_N) {as : List Value} {w w' : am_W} {v : Option Value} (he : (am_en as).length ≤ am_mx k) (h : am_run n d k 0 (am_en as ++ List.replicate (am_mx k - (am_en as).length) none) [] w = some (v, w')) (hmc : w.length + mc = w'.length) (hms : am_sz w + ms = am_sz w') :
    Met l (am_y k) (.code (am_y k) (am_code k) (am_mx k) (am_rt k) :: am_gw) (am_rm d mc ms) (am_Pc D dA B sa X as w) (am_Q D dA B sa v w') mc ms (fun q => B ≤ q) := by
  obtain ⟨h1, h2, h3, h4, h5, h6, -⟩ := am_okM_of hk
  refine am_ofW h4 rfl ?_
  intro p e s m args below meth c s₁ Bd hml hv
  obtain ⟨rfl, hK, hX, hP, hsz⟩ := hv
  have hts := atoms_spec (ws := .code (am_y k) (am_code k) (am_mx k) (am_rt k) :: am_gw) Bd.pre
  have hl := lv_entry (as.map (am_sh B sa)) (n := am_mx k) (by rw [am_en_len]; exact he)
  rw [lg_entry_eq]
  have hL : am_Lh B sa (am_mx k) (am_en as ++ List.replicate (am_mx k - (am_en as).length) none) ((lg_sl (as.map (am_sh B sa)) ++ List.replicate (am_mx k - (lg_sl (as.map (am_sh B sa))).length) Slot.unset).toArray) :=
    ⟨by rw [List.length_append, List.length_replicate]; omega, lv_weak hl (am_en_in as _ 0)⟩
  exact hn d k 0 _ [] w w' v h hk p e _ s m _ below meth c s.heap [] 0 0 mc ms (am_sz w) _ ⟨Bd.exec, Bd.bytes, Bd.returns, hml, by rw [← h2]; exact findClass_of_methodNamed Bd.named, Bd.notSynchronized, (name_of_methodNamed Bd.named Bd.method).1, fun w hw => hts w (List.mem_cons_of_mem _ hw), Nat.le_refl _, Nat.le_refl _⟩ hK hX hL hP va_S.rf (by omega) (by omega) rfl (by omega) hms (Nat.le_refl _) (Nat.le_refl _)
theorem am_blind {X : State → Prop} (hX : am_XM B X) {as : List Value} {w : am_W} : FrameBlind (am_Pc D dA B sa X as w) := by
  rintro a U g mk ⟨h1, hK, hx, hP, hsz⟩
  have hW : U.WarmedH (U.calling g mk a).vm := State.WarmedH.refl U
  exact ⟨h1, hK.warm hW, hX U (U.calling g mk a) hW (Nat.le_refl _) (fun _ _ _ => rfl) hx, hP, hsz⟩
set_option maxHeartbeats 4000000 in
theorem am_run_ok (l : Launch) {X : State → Prop} (hX : am_XM B X) (hxe : am_XE l D dA B sa X) : ∀ n : Nat, am_Ok l D dA B sa X n := by
  intro n
  induction n with
  | zero => intro d k pc L st w w' v h; cases h
  | succ n ih =>
    intro d k pc L st w w' v h hk p e R s m args below meth c H locs cells slots mc ms z0 ls F hK hXs hl hP hS hB hc hs hmc hms hcr hsr
    have F' := F
    obtain ⟨hx, hb, hrt, hml, hown, hlk, hnm, hts, hfr, hlo⟩ := F'
    rw [am_run] at h
    split at h
    next i z hd =>
      split at h
      next pc' L' st' w1 h1 =>
        have hm := am_run_mono n h
        exact am_one_ok F hK h1 hd hl hP hS hB hc hs (by omega) (by omega) fun H' locs' cells' slots' ls' a1 a2 a3 a4 a5 => ih d k pc' L' st' w1 w' v h hk p e R s m args below meth c H' locs' cells' slots' mc ms z0 ls' F hK hXs a1 a2 a3 hB a4 a5 hmc hms hcr hsr
      next =>
        split at h
        next v1 h1 =>
          split at h
          next hz =>
            cases h
            subst hz
            refine am_szW fun hle => ?_
            have hsz := am_size hP hS hB hc hle
            have e1 : cells = mc := by omega
            have e2 : slots = ms := by omega
            subst e1; subst e2
            unfold am_re at h1
            split at h1
            · split at h1
              · split at h1
                next hr => cases h1; exact W.vret hx hb (hrt.trans hr) (fun t ht hW => ⟨rfl, by rw [ht]; exact hP, by rw [ht]; exact hsz, hS.F ht⟩) hS.2.2 hd hlk
                next => cases h1
              · cases h1
            · split at h1
              · split at h1
                next hr =>
                  cases h1
                  rcases hr with hr | ⟨hr, hv⟩
                  · exact W.iret hx hb (hrt.trans hr) (fun t ht hW => ⟨rfl, by rw [ht]; exact hP, by rw [ht]; exact hsz, hS.F ht⟩) hS.2.2 hd hlk
                  · exact W.zret hx hb (hrt.trans hr) (by rcases hv with rfl | rfl <;> decide) (fun t ht hW => ⟨rfl, by rw [ht]; exact hP, by rw [ht]; exact hsz, hS.F ht⟩) hS.2.2 hd hlk
                next => cases h1
              · cases h1
            · split at h1
              · split at h1
                next hr => cases h1; exact W.lret hx hb (hrt.trans hr) (fun t ht hW => ⟨rfl, by rw [ht]; exact hP, by rw [ht]; exact hsz, hS.F ht⟩) hS.2.2 hd hlk
                next => cases h1
              · cases h1
            · cases h1
          next => cases h
        next =>
          split at h
          next k' as r h1 =>
            cases d with
            | zero => cases h
            | succ d' =>
              simp only at h
              split at h
              next hz =>
                obtain ⟨rfl, hen, hk'⟩ := hz
                split at h
                next v1 w1 h2 =>
                  have hm1 := am_run_mono n h2
                  have hm2 := am_run_mono n h
                  obtain ⟨mc1, hmc1⟩ : ∃ z, w.length + z = w1.length := ⟨w1.length - w.length, by omega⟩
                  obtain ⟨ms1, hms1⟩ : ∃ z, am_sz w + z = am_sz w1 := ⟨am_sz w1 - am_sz w, by omega⟩
                  refine am_szW fun hle => ?_
                  have hsz := am_size hP hS hB hc hle
                  refine am_call (y := 0) (am_ca_ok F hK h1 hd hl.2.1 (am_met ih hk' hen h2 hmc1 hms1) (am_blind hX) (fun U hU hW => ⟨rfl, hK.warm hW, hX s U hW (by rw [hU]; exact hS.1) (fun q q1 q2 => by rw [hU]; exact hS.2.1 q q1 q2) hXs, by rw [hU]; exact hP, by rw [hU]; exact hsz⟩) hP ⟨by omega, by omega⟩) fun v2 st0 t Lc e0 hLc hq => ?_
                  obtain ⟨q1, q2, q3, q4, q5⟩ := hq
                  cases q1
                  have hS2 : va_S (fun q => B ≤ q) s.heap t.heap (locs ++ Lc) := by
                    rw [e0] at q4 q5
                    exact ⟨Nat.le_trans hS.1 q4, fun q g1 g2 => (q5 q (Nat.lt_of_lt_of_le g1 hS.1) g2).trans (hS.2.1 q g1 g2), fun q hq => (List.mem_append.mp hq).elim (hS.2.2 q) (hLc q)⟩
                  have := ih (d' + 1) k (pc + 3) L (v1.toList ++ r) w1 w' v h hk p e R s m args below meth c t.heap (locs ++ Lc) (cells + mc1) (slots + ms1) mc ms z0 ls F hK hXs hl q2 hS2 hB (by omega) (by omega) hmc hms hcr hsr
                  cases v1 <;> exact this
                next => cases h
              next => cases h
          next =>
            split at h
            next st' h1 =>
              split at h
              next hz =>
                subst hz
                have hm := am_run_mono n h
                exact hxe p e R s m args below meth c H locs cells slots _ pc ls k d i st st' F hl.2.1 hK hXs hS hB (by omega) (by omega) h1 hd (ih d k (pc + 3) L st' w w' v h hk p e R s m args below meth c H locs cells slots mc ms z0 ls F hK hXs hl hP hS hB hc hs hmc hms hcr hsr)
              next => cases h
            next => cases h
    next => cases h
end AMR
end
section
/-! the run as a relation: fuel forgotten -/
theorem am_run_up : ∀ (n : Nat) {d k pc : Nat} {L : List (Option Value)} {st : List Value} {w : am_W} {r : Option Value × am_W}, am_run n d k pc L st w = some r → am_run (n + 1) d k pc L st w = some r := by
  intro n
  induction n with
  | zero => intro d k pc L st w r h; cases h
  | succ n ih =>
    intro d k pc L st w r h
    rw [am_run] at h ⊢
    split at h
    next i z hd =>
      split at h
      next pc' L' st' w1 h1 => exact ih h
      next =>
        split at h
        next v1 h1 => exact h
        next =>
          split at h
          next k' as r1 h1 =>
            cases d with
            | zero => exact h
            | succ d' =>
              simp only at h ⊢
              split at h
              next hz =>
                rw [if_pos hz]
                split at h
                next v1 w1 h2 =>
                  rw [ih h2]
                  exact ih h
                next => cases h
              next => cases h
          next =>
            split at h
            next st' h1 =>
              split at h
              next hz => rw [if_pos hz]; exact ih h
              next => cases h
            next => cases h
    next => cases h
theorem am_run_le {n n' : Nat} (hn : n ≤ n') {d k pc : Nat} {L : List (Option Value)} {st : List Value} {w : am_W} {r : Option Value × am_W} (h : am_run n d k pc L st w = some r) : am_run n' d k pc L st w = some r := by
  obtain ⟨j, rfl⟩ := Nat.exists_eq_add_of_le hn
  induction j with
  | zero => exact h
  | succ j ih => exact am_run_up _ (ih (by omega))
def am_Ev (d k pc : Nat) (L : List (Option Value)) (st : List Value) (w : am_W) (r : Option Value × am_W) : Prop := ∃ n : Nat, am_run n d k pc L st w = some r
/-- a whole call -/
def am_Sp (d k : Nat) (as : List Value) (w : am_W) (v : Option Value) (w' : am_W) : Prop := (am_en as).length ≤ am_mx k ∧ k < am_N ∧ am_Ev d k 0 (am_en as ++ List.replicate (am_mx k - (am_en as).length) none) [] w (v, w')
section EV
variable {d k pc pc' z : Nat} {L L' : List (Option Value)} {st st' : List Value} {w w' w1 : am_W} {r : Option Value × am_W} {i : Instr}
theorem ev_one (hd : decode (am_code k) pc = .ok (i, z)) (h : am_one (am_kl k) (decide ((am_y k).name = "<init>")) d pc i z L st w = some (pc', L', st', w')) (nx : am_Ev d k pc' L' st' w' r) : am_Ev d k pc L st w r := by
  obtain ⟨n, hn⟩ := nx
  exact ⟨n + 1, by rw [am_run, hd]; simp only [h]; exact hn⟩
theorem ev_ret {v : Option Value} (hd : decode (am_code k) pc = .ok (i, 1)) (h1 : am_one (am_kl k) (decide ((am_y k).name = "<init>")) d pc i 1 L st w = none) (h : am_re (am_rt k) i st = some v) : am_Ev d k pc L st w (v, w) :=
  ⟨1, by rw [am_run, hd]; simp only [h1, h]; rfl⟩
theorem ev_call {k' : Nat} {as rs : List Value} {v : Option Value} (hd : decode (am_code k) pc = .ok (i, 3)) (h1 : am_one (am_kl k) (decide ((am_y k).name = "<init>")) (d + 1) pc i 3 L st w = none) (h2 : am_re (am_rt k) i st = none) (h : am_ca (am_kl k) i st w = some (k', as, rs))
    (hc : am_Sp d k' as w v w1) (nx : am_Ev (d + 1) k (pc + 3) L (v.toList ++ rs) w1 r) : am_Ev (d + 1) k pc L st w r := by
  obtain ⟨he, hk, n1, hn1⟩ := hc
  obtain ⟨n2, hn2⟩ := nx
  refine ⟨max n1 n2 + 1, ?_⟩
  rw [am_run, hd]
  simp only [h1, h2, h]
  rw [if_pos ⟨trivial, he, hk⟩, am_run_le (Nat.le_max_left n1 n2) hn1]
  exact am_run_le (Nat.le_max_right n1 n2) hn2
theorem ev_ext (hd : decode (am_code k) pc = .ok (i, 3)) (h1 : am_one (am_kl k) (decide ((am_y k).name = "<init>")) d pc i 3 L st w = none) (h2 : am_re (am_rt k) i st = none) (h : am_ca (am_kl k) i st w = none) (h3 : am_xe (am_kl k) d i st = some st')
    (nx : am_Ev d k (pc + 3) L st' w r) : am_Ev d k pc L st w r := by
  obtain ⟨n, hn⟩ := nx
  exact ⟨n + 1, by rw [am_run, hd]; simp only [h1, h2, h, h3]; exact hn⟩
end EV
section EVM
variable {l : Launch} {D : va_G} {dA : Nat → ClassId} {B : Nat} {sa : Nat → Nat}
/-- a call's contract for the machine -/
theorem am_Sp.met {X : State → Prop} (hX : am_XM B X) (hxe : am_XE l D dA B sa X) {d k mc ms : Nat} {as : List Value} {w w' : am_W} {v : Option Value} (h : am_Sp d k as w v w') (hmc : w.length + mc = w'.length) (hms : am_sz w + ms = am_sz w') :
    Met l (am_y k) (.code (am_y k) (am_code k) (am_mx k) (am_rt k) :: am_gw) (am_rm d mc ms) (am_Pc D dA B sa X as w) (am_Q D dA B sa v w') mc ms (fun q => B ≤ q) := by
  obtain ⟨he, hk, n, hn⟩ := h
  exact am_met (am_run_ok l hX hxe n) hk he hn hmc hms
end EVM
end
section
/-! THE FLAT MEMORY: the world behind the constructors, as three functions of cell and place; printed by wip/whole/gen09.py -/
/-- kind and length of each cell -/
def fm_sh : List (Nat × Nat) := [(7, 9), (6, 15), (100, 8), (100, 8), (100, 8), (100, 8), (100, 4), (100, 4), (100, 6), (100, 6), (100, 6), (4, 6), (100, 6), (100, 6), (100, 6), (100, 6), (100, 6), (2, 4), (100, 8), (100, 8), (100, 8), (103, 8), (2, 4), (100, 8), (100, 8), (100, 8), (2, 4), (100, 8), (100, 8), (100, 8), (2, 4), (100, 8), (100, 8), (100, 8), (2, 4), (100, 8), (100, 8), (100, 8), (2, 4), (100, 8), (100, 8), (100, 8), (2, 4), (100, 8), (100, 8), (100, 8), (2, 4), (100, 8), (100, 8), (100, 8), (2, 4), (100, 8), (100, 8), (100, 8), (1, 9), (100, 4), (0, 2), (100, 8), (100, 8), (2, 4), (100, 8), (100, 8), (100, 8), (100, 4), (100, 24), (100, 6), (100, 63), (5, 9), (6, 15), (100, 8), (100, 8), (100, 8), (100, 8), (100, 4), (100, 4), (100, 6), (100, 6), (100, 6), (4, 6), (100, 6), (100, 6), (100, 6), (100, 6), (100, 6), (2, 4), (100, 8), (100, 8), (100, 8), (103, 8), (2, 4), (100, 8), (100, 8), (100, 8), (2, 4), (100, 8), (100, 8), (100, 8), (2, 4), (100, 8), (100, 8), (100, 8), (2, 4), (100, 8), (100, 8), (100, 8), (2, 4), (100, 8), (100, 8), (100, 8), (2, 4), (100, 8), (100, 8), (100, 8), (2, 4), (100, 8), (100, 8), (100, 8), (2, 4), (100, 8), (100, 8), (100, 8), (100, 150), (3, 2), (104, 2), (6, 15), (100, 8), (100, 8), (100, 8), (100, 8), (100, 4), (100, 4), (100, 6), (100, 6), (100, 6), (4, 6), (100, 6), (100, 6), (100, 6), (100, 6), (100, 6), (2, 4), (100, 8), (100, 8), (100, 8), (103, 8), (2, 4), (100, 8), (100, 8), (100, 8), (2, 4), (100, 8), (100, 8), (100, 8), (2, 4), (100, 8), (100, 8), (100, 8), (2, 4), (100, 8), (100, 8), (100, 8), (2, 4), (100, 8), (100, 8), (100, 8), (2, 4), (100, 8), (100, 8), (100, 8), (2, 4), (100, 8), (100, 8), (100, 8), (2, 4), (100, 8), (100, 8), (100, 8), (6, 15), (100, 8), (100, 8), (100, 8), (100, 8), (100, 4), (100, 4), (100, 6), (100, 6), (100, 6), (4, 6), (100, 6), (100, 6), (100, 6), (100, 6), (100, 6), (2, 4), (100, 8), (100, 8), (100, 8), (103, 8), (2, 4), (100, 8), (100, 8), (100, 8), (2, 4), (100, 8), (100, 8), (100, 8), (2, 4), (100, 8), (100, 8), (100, 8), (2, 4), (100, 8), (100, 8), (100, 8), (2, 4), (100, 8), (100, 8), (100, 8), (2, 4), (100, 8), (100, 8), (100, 8), (2, 4), (100, 8), (100, 8), (100, 8), (2, 4), (100, 8), (100, 8), (100, 8), (102, 2), (8, 20), (100, 373), (100, 373), (100, 746), (100, 2), (100, 150), (100, 3), (100, 8), (100, 25), (100, 4), (100, 6), (100, 63), (101, 9)]
/-- the references that never change -/
def fm_rl : List (List Nat) := [[1, 54, 67, 122, 123, 230, 0, 0, 0], [0, 2, 3, 4, 5, 6, 7, 0, 8, 9, 10, 11, 17, 21, 0], [], [], [], [], [], [], [], [], [], [0, 12, 13, 14, 15, 16], [], [], [], [], [], [0, 18, 19, 20], [], [], [], [], [0, 23, 24, 25], [], [], [], [0, 27, 28, 29], [], [], [], [0, 31, 32, 33], [], [], [], [0, 35, 36, 37], [], [], [], [0, 39, 40, 41], [], [], [], [0, 43, 44, 45], [], [], [], [0, 47, 48, 49], [], [], [], [0, 51, 52, 53], [], [], [], [55, 0, 1, 56, 59, 63, 64, 65, 66], [], [57, 58], [], [], [0, 60, 61, 62], [], [], [], [], [], [], [], [0, 0, 68, 121, 0, 0, 0, 0, 0], [0, 69, 70, 71, 72, 73, 74, 0, 75, 76, 77, 78, 84, 88, 0], [], [], [], [], [], [], [], [], [], [0, 79, 80, 81, 82, 83], [], [], [], [], [], [0, 85, 86, 87], [], [], [], [], [0, 90, 91, 92], [], [], [], [0, 94, 95, 96], [], [], [], [0, 98, 99, 100], [], [], [], [0, 102, 103, 104], [], [], [], [0, 106, 107, 108], [], [], [], [0, 110, 111, 112], [], [], [], [0, 114, 115, 116], [], [], [], [0, 118, 119, 120], [], [], [], [], [], [124, 177], [0, 125, 126, 127, 128, 129, 130, 0, 131, 132, 133, 134, 140, 144, 0], [], [], [], [], [], [], [], [], [], [0, 135, 136, 137, 138, 139], [], [], [], [], [], [0, 141, 142, 143], [], [], [], [], [0, 146, 147, 148], [], [], [], [0, 150, 151, 152], [], [], [], [0, 154, 155, 156], [], [], [], [0, 158, 159, 160], [], [], [], [0, 162, 163, 164], [], [], [], [0, 166, 167, 168], [], [], [], [0, 170, 171, 172], [], [], [], [0, 174, 175, 176], [], [], [], [0, 178, 179, 180, 181, 182, 183, 0, 184, 185, 186, 187, 193, 197, 0], [], [], [], [], [], [], [], [], [], [0, 188, 189, 190, 191, 192], [], [], [], [], [], [0, 194, 195, 196], [], [], [], [], [0, 199, 200, 201], [], [], [], [0, 203, 204, 205], [], [], [], [0, 207, 208, 209], [], [], [], [0, 211, 212, 213], [], [], [], [0, 215, 216, 217], [], [], [], [0, 219, 220, 221], [], [], [], [0, 223, 224, 225], [], [], [], [0, 227, 228, 229], [], [], [], [], [232, 233, 234, 235, 236, 0, 0, 0, 0, 0, 0, 0, 0, 237, 238, 239, 240, 241, 242, 243], [], [], [], [], [], [], [], [], [], [], [], []]
/-- the sort of each field: 0 int, 1 long, 2 reference -/
def fm_kl : List (List Nat) := [[2, 2], [2, 0, 2, 2, 2, 2, 2, 2, 2], [0, 2, 2, 2], [1, 1], [0, 2, 2, 2, 2, 2], [0, 0, 2, 2, 0, 0, 0, 0, 0], [0, 2, 2, 2, 2, 2, 2, 0, 2, 2, 2, 2, 2, 2, 0], [2, 2, 2, 2, 2, 2, 0, 0, 0], [2, 2, 2, 2, 2, 0, 1, 1, 0, 0, 0, 0, 0, 2, 2, 2, 2, 2, 2, 2]]
def fm_n : Nat := 244
def fm_tg (a : Nat) : Nat := (fm_sh.getD a (999, 0)).1
def fm_ln (a : Nat) : Nat := (fm_sh.getD a (999, 0)).2
def fm_kd (t i : Nat) : Nat := if t = 101 then 1 else if t = 103 then 3 else if t = 104 then 2 else (fm_kl.getD t []).getD i 0
def fm_rf (a i : Nat) : Nat := (fm_rl.getD a []).getD i 0
/-- ints, longs, the references that move -/
abbrev fm_S : Type := (Nat → Nat → Int32) × (Nat → Nat → Int64) × (Nat → Nat → Nat)
def fm_sl (S : fm_S) (a i : Nat) : Value := match fm_kd (fm_tg a) i with
  | 0 => .int (S.1 a i)
  | 1 => .long (S.2.1 a i)
  | 2 => .ref (fm_rf a i)
  | _ => .ref (S.2.2 a i)
def fm_vs (S : fm_S) (a : Nat) : List Value := (List.range (fm_ln a)).map (fm_sl S a)
def fm_mk (S : fm_S) : am_W := (List.range fm_n).map fun a => (fm_tg a, fm_vs S a)
def fm_up {α : Type} (f : Nat → Nat → α) (a i : Nat) (x : α) : Nat → Nat → α := fun a' i' => if a' = a ∧ i' = i then x else f a' i'
def fm_wI (S : fm_S) (a i : Nat) (x : Int32) : fm_S := (fm_up S.1 a i x, S.2.1, S.2.2)
def fm_wL (S : fm_S) (a i : Nat) (x : Int64) : fm_S := (S.1, fm_up S.2.1 a i x, S.2.2)
def fm_wP (S : fm_S) (a i : Nat) (x : Nat) : fm_S := (S.1, S.2.1, fm_up S.2.2 a i x)
/-- n ints from place sp of b to place dp of a -/
def fm_cp (S : fm_S) (b sp a dp n : Nat) : fm_S := (fun a' i' => if a' = a ∧ dp ≤ i' ∧ i' < dp + n then S.1 b (sp + (i' - dp)) else S.1 a' i', S.2.1, S.2.2)
theorem fm_sh_len : fm_sh.length = fm_n := by decide +kernel
theorem fm_lt {a : Nat} (h : fm_tg a < 200) : a < fm_n := by
  rcases Nat.lt_or_ge a fm_n with q | q
  · exact q
  · have e : fm_sh[a]? = none := List.getElem?_eq_none (by rw [fm_sh_len]; exact q)
    unfold fm_tg at h
    rw [List.getD_eq_getElem?_getD, e] at h
    exact absurd h (by decide)
theorem fm_get (S : fm_S) {a : Nat} (h : fm_tg a < 200) : (fm_mk S)[a]? = some (fm_tg a, fm_vs S a) := by
  unfold fm_mk
  rw [List.getElem?_map, List.getElem?_range (fm_lt h)]; rfl
theorem fm_at (S : fm_S) {a t : Nat} (h : fm_tg a = t) (ht : t < 200) : am_at (fm_mk S) a t = some (fm_vs S a) := by
  unfold am_at
  rw [fm_get S (by rw [h]; exact ht)]
  simp [h]
theorem fm_el (S : fm_S) {a i : Nat} (h : i < fm_ln a) : (fm_vs S a)[i]? = some (fm_sl S a i) := by
  unfold fm_vs
  rw [List.getElem?_map, List.getElem?_range h]; rfl
theorem fm_vs_len (S : fm_S) (a : Nat) : (fm_vs S a).length = fm_ln a := by simp [fm_vs]
theorem fm_ix (S : fm_S) {a : Nat} {j : Int32} (h : vp_in j (fm_ln a)) : am_ix (fm_vs S a) j = some (fm_sl S a j.toNatClampNeg) := by
  unfold am_ix
  have h0 : ¬ j < 0 := fun q => h (Or.inl q)
  have h1 : j.toNatClampNeg < fm_ln a := Nat.not_le.mp fun q => h (Or.inr q)
  rw [if_neg h0, fm_el S h1]
/-- a write, in general -/
theorem fm_set {S S' : fm_S} {a : Nat} {vs : List Value} (h : fm_tg a < 200) (ha : vs = fm_vs S' a) (ho : ∀ b, b ≠ a → fm_vs S b = fm_vs S' b) : (fm_mk S).set a (fm_tg a, vs) = fm_mk S' := by
  have hl := fm_lt h
  apply List.ext_getElem?
  intro i
  rw [List.getElem?_set]
  unfold fm_mk
  by_cases hi : a = i
  · subst hi
    rw [if_pos rfl, if_pos (by simp; exact hl), List.getElem?_map, List.getElem?_range hl, ha]; rfl
  · rw [if_neg hi, List.getElem?_map, List.getElem?_map]
    cases h2 : (List.range fm_n)[i]? with
    | none => rfl
    | some j =>
      have e : j = i := by
        have hlt := (List.getElem?_eq_some_iff.mp h2).1
        rw [List.length_range] at hlt
        rw [List.getElem?_range hlt] at h2
        exact (Option.some.inj h2).symm
      subst e
      show some (fm_tg j, fm_vs S j) = some (fm_tg j, fm_vs S' j)
      rw [ho j (Ne.symm hi)]
theorem fm_vs_eq {S S' : fm_S} {a : Nat} (h : ∀ i, i < fm_ln a → fm_sl S a i = fm_sl S' a i) : fm_vs S a = fm_vs S' a := by
  unfold fm_vs
  exact List.map_congr_left fun i hi => h i (List.mem_range.mp hi)
theorem fm_vs_set {S S' : fm_S} {a i : Nat} {v : Value} (hi : i < fm_ln a) (hv : fm_sl S' a i = v) (ho : ∀ j, j ≠ i → fm_sl S a j = fm_sl S' a j) : (fm_vs S a).set i v = fm_vs S' a := by
  apply List.ext_getElem?
  intro j
  rw [List.getElem?_set, fm_vs_len]
  by_cases hj : i = j
  · subst hj
    rw [if_pos rfl, if_pos hi, fm_el S' hi, hv]
  · rw [if_neg hj]
    unfold fm_vs
    rw [List.getElem?_map, List.getElem?_map]
    cases h2 : (List.range (fm_ln a))[j]? with
    | none => rfl
    | some q =>
      have e : q = j := by
        have hlt := (List.getElem?_eq_some_iff.mp h2).1
        rw [List.length_range] at hlt
        rw [List.getElem?_range hlt] at h2
        exact (Option.some.inj h2).symm
      subst e
      show some _ = some _
      rw [ho q (Ne.symm hj)]
theorem fm_up_self {α : Type} (f : Nat → Nat → α) (a i : Nat) (x : α) : fm_up f a i x a i = x := by simp [fm_up]
theorem fm_up_cell {α : Type} (f : Nat → Nat → α) {a b : Nat} (i j : Nat) (x : α) (h : b ≠ a) : fm_up f a i x b j = f b j := by simp [fm_up, h]
theorem fm_up_place {α : Type} (f : Nat → Nat → α) (a : Nat) {b i j : Nat} (x : α) (h : j ≠ i) : fm_up f a i x b j = f b j := by simp [fm_up, h]
theorem fm_sl_wI {S : fm_S} {a i b j : Nat} {x : Int32} (h : ¬ (b = a ∧ j = i)) : fm_sl S b j = fm_sl (fm_wI S a i x) b j := by
  unfold fm_sl fm_wI
  split <;> first | rfl | (simp [fm_up, h])
theorem fm_sl_wL {S : fm_S} {a i b j : Nat} {x : Int64} (h : ¬ (b = a ∧ j = i)) : fm_sl S b j = fm_sl (fm_wL S a i x) b j := by
  unfold fm_sl fm_wL
  split <;> first | rfl | (simp [fm_up, h])
theorem fm_sl_wP {S : fm_S} {a i b j : Nat} {x : Nat} (h : ¬ (b = a ∧ j = i)) : fm_sl S b j = fm_sl (fm_wP S a i x) b j := by
  unfold fm_sl fm_wP
  split <;> first | rfl | (simp [fm_up, h])
theorem fm_setI (S : fm_S) {a i : Nat} (x : Int32) (h : fm_tg a < 200) (hk : fm_kd (fm_tg a) i = 0) (hi : i < fm_ln a) : (fm_mk S).set a (fm_tg a, (fm_vs S a).set i (.int x)) = fm_mk (fm_wI S a i x) :=
  fm_set h (fm_vs_set hi (by unfold fm_sl; rw [hk]; simp [fm_wI, fm_up]) (fun j hj => fm_sl_wI fun q => hj q.2)) (fun b hb => fm_vs_eq fun j _ => fm_sl_wI fun q => hb q.1)
theorem fm_setL (S : fm_S) {a i : Nat} (x : Int64) (h : fm_tg a < 200) (hk : fm_kd (fm_tg a) i = 1) (hi : i < fm_ln a) : (fm_mk S).set a (fm_tg a, (fm_vs S a).set i (.long x)) = fm_mk (fm_wL S a i x) :=
  fm_set h (fm_vs_set hi (by unfold fm_sl; rw [hk]; simp [fm_wL, fm_up]) (fun j hj => fm_sl_wL fun q => hj q.2)) (fun b hb => fm_vs_eq fun j _ => fm_sl_wL fun q => hb q.1)
theorem fm_setP (S : fm_S) {a i : Nat} (x : Nat) (h : fm_tg a < 200) (hk : fm_kd (fm_tg a) i = 3) (hi : i < fm_ln a) : (fm_mk S).set a (fm_tg a, (fm_vs S a).set i (.ref x)) = fm_mk (fm_wP S a i x) :=
  fm_set h (fm_vs_set hi (by unfold fm_sl; rw [hk]; simp [fm_wP, fm_up]) (fun j hj => fm_sl_wP fun q => hj q.2)) (fun b hb => fm_vs_eq fun j _ => fm_sl_wP fun q => hb q.1)
theorem fm_setC (S : fm_S) {b sp a dp n : Nat} (hb : fm_tg b = 100) (ha : fm_tg a = 100) (h1 : sp + n ≤ fm_ln b) (h2 : dp + n ≤ fm_ln a) :
    (fm_mk S).set a (100, (fm_vs S a).take dp ++ ((fm_vs S b).drop sp).take n ++ (fm_vs S a).drop (dp + n)) = fm_mk (fm_cp S b sp a dp n) := by
  have hka : ∀ i, fm_kd (fm_tg a) i = 0 := fun i => by rw [ha]; rfl
  have hkb : ∀ i, fm_kd (fm_tg b) i = 0 := fun i => by rw [hb]; rfl
  have key : (fm_vs S a).take dp ++ ((fm_vs S b).drop sp).take n ++ (fm_vs S a).drop (dp + n) = fm_vs (fm_cp S b sp a dp n) a := by
    have e1 : ((fm_vs S a).take dp).length = dp := by rw [List.length_take, fm_vs_len]; omega
    have e2 : (((fm_vs S b).drop sp).take n).length = n := by rw [List.length_take, List.length_drop, fm_vs_len]; omega
    apply List.ext_getElem?
    intro j
    by_cases hj : j < fm_ln a
    · rw [fm_el _ hj]
      unfold fm_sl
      rw [hka]
      show _ = some (Value.int (if a = a ∧ dp ≤ j ∧ j < dp + n then S.1 b (sp + (j - dp)) else S.1 a j))
      by_cases hc : dp ≤ j ∧ j < dp + n
      · rw [if_pos ⟨rfl, hc⟩, List.getElem?_append_left (by rw [List.length_append, e1, e2]; omega), List.getElem?_append_right (by rw [e1]; omega), e1, List.getElem?_take, if_pos (by omega), List.getElem?_drop, fm_el S (by omega)]
        unfold fm_sl
        rw [hkb]
        rfl
      · rw [if_neg (fun q => hc q.2)]
        by_cases hj2 : j < dp
        · rw [List.getElem?_append_left (by rw [List.length_append, e1, e2]; omega), List.getElem?_append_left (by rw [e1]; omega), List.getElem?_take, if_pos hj2, fm_el S hj]
          unfold fm_sl
          rw [hka]
          rfl
        · rw [List.getElem?_append_right (by rw [List.length_append, e1, e2]; omega), List.length_append, e1, e2, List.getElem?_drop, show dp + n + (j - (dp + n)) = j by omega, fm_el S hj]
          unfold fm_sl
          rw [hka]
          rfl
    · rw [List.getElem?_eq_none (by rw [List.length_append, List.length_append, e1, e2, List.length_drop, fm_vs_len]; omega), List.getElem?_eq_none (by rw [fm_vs_len]; omega)]
  rw [key, ← ha]
  refine fm_set (by rw [ha]; decide) rfl (fun c hc => fm_vs_eq fun j _ => ?_)
  unfold fm_sl fm_cp
  split <;> first | rfl | (simp [hc])
end
section
/-! the memory behind the constructors: printed by wip/whole/gen10.py -/
def fm_i0 : List (Nat × Nat × Int32) := [(7, 1, 1), (7, 2, 2), (7, 3, 3), (18, 0, -1), (18, 1, -1), (18, 2, -1), (18, 3, -1), (18, 4, -1), (18, 5, -1), (18, 6, -1), (18, 7, -1), (19, 0, -1), (19, 1, -1), (19, 2, -1), (19, 3, -1), (19, 4, -1), (19, 5, -1), (19, 6, -1), (19, 7, -1), (74, 1, 1), (74, 2, 2), (74, 3, 3), (85, 0, -1), (85, 1, -1), (85, 2, -1), (85, 3, -1), (85, 4, -1), (85, 5, -1), (85, 6, -1), (85, 7, -1), (86, 0, -1), (86, 1, -1), (86, 2, -1), (86, 3, -1), (86, 4, -1), (86, 5, -1), (86, 6, -1), (86, 7, -1), (130, 1, 1), (130, 2, 2), (130, 3, 3), (141, 0, -1), (141, 1, -1), (141, 2, -1), (141, 3, -1), (141, 4, -1), (141, 5, -1), (141, 6, -1), (141, 7, -1), (142, 0, -1), (142, 1, -1), (142, 2, -1), (142, 3, -1), (142, 4, -1), (142, 5, -1), (142, 6, -1), (142, 7, -1), (183, 1, 1), (183, 2, 2), (183, 3, 3), (194, 0, -1), (194, 1, -1), (194, 2, -1), (194, 3, -1), (194, 4, -1), (194, 5, -1), (194, 6, -1), (194, 7, -1), (195, 0, -1), (195, 1, -1), (195, 2, -1), (195, 3, -1), (195, 4, -1), (195, 5, -1), (195, 6, -1), (195, 7, -1), (232, 122, 1), (232, 123, 2), (232, 124, 3)]
def fm_l0 : List (Nat × Nat × Int64) := [(122, 1, 1), (231, 7, 1)]
def fm_lk {α : Type} (d : α) : List (Nat × Nat × α) → Nat → Nat → α
  | [], _, _ => d
  | (a, i, x) :: t, b, j => if a = b ∧ i = j then x else fm_lk d t b j
def fm_S0 : fm_S := (fm_lk 0 fm_i0, fm_lk 0 fm_l0, fun a i => a + 1 + 4 * i)
def fm_nx : Nat := 231
/-! the constructors by the kernel, over code that is decoded once: printed by wip/whole/gen10.py -/
def am_fl0 : List (Nat × Instr × Nat) := [(0, .aload_n 0, 1), (1, .invokespecial 1, 3), (4, .aload_n 0, 1), (5, .new 7, 3), (8, .dup, 1), (9, .invokespecial 9, 3), (12, .putfield 10, 3), (15, .aload_n 0, 1), (16, .new 16, 3), (19, .dup, 1), (20, .aload_n 0, 1), (21, .getfield 10, 3), (24, .invokespecial 18, 3), (27, .putfield 21, 3), (30, .aload_n 0, 1), (31, .new 25, 3), (34, .dup, 1), (35, .invokespecial 27, 3), (38, .putfield 28, 3), (41, .aload_n 0, 1), (42, .new 32, 3), (45, .dup, 1), (46, .invokespecial 34, 3), (49, .putfield 35, 3), (52, .aload_n 0, 1), (53, .iconst 2, 1), (54, .anewarray 7, 3), (57, .putfield 39, 3), (60, .iconst 0, 1), (61, .istore_n 1, 1), (62, .iload_n 1, 1), (63, .aload_n 0, 1), (64, .getfield 39, 3), (67, .arraylength, 1), (68, .if_icmp .ge 22, 3), (71, .aload_n 0, 1), (72, .getfield 39, 3), (75, .iload_n 1, 1), (76, .new 7, 3), (79, .dup, 1), (80, .invokespecial 9, 3), (83, .aastore, 1), (84, .iinc 1 1, 3), (87, .goto (-25), 3), (90, .aload_n 0, 1), (91, .iconst 2, 1), (92, .newarray .boolean, 2), (94, .putfield 43, 3), (97, .return_, 1)]
def am_fl1 : List (Nat × Instr × Nat) := [(0, .aload_n 0, 1), (1, .invokespecial 3, 3), (4, .aload_n 0, 1), (5, .bipush 8, 2), (7, .newarray .int, 2), (9, .putfield 9, 3), (12, .aload_n 0, 1), (13, .bipush 8, 2), (15, .newarray .int, 2), (17, .putfield 15, 3), (20, .aload_n 0, 1), (21, .bipush 8, 2), (23, .newarray .int, 2), (25, .putfield 18, 3), (28, .aload_n 0, 1), (29, .bipush 8, 2), (31, .newarray .int, 2), (33, .putfield 21, 3), (36, .aload_n 0, 1), (37, .iconst 4, 1), (38, .newarray .int, 2), (40, .putfield 24, 3), (43, .aload_n 0, 1), (44, .iconst 4, 1), (45, .newarray .int, 2), (47, .putfield 27, 3), (50, .aload_n 0, 1), (51, .bipush 6, 2), (53, .newarray .int, 2), (55, .putfield 30, 3), (58, .aload_n 0, 1), (59, .bipush 6, 2), (61, .newarray .int, 2), (63, .putfield 33, 3), (66, .aload_n 0, 1), (67, .bipush 6, 2), (69, .newarray .int, 2), (71, .putfield 36, 3), (74, .aload_n 0, 1), (75, .new 39, 3), (78, .dup, 1), (79, .invokespecial 41, 3), (82, .putfield 42, 3), (85, .aload_n 0, 1), (86, .new 46, 3), (89, .dup, 1), (90, .invokespecial 48, 3), (93, .putfield 49, 3), (96, .aload_n 0, 1), (97, .bipush 8, 2), (99, .anewarray 46, 3), (102, .putfield 53, 3), (105, .iconst 0, 1), (106, .istore_n 1, 1), (107, .iload_n 1, 1), (108, .aload_n 0, 1), (109, .getfield 53, 3), (112, .arraylength, 1), (113, .if_icmp .ge 22, 3), (116, .aload_n 0, 1), (117, .getfield 53, 3), (120, .iload_n 1, 1), (121, .new 46, 3), (124, .dup, 1), (125, .invokespecial 48, 3), (128, .aastore, 1), (129, .iinc 1 1, 3), (132, .goto (-25), 3), (135, .aload_n 0, 1), (136, .invokevirtual 57, 3), (139, .return_, 1)]
def am_fl2 : List (Nat × Instr × Nat) := [(0, .aload_n 0, 1), (1, .invokespecial 3, 3), (4, .aload_n 0, 1), (5, .bipush 6, 2), (7, .newarray .int, 2), (9, .putfield 9, 3), (12, .aload_n 0, 1), (13, .bipush 6, 2), (15, .newarray .int, 2), (17, .putfield 15, 3), (20, .aload_n 0, 1), (21, .bipush 6, 2), (23, .newarray .int, 2), (25, .putfield 18, 3), (28, .aload_n 0, 1), (29, .bipush 6, 2), (31, .newarray .int, 2), (33, .putfield 21, 3), (36, .aload_n 0, 1), (37, .bipush 6, 2), (39, .newarray .int, 2), (41, .putfield 24, 3), (44, .return_, 1)]
def am_fl3 : List (Nat × Instr × Nat) := [(0, .aload_n 0, 1), (1, .invokespecial 3, 3), (4, .aload_n 0, 1), (5, .bipush 8, 2), (7, .newarray .int, 2), (9, .putfield 9, 3), (12, .aload_n 0, 1), (13, .bipush 8, 2), (15, .newarray .int, 2), (17, .putfield 15, 3), (20, .aload_n 0, 1), (21, .bipush 8, 2), (23, .newarray .int, 2), (25, .putfield 18, 3), (28, .return_, 1)]
def am_fl6 : List (Nat × Instr × Nat) := [(0, .aload_n 0, 1), (1, .invokespecial 3, 3), (4, .aload_n 0, 1), (5, .iconst 4, 1), (6, .newarray .int, 2), (8, .putfield 9, 3), (11, .aload_n 0, 1), (12, .new 15, 3), (15, .dup, 1), (16, .invokespecial 17, 3), (19, .putfield 18, 3), (22, .aload_n 0, 1), (23, .new 22, 3), (26, .dup, 1), (27, .invokespecial 24, 3), (30, .putfield 25, 3), (33, .aload_n 0, 1), (34, .iconst 4, 1), (35, .newarray .int, 2), (37, .putfield 29, 3), (40, .aload_n 0, 1), (41, .bipush 24, 2), (43, .newarray .int, 2), (45, .putfield 32, 3), (48, .aload_n 0, 1), (49, .bipush 6, 2), (51, .newarray .int, 2), (53, .putfield 35, 3), (56, .aload_n 0, 1), (57, .bipush 63, 2), (59, .newarray .int, 2), (61, .putfield 38, 3), (64, .aload_n 0, 1), (65, .aload_n 1, 1), (66, .putfield 41, 3), (69, .return_, 1)]
def am_fl7 : List (Nat × Instr × Nat) := [(0, .aload_n 0, 1), (1, .invokespecial 3, 3), (4, .aload_n 0, 1), (5, .bipush 8, 2), (7, .newarray .int, 2), (9, .putfield 9, 3), (12, .aload_n 0, 1), (13, .bipush 8, 2), (15, .newarray .int, 2), (17, .putfield 15, 3), (20, .return_, 1)]
def am_fl8 : List (Nat × Instr × Nat) := [(0, .aload_n 0, 1), (1, .invokespecial 3, 3), (4, .aload_n 0, 1), (5, .new 9, 3), (8, .dup, 1), (9, .invokespecial 11, 3), (12, .putfield 12, 3), (15, .aload_n 0, 1), (16, .sipush 150, 3), (19, .newarray .int, 2), (21, .putfield 18, 3), (24, .return_, 1)]
def am_fl9 : List (Nat × Instr × Nat) := [(0, .aload_n 0, 1), (1, .invokespecial 1, 3), (4, .aload_n 0, 1), (5, .lconst 0, 1), (6, .putfield 7, 3), (9, .aload_n 0, 1), (10, .lconst 1, 1), (11, .putfield 13, 3), (14, .return_, 1)]
def am_fl133 : List (Nat × Instr × Nat) := [(0, .aload_n 0, 1), (1, .invokespecial 1, 3), (4, .aload_n 0, 1), (5, .sipush 373, 3), (8, .newarray .int, 2), (10, .putfield 7, 3), (13, .aload_n 0, 1), (14, .sipush 373, 3), (17, .newarray .int, 2), (19, .putfield 13, 3), (22, .aload_n 0, 1), (23, .sipush 746, 3), (26, .newarray .int, 2), (28, .putfield 16, 3), (31, .aload_n 0, 1), (32, .iconst 2, 1), (33, .newarray .int, 2), (35, .putfield 19, 3), (38, .aload_n 0, 1), (39, .sipush 150, 3), (42, .newarray .int, 2), (44, .putfield 22, 3), (47, .aload_n 0, 1), (48, .iconst 3, 1), (49, .newarray .int, 2), (51, .putfield 25, 3), (54, .aload_n 0, 1), (55, .bipush 8, 2), (57, .newarray .int, 2), (59, .putfield 28, 3), (62, .aload_n 0, 1), (63, .bipush 25, 2), (65, .newarray .int, 2), (67, .putfield 31, 3), (70, .aload_n 0, 1), (71, .iconst 4, 1), (72, .newarray .int, 2), (74, .putfield 34, 3), (77, .aload_n 0, 1), (78, .bipush 6, 2), (80, .newarray .int, 2), (82, .putfield 37, 3), (85, .aload_n 0, 1), (86, .bipush 63, 2), (88, .newarray .int, 2), (90, .putfield 40, 3), (93, .aload_n 0, 1), (94, .bipush 9, 2), (96, .newarray .long, 2), (98, .putfield 43, 3), (101, .aload_n 0, 1), (102, .lconst 1, 1), (103, .putfield 47, 3), (106, .aload_n 0, 1), (107, .getfield 7, 3), (110, .invokestatic 51, 3), (113, .return_, 1)]
def am_fl4 : List (Nat × Instr × Nat) := [(0, .aload_n 0, 1), (1, .iconst 0, 1), (2, .putfield 60, 3), (5, .aload_n 0, 1), (6, .iconst 0, 1), (7, .putfield 64, 3), (10, .aload_n 0, 1), (11, .getfield 42, 3), (14, .iconst 0, 1), (15, .putfield 67, 3), (18, .aload_n 0, 1), (19, .iconst 0, 1), (20, .putfield 70, 3), (23, .aload_n 0, 1), (24, .getfield 49, 3), (27, .invokevirtual 73, 3), (30, .iconst 0, 1), (31, .istore_n 1, 1), (32, .iload_n 1, 1), (33, .iconst 4, 1), (34, .if_icmp .ge 23, 3), (37, .aload_n 0, 1), (38, .getfield 24, 3), (41, .iload_n 1, 1), (42, .iconst 0, 1), (43, .iastore, 1), (44, .aload_n 0, 1), (45, .getfield 27, 3), (48, .iload_n 1, 1), (49, .iload_n 1, 1), (50, .iastore, 1), (51, .iinc 1 1, 3), (54, .goto (-22), 3), (57, .iconst 0, 1), (58, .istore_n 1, 1), (59, .iload_n 1, 1), (60, .bipush 8, 2), (62, .if_icmp .ge 16, 3), (65, .aload_n 0, 1), (66, .getfield 21, 3), (69, .iload_n 1, 1), (70, .iconst 0, 1), (71, .iastore, 1), (72, .iinc 1 1, 3), (75, .goto (-16), 3), (78, .return_, 1)]
def am_fl5 : List (Nat × Instr × Nat) := [(0, .aload_n 0, 1), (1, .iconst 0, 1), (2, .putfield 21, 3), (5, .iconst 0, 1), (6, .istore_n 1, 1), (7, .iload_n 1, 1), (8, .bipush 8, 2), (10, .if_icmp .ge 30, 3), (13, .aload_n 0, 1), (14, .getfield 9, 3), (17, .iload_n 1, 1), (18, .iconst (-1), 1), (19, .iastore, 1), (20, .aload_n 0, 1), (21, .getfield 15, 3), (24, .iload_n 1, 1), (25, .iconst (-1), 1), (26, .iastore, 1), (27, .aload_n 0, 1), (28, .getfield 18, 3), (31, .iload_n 1, 1), (32, .iconst 0, 1), (33, .iastore, 1), (34, .iinc 1 1, 3), (37, .goto (-30), 3), (40, .return_, 1)]
def am_fl134 : List (Nat × Instr × Nat) := [(0, .iconst 0, 1), (1, .istore_n 1, 1), (2, .iload_n 1, 1), (3, .sipush 373, 3), (6, .if_icmp .ge 13, 3), (9, .aload_n 0, 1), (10, .iload_n 1, 1), (11, .iconst 0, 1), (12, .iastore, 1), (13, .iinc 1 1, 3), (16, .goto (-14), 3), (19, .iconst 0, 1), (20, .istore_n 1, 1), (21, .iload_n 1, 1), (22, .iconst 4, 1), (23, .if_icmp .ge 16, 3), (26, .aload_n 0, 1), (27, .bipush 121, 2), (29, .iload_n 1, 1), (30, .iadd, 1), (31, .iload_n 1, 1), (32, .iastore, 1), (33, .iinc 1 1, 3), (36, .goto (-15), 3), (39, .return_, 1)]
def am_fz : List (Nat × List (Nat × Instr × Nat)) := [(0, am_fl0), (1, am_fl1), (2, am_fl2), (3, am_fl3), (6, am_fl6), (7, am_fl7), (8, am_fl8), (9, am_fl9), (133, am_fl133), (4, am_fl4), (5, am_fl5), (134, am_fl134)]
def am_f1 {α : Type} : List (Nat × α) → Nat → Option α
  | [], _ => none
  | (a, x) :: t, b => if a = b then some x else am_f1 t b
theorem am_f1_mem {α : Type} {b : Nat} {x : α} : ∀ {l : List (Nat × α)}, am_f1 l b = some x → (b, x) ∈ l
  | [], h => by cases h
  | (a, y) :: t, h => by
    unfold am_f1 at h
    split at h
    next e => subst e; cases h; exact List.mem_cons_self
    next => exact List.mem_cons_of_mem _ (am_f1_mem h)
def am_fcode (k pc : Nat) : Option (Instr × Nat) := match am_f1 am_fz k with
  | some l => am_f1 l pc
  | none => none
theorem am_fk0 : ∀ q ∈ am_fl0, decode (am_code 0) q.1 = .ok q.2 := by decide +kernel
theorem am_fk1 : ∀ q ∈ am_fl1, decode (am_code 1) q.1 = .ok q.2 := by decide +kernel
theorem am_fk2 : ∀ q ∈ am_fl2, decode (am_code 2) q.1 = .ok q.2 := by decide +kernel
theorem am_fk3 : ∀ q ∈ am_fl3, decode (am_code 3) q.1 = .ok q.2 := by decide +kernel
theorem am_fk4 : ∀ q ∈ am_fl6, decode (am_code 6) q.1 = .ok q.2 := by decide +kernel
theorem am_fk5 : ∀ q ∈ am_fl7, decode (am_code 7) q.1 = .ok q.2 := by decide +kernel
theorem am_fk6 : ∀ q ∈ am_fl8, decode (am_code 8) q.1 = .ok q.2 := by decide +kernel
theorem am_fk7 : ∀ q ∈ am_fl9, decode (am_code 9) q.1 = .ok q.2 := by decide +kernel
theorem am_fk8 : ∀ q ∈ am_fl133, decode (am_code 133) q.1 = .ok q.2 := by decide +kernel
theorem am_fk9 : ∀ q ∈ am_fl4, decode (am_code 4) q.1 = .ok q.2 := by decide +kernel
theorem am_fk10 : ∀ q ∈ am_fl5, decode (am_code 5) q.1 = .ok q.2 := by decide +kernel
theorem am_fk11 : ∀ q ∈ am_fl134, decode (am_code 134) q.1 = .ok q.2 := by decide +kernel
theorem am_fok {k pc : Nat} {q : Instr × Nat} (h : am_fcode k pc = some q) : decode (am_code k) pc = .ok q := by
  unfold am_fcode at h
  split at h
  next l hl =>
    have h2 := am_f1_mem h
    have h1 := am_f1_mem hl
    simp only [am_fz, List.mem_cons, List.not_mem_nil, or_false, Prod.mk.injEq] at h1
    rcases h1 with ⟨rfl, rfl⟩ | ⟨rfl, rfl⟩ | ⟨rfl, rfl⟩ | ⟨rfl, rfl⟩ | ⟨rfl, rfl⟩ | ⟨rfl, rfl⟩ | ⟨rfl, rfl⟩ | ⟨rfl, rfl⟩ | ⟨rfl, rfl⟩ | ⟨rfl, rfl⟩ | ⟨rfl, rfl⟩ | ⟨rfl, rfl⟩
    · exact am_fk0 (pc, q) h2
    · exact am_fk1 (pc, q) h2
    · exact am_fk2 (pc, q) h2
    · exact am_fk3 (pc, q) h2
    · exact am_fk4 (pc, q) h2
    · exact am_fk5 (pc, q) h2
    · exact am_fk6 (pc, q) h2
    · exact am_fk7 (pc, q) h2
    · exact am_fk8 (pc, q) h2
    · exact am_fk9 (pc, q) h2
    · exact am_fk10 (pc, q) h2
    · exact am_fk11 (pc, q) h2
  next => cases h
/-- the run over decoded code -/
def am_runF : Nat → Nat → Nat → Nat → List (Option Value) → List Value → am_W → Option (Option Value × am_W)
  | 0, _, _, _, _, _, _ => none
  | n + 1, d, k, pc, L, st, w => match am_fcode k pc with
    | some (i, z) => match am_one (am_kl k) (decide ((am_y k).name = "<init>")) d pc i z L st w with
      | some (pc', L', st', w') => am_runF n d k pc' L' st' w'
      | none => match am_re (am_rt k) i st with
        | some v => if z = 1 then some (v, w) else none
        | none => match am_ca (am_kl k) i st w with
          | some (k', as, r) => match d with
            | 0 => none
            | d' + 1 => if z = 3 ∧ (am_en as).length ≤ am_mx k' ∧ k' < am_N then (match am_runF n d' k' 0 (am_en as ++ List.replicate (am_mx k' - (am_en as).length) none) [] w with
              | some (v, w') => am_runF n (d' + 1) k (pc + 3) L (v.toList ++ r) w'
              | none => none) else none
          | none => none
    | none => none
theorem am_runF_ok : ∀ (n : Nat) {d k pc : Nat} {L : List (Option Value)} {st : List Value} {w : am_W} {r : Option Value × am_W}, am_runF n d k pc L st w = some r → am_run n d k pc L st w = some r := by
  intro n
  induction n with
  | zero => intro d k pc L st w r h; cases h
  | succ n ih =>
    intro d k pc L st w r h
    rw [am_runF] at h
    split at h
    next i z hd =>
      rw [am_run, am_fok hd]
      simp only
      split at h
      next pc' L' st' w1 h1 => simp only [h1]; exact ih h
      next h0 =>
        simp only [h0]
        split at h
        next v1 h1 => simp only [h1]; exact h
        next h1 =>
          simp only [h1]
          split at h
          next k' as r1 h2 =>
            simp only [h2]
            cases d with
            | zero => cases h
            | succ d' =>
              simp only at h ⊢
              split at h
              next hz =>
                rw [if_pos hz]
                split at h
                next v1 w1 h3 =>
                  rw [ih h3]
                  exact ih h
                next => cases h
              next => cases h
          next => cases h
    next => cases h
end
section
/-! ROWS over the flat memory: one an instruction that touches it, a call, a branch -/
def fm_of (t f : Nat) : Nat := if t = 2 then f else if t = 4 then f else if t = 6 then ([0, 1, 2, 3, 4, 5, 6, 0, 7, 8, 9, 10, 16, 20, 0] : List Nat).getD f 0 else 0
def fm_on (t : Nat) : Nat := (fm_kl.getD t []).length
theorem fm_facts : (List.range fm_n).all (fun a => (if fm_tg a < 9 then decide (fm_ln a = fm_on (fm_tg a)) else true) && (if fm_tg a = 2 ∨ fm_tg a = 4 ∨ fm_tg a = 6 then (List.range (fm_ln a)).all (fun f => if fm_kd (fm_tg a) f = 2 then decide (fm_rf a f = a + fm_of (fm_tg a) f) else true) else true)) = true := by decide +kernel
theorem fm_objln {a t : Nat} (h : fm_tg a = t) (ht : t < 9) : fm_ln a = fm_on t := by
  have hl := fm_lt (a := a) (by omega)
  have h1 := List.all_eq_true.mp fm_facts a (List.mem_range.mpr hl)
  rw [Bool.and_eq_true] at h1
  have h2 := h1.1
  rw [if_pos (by omega)] at h2
  rw [of_decide_eq_true h2, h]
theorem fm_objrf {a t f : Nat} (h : fm_tg a = t) (ht : t = 2 ∨ t = 4 ∨ t = 6) (hf : f < fm_on t) (hk : fm_kd t f = 2) : fm_rf a f = a + fm_of t f := by
  have hl := fm_lt (a := a) (by omega)
  have h1 := List.all_eq_true.mp fm_facts a (List.mem_range.mpr hl)
  rw [Bool.and_eq_true] at h1
  have h2 := h1.2
  rw [if_pos (by omega)] at h2
  have h3 := List.all_eq_true.mp h2 f (List.mem_range.mpr (by rw [fm_objln h (by omega)]; exact hf))
  rw [h, if_pos hk] at h3
  exact of_decide_eq_true h3
/-- what lies behind a town, days, notes -/
theorem fm_facts2 : (List.range fm_n).all (fun a => (if fm_tg a = 2 then decide (fm_tg (a + 1) = 100 ∧ fm_ln (a + 1) = 8 ∧ fm_tg (a + 2) = 100 ∧ fm_ln (a + 2) = 8 ∧ fm_tg (a + 3) = 100 ∧ fm_ln (a + 3) = 8) else true)
    && (if fm_tg a = 4 then decide (fm_tg (a + 1) = 100 ∧ fm_ln (a + 1) = 6 ∧ fm_tg (a + 2) = 100 ∧ fm_ln (a + 2) = 6 ∧ fm_tg (a + 3) = 100 ∧ fm_ln (a + 3) = 6 ∧ fm_tg (a + 4) = 100 ∧ fm_ln (a + 4) = 6 ∧ fm_tg (a + 5) = 100 ∧ fm_ln (a + 5) = 6) else true)
    && (if fm_tg a = 6 then decide ((fm_tg (a + 1) = 100 ∧ fm_ln (a + 1) = 8 ∧ fm_tg (a + 2) = 100 ∧ fm_ln (a + 2) = 8 ∧ fm_tg (a + 3) = 100 ∧ fm_ln (a + 3) = 8 ∧ fm_tg (a + 4) = 100 ∧ fm_ln (a + 4) = 8 ∧ fm_tg (a + 5) = 100 ∧ fm_ln (a + 5) = 4 ∧ fm_tg (a + 6) = 100 ∧ fm_ln (a + 6) = 4 ∧ fm_tg (a + 7) = 100 ∧ fm_ln (a + 7) = 6 ∧ fm_tg (a + 8) = 100 ∧ fm_ln (a + 8) = 6 ∧ fm_tg (a + 9) = 100 ∧ fm_ln (a + 9) = 6) ∧ fm_tg (a + 10) = 4 ∧ fm_tg (a + 16) = 2 ∧ fm_tg (a + 20) = 103 ∧ fm_ln (a + 20) = 8 ∧ (a = 1 ∨ a = 68 ∨ a = 124 ∨ a = 177)) else true)) = true := by decide +kernel
theorem fm_days {a : Nat} (h : fm_tg a = 2) : fm_tg (a + 1) = 100 ∧ fm_ln (a + 1) = 8 ∧ fm_tg (a + 2) = 100 ∧ fm_ln (a + 2) = 8 ∧ fm_tg (a + 3) = 100 ∧ fm_ln (a + 3) = 8 := by
  have h1 := List.all_eq_true.mp fm_facts2 a (List.mem_range.mpr (fm_lt (by omega)))
  simp only [Bool.and_eq_true] at h1
  have h2 := h1.1.1
  rw [if_pos h] at h2
  exact of_decide_eq_true h2
theorem fm_notes {a : Nat} (h : fm_tg a = 4) : fm_tg (a + 1) = 100 ∧ fm_ln (a + 1) = 6 ∧ fm_tg (a + 2) = 100 ∧ fm_ln (a + 2) = 6 ∧ fm_tg (a + 3) = 100 ∧ fm_ln (a + 3) = 6 ∧ fm_tg (a + 4) = 100 ∧ fm_ln (a + 4) = 6 ∧ fm_tg (a + 5) = 100 ∧ fm_ln (a + 5) = 6 := by
  have h1 := List.all_eq_true.mp fm_facts2 a (List.mem_range.mpr (fm_lt (by omega)))
  simp only [Bool.and_eq_true] at h1
  have h2 := h1.1.2
  rw [if_pos h] at h2
  exact of_decide_eq_true h2
theorem fm_town {a : Nat} (h : fm_tg a = 6) : (fm_tg (a + 1) = 100 ∧ fm_ln (a + 1) = 8 ∧ fm_tg (a + 2) = 100 ∧ fm_ln (a + 2) = 8 ∧ fm_tg (a + 3) = 100 ∧ fm_ln (a + 3) = 8 ∧ fm_tg (a + 4) = 100 ∧ fm_ln (a + 4) = 8 ∧ fm_tg (a + 5) = 100 ∧ fm_ln (a + 5) = 4 ∧ fm_tg (a + 6) = 100 ∧ fm_ln (a + 6) = 4 ∧ fm_tg (a + 7) = 100 ∧ fm_ln (a + 7) = 6 ∧ fm_tg (a + 8) = 100 ∧ fm_ln (a + 8) = 6 ∧ fm_tg (a + 9) = 100 ∧ fm_ln (a + 9) = 6) ∧ fm_tg (a + 10) = 4 ∧ fm_tg (a + 16) = 2 ∧ fm_tg (a + 20) = 103 ∧ fm_ln (a + 20) = 8 ∧ (a = 1 ∨ a = 68 ∨ a = 124 ∨ a = 177) := by
  have h1 := List.all_eq_true.mp fm_facts2 a (List.mem_range.mpr (fm_lt (by omega)))
  simp only [Bool.and_eq_true] at h1
  have h2 := h1.2
  rw [if_pos h] at h2
  exact of_decide_eq_true h2
section FE
variable {d k pc idx t f fk fin wp : Nat} {L : List (Option Value)} {st : List Value} {S : fm_S} {r : Option Value × am_W}
theorem fe_getI {a : Nat} (hd : decode (am_code k) pc = .ok (.getfield idx, 3)) (hq : am_lk am_fs (am_kl k) idx = some (t, f, fk, fin, wp)) (ht : fm_tg a = t) (h9 : (t < 9 ∧ f < fm_on t) ∧ fm_kd t f = 0) (nx : am_Ev d k (pc + 3) L (.int (S.1 a f) :: st) (fm_mk S) r) : am_Ev d k pc L (.ref a :: st) (fm_mk S) r := by
  refine ev_one hd (?_ : _ = some (pc + 3, L, .int (S.1 a f) :: st, fm_mk S)) nx
  simp [am_one, am_br, am_ln, am_stk, am_lo, am_hp, hq, fm_at S ht (by omega), fm_el S (show f < fm_ln a by rw [fm_objln ht h9.1.1]; exact h9.1.2), fm_sl, ht, h9.2]
theorem fe_getL {a : Nat} (hd : decode (am_code k) pc = .ok (.getfield idx, 3)) (hq : am_lk am_fs (am_kl k) idx = some (t, f, fk, fin, wp)) (ht : fm_tg a = t) (h9 : (t < 9 ∧ f < fm_on t) ∧ fm_kd t f = 1) (nx : am_Ev d k (pc + 3) L (.long (S.2.1 a f) :: st) (fm_mk S) r) : am_Ev d k pc L (.ref a :: st) (fm_mk S) r := by
  refine ev_one hd (?_ : _ = some (pc + 3, L, .long (S.2.1 a f) :: st, fm_mk S)) nx
  simp [am_one, am_br, am_ln, am_stk, am_lo, am_hp, hq, fm_at S ht (by omega), fm_el S (show f < fm_ln a by rw [fm_objln ht h9.1.1]; exact h9.1.2), fm_sl, ht, h9.2]
theorem fe_getR {a x : Nat} (hd : decode (am_code k) pc = .ok (.getfield idx, 3)) (hq : am_lk am_fs (am_kl k) idx = some (t, f, fk, fin, wp)) (ht : fm_tg a = t) (h9 : (t < 9 ∧ f < fm_on t) ∧ fm_kd t f = 2) (hx : fm_rf a f = x) (nx : am_Ev d k (pc + 3) L (.ref x :: st) (fm_mk S) r) : am_Ev d k pc L (.ref a :: st) (fm_mk S) r := by
  refine ev_one hd (?_ : _ = some (pc + 3, L, .ref x :: st, fm_mk S)) nx
  simp [am_one, am_br, am_ln, am_stk, am_lo, am_hp, hq, fm_at S ht (by omega), fm_el S (show f < fm_ln a by rw [fm_objln ht h9.1.1]; exact h9.1.2), fm_sl, ht, h9.2, hx]
theorem fe_putI {a : Nat} {x : Int32} (hd : decode (am_code k) pc = .ok (.putfield idx, 3)) (hq : am_lk am_fs (am_kl k) idx = some (t, f, 0, 0, wp)) (ht : fm_tg a = t) (h9 : (t < 9 ∧ f < fm_on t) ∧ fm_kd t f = 0) (nx : am_Ev d k (pc + 3) L st (fm_mk (fm_wI S a f x)) r) : am_Ev d k pc L (.int x :: .ref a :: st) (fm_mk S) r := by
  subst ht
  have hi : f < fm_ln a := by rw [fm_objln rfl h9.1.1]; exact h9.1.2
  refine ev_one hd (?_ : _ = some (pc + 3, L, st, fm_mk (fm_wI S a f x))) nx
  rw [← fm_setI S x (by omega) h9.2 hi]
  simp [am_one, am_br, am_ln, am_stk, am_lo, am_hp, hq, fm_at S rfl (show fm_tg a < 200 by omega), am_vk, fm_vs_len, hi]
theorem fe_putL {a : Nat} {x : Int64} (hd : decode (am_code k) pc = .ok (.putfield idx, 3)) (hq : am_lk am_fs (am_kl k) idx = some (t, f, 1, 0, wp)) (ht : fm_tg a = t) (h9 : (t < 9 ∧ f < fm_on t) ∧ fm_kd t f = 1) (nx : am_Ev d k (pc + 3) L st (fm_mk (fm_wL S a f x)) r) : am_Ev d k pc L (.long x :: .ref a :: st) (fm_mk S) r := by
  subst ht
  have hi : f < fm_ln a := by rw [fm_objln rfl h9.1.1]; exact h9.1.2
  refine ev_one hd (?_ : _ = some (pc + 3, L, st, fm_mk (fm_wL S a f x))) nx
  rw [← fm_setL S x (by omega) h9.2 hi]
  simp [am_one, am_br, am_ln, am_stk, am_lo, am_hp, hq, fm_at S rfl (show fm_tg a < 200 by omega), am_vk, fm_vs_len, hi]
theorem fe_iald {a : Nat} {j : Int32} (hd : decode (am_code k) pc = .ok (.iaload, 1)) (ht : fm_tg a = 100) (hi : vp_in j (fm_ln a)) (nx : am_Ev d k (pc + 1) L (.int (S.1 a j.toNatClampNeg) :: st) (fm_mk S) r) : am_Ev d k pc L (.int j :: .ref a :: st) (fm_mk S) r := by
  refine ev_one hd (?_ : _ = some (pc + 1, L, .int (S.1 a j.toNatClampNeg) :: st, fm_mk S)) nx
  simp [am_one, am_br, am_ln, am_stk, am_lo, am_hp, fm_at S ht (by decide), fm_ix S hi, fm_sl, ht, fm_kd, fm_kl]
theorem fe_lald {a : Nat} {j : Int32} (hd : decode (am_code k) pc = .ok (.laload, 1)) (ht : fm_tg a = 101) (hi : vp_in j (fm_ln a)) (nx : am_Ev d k (pc + 1) L (.long (S.2.1 a j.toNatClampNeg) :: st) (fm_mk S) r) : am_Ev d k pc L (.int j :: .ref a :: st) (fm_mk S) r := by
  refine ev_one hd (?_ : _ = some (pc + 1, L, .long (S.2.1 a j.toNatClampNeg) :: st, fm_mk S)) nx
  simp [am_one, am_br, am_ln, am_stk, am_lo, am_hp, fm_at S ht (by decide), fm_ix S hi, fm_sl, ht, fm_kd, fm_kl]
theorem fe_bald {a : Nat} {j : Int32} (hd : decode (am_code k) pc = .ok (.baload, 1)) (ht : fm_tg a = 102) (hi : vp_in j (fm_ln a)) (nx : am_Ev d k (pc + 1) L (.int (S.1 a j.toNatClampNeg) :: st) (fm_mk S) r) : am_Ev d k pc L (.int j :: .ref a :: st) (fm_mk S) r := by
  refine ev_one hd (?_ : _ = some (pc + 1, L, .int (S.1 a j.toNatClampNeg) :: st, fm_mk S)) nx
  simp [am_one, am_br, am_ln, am_stk, am_lo, am_hp, fm_at S ht (by decide), fm_ix S hi, fm_sl, ht, fm_kd, fm_kl]
theorem fe_aald3 {a : Nat} {j : Int32} (hd : decode (am_code k) pc = .ok (.aaload, 1)) (ht : fm_tg a = 103) (hi : vp_in j (fm_ln a)) (nx : am_Ev d k (pc + 1) L (.ref (S.2.2 a j.toNatClampNeg) :: st) (fm_mk S) r) : am_Ev d k pc L (.int j :: .ref a :: st) (fm_mk S) r := by
  refine ev_one hd (?_ : _ = some (pc + 1, L, .ref (S.2.2 a j.toNatClampNeg) :: st, fm_mk S)) nx
  simp [am_one, am_br, am_ln, am_stk, am_lo, am_hp, fm_get S (show fm_tg a < 200 by omega), fm_ix S hi, fm_sl, ht, fm_kd]
theorem fe_aald4 {a : Nat} {j : Int32} (hd : decode (am_code k) pc = .ok (.aaload, 1)) (ht : fm_tg a = 104) (hi : vp_in j (fm_ln a)) (nx : am_Ev d k (pc + 1) L (.ref (fm_rf a j.toNatClampNeg) :: st) (fm_mk S) r) : am_Ev d k pc L (.int j :: .ref a :: st) (fm_mk S) r := by
  refine ev_one hd (?_ : _ = some (pc + 1, L, .ref (fm_rf a j.toNatClampNeg) :: st, fm_mk S)) nx
  simp [am_one, am_br, am_ln, am_stk, am_lo, am_hp, fm_get S (show fm_tg a < 200 by omega), fm_ix S hi, fm_sl, ht, fm_kd]
theorem fe_iast {a : Nat} {j x : Int32} (hd : decode (am_code k) pc = .ok (.iastore, 1)) (ht : fm_tg a = 100) (hi : vp_in j (fm_ln a)) (nx : am_Ev d k (pc + 1) L st (fm_mk (fm_wI S a j.toNatClampNeg x)) r) : am_Ev d k pc L (.int x :: .int j :: .ref a :: st) (fm_mk S) r := by
  have h1 : j.toNatClampNeg < fm_ln a := Nat.not_le.mp fun q => hi (Or.inr q)
  refine ev_one hd (?_ : _ = some (pc + 1, L, st, fm_mk (fm_wI S a j.toNatClampNeg x))) nx
  rw [← fm_setI S x (by omega) (by rw [ht]; rfl) h1]
  simp [am_one, am_br, am_ln, am_stk, am_lo, am_hp, fm_at S ht (by decide), fm_ix S hi, ht]
theorem fe_last {a : Nat} {j : Int32} {x : Int64} (hd : decode (am_code k) pc = .ok (.lastore, 1)) (ht : fm_tg a = 101) (hi : vp_in j (fm_ln a)) (nx : am_Ev d k (pc + 1) L st (fm_mk (fm_wL S a j.toNatClampNeg x)) r) : am_Ev d k pc L (.long x :: .int j :: .ref a :: st) (fm_mk S) r := by
  have h1 : j.toNatClampNeg < fm_ln a := Nat.not_le.mp fun q => hi (Or.inr q)
  refine ev_one hd (?_ : _ = some (pc + 1, L, st, fm_mk (fm_wL S a j.toNatClampNeg x))) nx
  rw [← fm_setL S x (by omega) (by rw [ht]; rfl) h1]
  simp [am_one, am_br, am_ln, am_stk, am_lo, am_hp, fm_at S ht (by decide), fm_ix S hi, ht]
theorem fe_bast {a : Nat} {j x : Int32} (hd : decode (am_code k) pc = .ok (.bastore, 1)) (ht : fm_tg a = 102) (hi : vp_in j (fm_ln a)) (hx : x = 1) (nx : am_Ev d k (pc + 1) L st (fm_mk (fm_wI S a j.toNatClampNeg 1)) r) : am_Ev d k pc L (.int x :: .int j :: .ref a :: st) (fm_mk S) r := by
  have h1 : j.toNatClampNeg < fm_ln a := Nat.not_le.mp fun q => hi (Or.inr q)
  refine ev_one hd (?_ : _ = some (pc + 1, L, st, fm_mk (fm_wI S a j.toNatClampNeg 1))) nx
  rw [← fm_setI S 1 (by omega) (by rw [ht]; rfl) h1]
  simp [am_one, am_br, am_ln, am_stk, am_lo, am_hp, fm_at S ht (by decide), fm_ix S hi, ht, hx]
theorem fe_aast3 {a v : Nat} {j : Int32} (hd : decode (am_code k) pc = .ok (.aastore, 1)) (ht : fm_tg a = 103) (hi : vp_in j (fm_ln a)) (hv : fm_tg v = 2) (nx : am_Ev d k (pc + 1) L st (fm_mk (fm_wP S a j.toNatClampNeg v)) r) : am_Ev d k pc L (.ref v :: .int j :: .ref a :: st) (fm_mk S) r := by
  have h1 : j.toNatClampNeg < fm_ln a := Nat.not_le.mp fun q => hi (Or.inr q)
  refine ev_one hd (?_ : _ = some (pc + 1, L, st, fm_mk (fm_wP S a j.toNatClampNeg v))) nx
  rw [← fm_setP S v (by omega) (by rw [ht]; rfl) h1]
  simp [am_one, am_br, am_ln, am_stk, am_lo, am_hp, fm_get S (show fm_tg a < 200 by omega), fm_get S (show fm_tg v < 200 by omega), fm_ix S hi, ht, hv]
theorem fe_alen {a : Nat} (hd : decode (am_code k) pc = .ok (.arraylength, 1)) (ht : 100 ≤ fm_tg a ∧ fm_tg a ≤ 104) (nx : am_Ev d k (pc + 1) L (.int (Int32.ofNat (fm_ln a)) :: st) (fm_mk S) r) : am_Ev d k pc L (.ref a :: st) (fm_mk S) r := by
  refine ev_one hd (?_ : _ = some (pc + 1, L, .int (Int32.ofNat (fm_ln a)) :: st, fm_mk S)) nx
  simp [am_one, am_br, am_ln, am_stk, am_lo, am_hp, fm_get S (show fm_tg a < 200 by omega), ht, fm_vs_len]
theorem fe_copy {a b : Nat} {sp dp n : Int32} (hd : decode (am_code k) pc = .ok (.invokestatic idx, 3)) (hq : am_lk am_ac (am_kl k) idx = some wp) (hb : fm_tg b = 100) (ha : fm_tg a = 100) (h : (¬ sp < 0 ∧ ¬ dp < 0 ∧ ¬ n < 0) ∧ sp.toNatClampNeg + n.toNatClampNeg ≤ fm_ln b ∧ dp.toNatClampNeg + n.toNatClampNeg ≤ fm_ln a) (hr : st.length ≤ 2)
    (nx : am_Ev (d + 1) k (pc + 3) L st (fm_mk (fm_cp S b sp.toNatClampNeg a dp.toNatClampNeg n.toNatClampNeg)) r) : am_Ev (d + 1) k pc L (.int n :: .int dp :: .ref a :: .int sp :: .ref b :: st) (fm_mk S) r := by
  obtain ⟨⟨h1, h2, h3⟩, h4, h5⟩ := h
  refine ev_one hd (?_ : _ = some (pc + 3, L, st, fm_mk (fm_cp S b sp.toNatClampNeg a dp.toNatClampNeg n.toNatClampNeg))) nx
  rw [← fm_setC S hb ha h4 h5]
  simp only [am_one, am_br, am_ln, am_stk, am_lo, am_hp, hq, fm_at S hb (by decide), fm_at S ha (by decide), fm_vs_len]
  have hc : ¬ sp < 0 ∧ ¬ dp < 0 ∧ ¬ n < 0 ∧ sp.toNatClampNeg + n.toNatClampNeg ≤ fm_ln b ∧ dp.toNatClampNeg + n.toNatClampNeg ≤ fm_ln a ∧ 0 < d + 1 ∧ st.length ≤ 2 := ⟨h1, h2, h3, h4, h5, by omega, hr⟩
  rw [if_pos trivial, if_pos hc]
theorem fe_ifc {i : Instr} {C : Prop} [Decidable C] {st0 : List Value} {w : am_W} {tgt : Nat} (hd : decode (am_code k) pc = .ok (i, 3)) (hz : am_zb i 3 = true) {off : Int} (hg : am_br pc i st0 = am_go pc off C st) (ht : am_tg pc off = some tgt) (kt : C → am_Ev d k tgt L st w r) (kf : ¬ C → am_Ev d k (pc + 3) L st w r) : am_Ev d k pc L st0 w r := by
  by_cases hc : C
  · refine ev_one hd (?_ : _ = some (tgt, L, st, w)) (kt hc)
    unfold am_one
    rw [hg]
    unfold am_go
    rw [ht]
    simp only [hc, if_true, hz]
  · refine ev_one hd (?_ : _ = some (pc + 3, L, st, w)) (kf hc)
    unfold am_one
    rw [hg]
    unfold am_go
    rw [ht]
    simp only [hc, if_false, hz, if_true]
theorem fe_nostat {c : Nat} {ini : Bool} {d : Nat} {w : am_W} (h : am_lk am_ac c idx = none) : am_hp c ini d (.invokestatic idx) st w = none := by
  simp only [am_hp, h]
  split <;> rfl
theorem fe_callS {as rs : List Value} {k' n kd : Nat} {q : Nat × Nat} {w w1 : am_W} {v : Option Value} (hd : decode (am_code k) pc = .ok (.invokestatic idx, 3)) (hac : am_lk am_ac (am_kl k) idx = none) (hq : am_lk am_is (am_kl k) idx = some (kd, k', n, wp, q)) (hk : kd = 0 ∨ kd = 4) (hn : as.length = n) (hr : rs.length ≤ 4) (hst : st = as.reverse ++ rs)
    (hc : am_Sp d k' as w v w1) (nx : am_Ev (d + 1) k (pc + 3) L (v.toList ++ rs) w1 r) : am_Ev (d + 1) k pc L st w r := by
  subst hn hst
  refine ev_call hd ?_ rfl ?_ hc nx
  · unfold am_one
    rw [show am_br pc (.invokestatic idx) (as.reverse ++ rs) = none from rfl, show am_stk (.invokestatic idx) (as.reverse ++ rs) = none from rfl, show am_lo (.invokestatic idx) L (as.reverse ++ rs) = none from rfl]
    simp only [am_ln, if_true, fe_nostat hac]
  · simp only [am_ca, hq]
    have e1 : (as.reverse ++ rs).drop as.length = rs := by rw [← List.length_reverse (as := as), List.drop_left]
    have e2 : (as.reverse ++ rs).take as.length = as.reverse := by rw [← List.length_reverse (as := as), List.take_left]
    rw [e1, e2, if_pos ⟨hk, by simp, hr⟩, List.reverse_reverse]
theorem fe_callV {as rs : List Value} {a k' n : Nat} {q : Nat × Nat} {w1 : am_W} {v : Option Value} (hd : decode (am_code k) pc = .ok (.invokevirtual idx, 3)) (hq : am_lk am_is (am_kl k) idx = some (1, k', n, wp, q)) (ht : fm_tg a = t) (h9 : t < 9 ∧ (am_k t).1 = am_kl k') (hn : as.length = n) (hr : rs.length ≤ 4) (hst : st = as.reverse ++ .ref a :: rs)
    (hc : am_Sp d k' (.ref a :: as) (fm_mk S) v w1) (nx : am_Ev (d + 1) k (pc + 3) L (v.toList ++ rs) w1 r) : am_Ev (d + 1) k pc L st (fm_mk S) r := by
  subst hn hst
  refine ev_call hd rfl rfl ?_ hc nx
  simp only [am_ca, hq]
  have e1 : (as.reverse ++ Value.ref a :: rs).drop as.length = .ref a :: rs := by rw [← List.length_reverse (as := as), List.drop_left]
  have e2 : (as.reverse ++ Value.ref a :: rs).take as.length = as.reverse := by rw [← List.length_reverse (as := as), List.take_left]
  have e3 : (as.reverse ++ Value.ref a :: rs).drop (as.length + 1) = rs := by rw [← List.drop_drop, e1]; rfl
  rw [e1, e2, e3, if_pos ⟨trivial, by simp, hr⟩]
  simp only [fm_get S (show fm_tg a < 200 by omega), List.reverse_reverse]
  rw [if_pos (by rw [ht]; exact h9)]
theorem fe_retI {x : Int32} {w : am_W} (hd : decode (am_code k) pc = .ok (.ireturn, 1)) (hr : am_rt k = some .int) : am_Ev d k pc L [.int x] w (some (.int x), w) :=
  ev_ret hd rfl (by simp [am_re, hr])
theorem fe_retZ {x : Int32} {w : am_W} (hd : decode (am_code k) pc = .ok (.ireturn, 1)) (hr : am_rt k = some .boolean) (hx : x = 0 ∨ x = 1) : am_Ev d k pc L [.int x] w (some (.int x), w) :=
  ev_ret hd rfl (by simp only [am_re, hr]; rw [if_pos (Or.inr ⟨trivial, hx⟩)])
theorem fe_retL {x : Int64} {w : am_W} (hd : decode (am_code k) pc = .ok (.lreturn, 1)) (hr : am_rt k = some .long) : am_Ev d k pc L [.long x] w (some (.long x), w) :=
  ev_ret hd rfl (by simp [am_re, hr])
theorem fe_retV {w : am_W} (hd : decode (am_code k) pc = .ok (.return_, 1)) (hr : am_rt k = none) : am_Ev d k pc L [] w (none, w) :=
  ev_ret hd rfl (by simp [am_re, hr])
theorem fe_idiv {x y : Int32} {w : am_W} (hd : decode (am_code k) pc = .ok (.idiv, 1)) (hy : ¬ y = 0) (nx : am_Ev d k (pc + 1) L (.int (x / y) :: st) w r) : am_Ev d k pc L (.int y :: .int x :: st) w r :=
  ev_one hd (by simp [am_one, am_br, am_ln, am_stk, am_d2, hy]) nx
theorem fe_irem {x y : Int32} {w : am_W} (hd : decode (am_code k) pc = .ok (.irem, 1)) (hy : ¬ y = 0) (nx : am_Ev d k (pc + 1) L (.int (x - x / y * y) :: st) w r) : am_Ev d k pc L (.int y :: .int x :: st) w r :=
  ev_one hd (by simp [am_one, am_br, am_ln, am_stk, am_d2, hy]) nx
theorem fe_ldiv {x y : Int64} {w : am_W} (hd : decode (am_code k) pc = .ok (.ldiv, 1)) (hy : ¬ y = 0) (nx : am_Ev d k (pc + 1) L (.long (x / y) :: st) w r) : am_Ev d k pc L (.long y :: .long x :: st) w r :=
  ev_one hd (by simp [am_one, am_br, am_ln, am_stk, am_e2, hy]) nx
theorem fe_lrem {x y : Int64} {w : am_W} (hd : decode (am_code k) pc = .ok (.lrem, 1)) (hy : ¬ y = 0) (nx : am_Ev d k (pc + 1) L (.long (x - x / y * y) :: st) w r) : am_Ev d k pc L (.long y :: .long x :: st) w r :=
  ev_one hd (by simp [am_one, am_br, am_ln, am_stk, am_e2, hy]) nx
end FE
end
section
/-! rows for the plain instructions, and those of part 11 with lengths and places named: what a program lays -/
theorem vp_c {i : Int32} {n : Nat} (h0 : ¬ i < 0) (h1 : i.toNatClampNeg < n) : vp_in i n := fun q => q.elim h0 (fun z => by omega)
section FS
variable {d k pc idx t f fk wp : Nat} {L L' : List (Option Value)} {st rs : List Value} {w : am_W} {S : fm_S} {r : Option Value × am_W} {off : Int} {tgt : Nat}
theorem fs_iconst {n : Int} {v : Int32} (hd : decode (am_code k) pc = .ok (.iconst n, 1)) (hv : Int32.ofInt n = v) (nx : am_Ev d k (pc + 1) L (.int v :: st) w r) : am_Ev d k pc L st w r := by subst hv; exact ev_one hd rfl nx
theorem fs_bipush {n : Int} {v : Int32} (hd : decode (am_code k) pc = .ok (.bipush n, 2)) (hv : (Int8.ofInt n).toInt32 = v) (nx : am_Ev d k (pc + 2) L (.int v :: st) w r) : am_Ev d k pc L st w r := by subst hv; exact ev_one hd rfl nx
theorem fs_sipush {n : Int} {v : Int32} (hd : decode (am_code k) pc = .ok (.sipush n, 3)) (hv : (Int16.ofInt n).toInt32 = v) (nx : am_Ev d k (pc + 3) L (.int v :: st) w r) : am_Ev d k pc L st w r := by subst hv; exact ev_one hd rfl nx
theorem fs_lconst {n : Fin 2} {v : Int64} (hd : decode (am_code k) pc = .ok (.lconst n, 1)) (hv : Int64.ofNat (n : Nat) = v) (nx : am_Ev d k (pc + 1) L (.long v :: st) w r) : am_Ev d k pc L st w r := by subst hv; exact ev_one hd rfl nx
theorem fs_ldc {v : Int32} {q : Nat} (hd : decode (am_code k) pc = .ok (.ldc idx, 2)) (hq : am_lk am_ci (am_kl k) idx = some (v, q)) (nx : am_Ev d k (pc + 2) L (.int v :: st) w r) : am_Ev d k pc L st w r :=
  ev_one hd (by simp [am_one, am_br, am_ln, am_stk, am_lo, am_hp, hq]) nx
theorem fs_ldcw {v : Int32} {q : Nat} (hd : decode (am_code k) pc = .ok (.ldc_w idx, 3)) (hq : am_lk am_ci (am_kl k) idx = some (v, q)) (nx : am_Ev d k (pc + 3) L (.int v :: st) w r) : am_Ev d k pc L st w r :=
  ev_one hd (by simp [am_one, am_br, am_ln, am_stk, am_lo, am_hp, hq]) nx
theorem fs_ldcs {q : Nat} {x : String × Nat} (hd : decode (am_code k) pc = .ok (.ldc idx, 2)) (hn : am_lk am_ci (am_kl k) idx = none) (hq : am_lk am_ct (am_kl k) idx = some (q, x)) (nx : am_Ev d k (pc + 2) L (.retAddr q :: st) w r) : am_Ev d k pc L st w r :=
  ev_one hd (by simp [am_one, am_br, am_ln, am_stk, am_lo, am_hp, hn, hq]) nx
theorem fs_ldc2 {v : Int64} {q : Nat} (hd : decode (am_code k) pc = .ok (.ldc2_w idx, 3)) (hq : am_lk am_cl (am_kl k) idx = some (v, q)) (nx : am_Ev d k (pc + 3) L (.long v :: st) w r) : am_Ev d k pc L st w r :=
  ev_one hd (by simp [am_one, am_br, am_ln, am_stk, am_lo, am_hp, hq]) nx
theorem fs_iadd {x y : Int32} (hd : decode (am_code k) pc = .ok (.iadd, 1)) (nx : am_Ev d k (pc + 1) L (.int (x + y) :: st) w r) : am_Ev d k pc L (.int y :: .int x :: st) w r := ev_one hd rfl nx
theorem fs_isub {x y : Int32} (hd : decode (am_code k) pc = .ok (.isub, 1)) (nx : am_Ev d k (pc + 1) L (.int (x - y) :: st) w r) : am_Ev d k pc L (.int y :: .int x :: st) w r := ev_one hd rfl nx
theorem fs_imul {x y : Int32} (hd : decode (am_code k) pc = .ok (.imul, 1)) (nx : am_Ev d k (pc + 1) L (.int (x * y) :: st) w r) : am_Ev d k pc L (.int y :: .int x :: st) w r := ev_one hd rfl nx
theorem fs_iand {x y : Int32} (hd : decode (am_code k) pc = .ok (.iand, 1)) (nx : am_Ev d k (pc + 1) L (.int (x &&& y) :: st) w r) : am_Ev d k pc L (.int y :: .int x :: st) w r := ev_one hd rfl nx
theorem fs_ior {x y : Int32} (hd : decode (am_code k) pc = .ok (.ior, 1)) (nx : am_Ev d k (pc + 1) L (.int (x ||| y) :: st) w r) : am_Ev d k pc L (.int y :: .int x :: st) w r := ev_one hd rfl nx
theorem fs_ixor {x y : Int32} (hd : decode (am_code k) pc = .ok (.ixor, 1)) (nx : am_Ev d k (pc + 1) L (.int (x ^^^ y) :: st) w r) : am_Ev d k pc L (.int y :: .int x :: st) w r := ev_one hd rfl nx
theorem fs_ishl {x y : Int32} (hd : decode (am_code k) pc = .ok (.ishl, 1)) (nx : am_Ev d k (pc + 1) L (.int (x <<< (y &&& 31)) :: st) w r) : am_Ev d k pc L (.int y :: .int x :: st) w r := ev_one hd rfl nx
theorem fs_ishr {x y : Int32} (hd : decode (am_code k) pc = .ok (.ishr, 1)) (nx : am_Ev d k (pc + 1) L (.int (x >>> (y &&& 31)) :: st) w r) : am_Ev d k pc L (.int y :: .int x :: st) w r := ev_one hd rfl nx
theorem fs_iushr {x y : Int32} (hd : decode (am_code k) pc = .ok (.iushr, 1)) (nx : am_Ev d k (pc + 1) L (.int ((x.toUInt32 >>> (y.toUInt32 &&& Int32.toUInt32 31)).toInt32) :: st) w r) : am_Ev d k pc L (.int y :: .int x :: st) w r := ev_one hd rfl nx
theorem fs_ladd {x y : Int64} (hd : decode (am_code k) pc = .ok (.ladd, 1)) (nx : am_Ev d k (pc + 1) L (.long (x + y) :: st) w r) : am_Ev d k pc L (.long y :: .long x :: st) w r := ev_one hd rfl nx
theorem fs_lmul {x y : Int64} (hd : decode (am_code k) pc = .ok (.lmul, 1)) (nx : am_Ev d k (pc + 1) L (.long (x * y) :: st) w r) : am_Ev d k pc L (.long y :: .long x :: st) w r := ev_one hd rfl nx
theorem fs_lcmp {x y : Int64} (hd : decode (am_code k) pc = .ok (.lcmp, 1)) (nx : am_Ev d k (pc + 1) L (.int (lg_cmp x y) :: st) w r) : am_Ev d k pc L (.long y :: .long x :: st) w r := ev_one hd rfl nx
theorem fs_i2l {x : Int32} (hd : decode (am_code k) pc = .ok (.i2l, 1)) (nx : am_Ev d k (pc + 1) L (.long x.toInt64 :: st) w r) : am_Ev d k pc L (.int x :: st) w r := ev_one hd rfl nx
theorem fs_l2i {x : Int64} (hd : decode (am_code k) pc = .ok (.l2i, 1)) (nx : am_Ev d k (pc + 1) L (.int x.toInt32 :: st) w r) : am_Ev d k pc L (.long x :: st) w r := ev_one hd rfl nx
theorem fs_dup {v : Value} (hd : decode (am_code k) pc = .ok (.dup, 1)) (hv : v.category = 1) (nx : am_Ev d k (pc + 1) L (v :: v :: st) w r) : am_Ev d k pc L (v :: st) w r := ev_one hd (by simp [am_one, am_br, am_ln, am_stk, hv]) nx
theorem fs_dup2 {v u : Value} (hd : decode (am_code k) pc = .ok (.dup2, 1)) (hv : v.category = 1 ∧ u.category = 1) (nx : am_Ev d k (pc + 1) L (v :: u :: v :: u :: st) w r) : am_Ev d k pc L (v :: u :: st) w r := ev_one hd (by simp [am_one, am_br, am_ln, am_stk, hv]) nx
theorem fs_pop {v : Value} (hd : decode (am_code k) pc = .ok (.pop, 1)) (hv : v.category = 1) (nx : am_Ev d k (pc + 1) L st w r) : am_Ev d k pc L (v :: st) w r := ev_one hd (by simp [am_one, am_br, am_ln, am_stk, hv]) nx
theorem fs_iloadn {j : Fin 4} {x : Int32} (hd : decode (am_code k) pc = .ok (.iload_n j, 1)) (h : am_ld L j = some (.int x)) (nx : am_Ev d k (pc + 1) L (.int x :: st) w r) : am_Ev d k pc L st w r := ev_one hd (by simp [am_one, am_br, am_ln, am_stk, am_lo, am_ldi, h]) nx
theorem fs_iload {j : Nat} {x : Int32} (hd : decode (am_code k) pc = .ok (.iload j, 2)) (h : am_ld L j = some (.int x)) (nx : am_Ev d k (pc + 2) L (.int x :: st) w r) : am_Ev d k pc L st w r := ev_one hd (by simp [am_one, am_br, am_ln, am_stk, am_lo, am_ldi, h]) nx
theorem fs_lloadn {j : Fin 4} {x : Int64} (hd : decode (am_code k) pc = .ok (.lload_n j, 1)) (h : am_ld L j = some (.long x)) (nx : am_Ev d k (pc + 1) L (.long x :: st) w r) : am_Ev d k pc L st w r := ev_one hd (by simp [am_one, am_br, am_ln, am_stk, am_lo, am_ldl, h]) nx
theorem fs_lload {j : Nat} {x : Int64} (hd : decode (am_code k) pc = .ok (.lload j, 2)) (h : am_ld L j = some (.long x)) (nx : am_Ev d k (pc + 2) L (.long x :: st) w r) : am_Ev d k pc L st w r := ev_one hd (by simp [am_one, am_br, am_ln, am_stk, am_lo, am_ldl, h]) nx
theorem fs_aloadn {j : Fin 4} {x : Nat} (hd : decode (am_code k) pc = .ok (.aload_n j, 1)) (h : am_ld L j = some (.ref x)) (nx : am_Ev d k (pc + 1) L (.ref x :: st) w r) : am_Ev d k pc L st w r := ev_one hd (by simp [am_one, am_br, am_ln, am_stk, am_lo, am_lda, h]) nx
theorem fs_aloads {j : Fin 4} {x : Nat} (hd : decode (am_code k) pc = .ok (.aload_n j, 1)) (h : am_ld L j = some (.retAddr x)) (nx : am_Ev d k (pc + 1) L (.retAddr x :: st) w r) : am_Ev d k pc L st w r := ev_one hd (by simp [am_one, am_br, am_ln, am_stk, am_lo, am_lda, h]) nx
theorem fs_istoren {j : Fin 4} {x : Int32} (hd : decode (am_code k) pc = .ok (.istore_n j, 1)) (h : (j : Nat) < L.length) (hL : am_s1 L j (.int x) = L') (nx : am_Ev d k (pc + 1) L' st w r) : am_Ev d k pc L (.int x :: st) w r := by subst hL; exact ev_one hd (by simp [am_one, am_br, am_ln, am_stk, am_lo, am_sti, h]) nx
theorem fs_istore {j : Nat} {x : Int32} (hd : decode (am_code k) pc = .ok (.istore j, 2)) (h : j < L.length) (hL : am_s1 L j (.int x) = L') (nx : am_Ev d k (pc + 2) L' st w r) : am_Ev d k pc L (.int x :: st) w r := by subst hL; exact ev_one hd (by simp [am_one, am_br, am_ln, am_stk, am_lo, am_sti, h]) nx
theorem fs_lstoren {j : Fin 4} {x : Int64} (hd : decode (am_code k) pc = .ok (.lstore_n j, 1)) (h : (j : Nat) + 1 < L.length) (hL : am_s2 L j (.long x) = L') (nx : am_Ev d k (pc + 1) L' st w r) : am_Ev d k pc L (.long x :: st) w r := by subst hL; exact ev_one hd (by simp [am_one, am_br, am_ln, am_stk, am_lo, am_stl, h]) nx
theorem fs_lstore {j : Nat} {x : Int64} (hd : decode (am_code k) pc = .ok (.lstore j, 2)) (h : j + 1 < L.length) (hL : am_s2 L j (.long x) = L') (nx : am_Ev d k (pc + 2) L' st w r) : am_Ev d k pc L (.long x :: st) w r := by subst hL; exact ev_one hd (by simp [am_one, am_br, am_ln, am_stk, am_lo, am_stl, h]) nx
theorem fs_astoren {j : Fin 4} {x : Nat} (hd : decode (am_code k) pc = .ok (.astore_n j, 1)) (h : (j : Nat) < L.length) (hL : am_s1 L j (.ref x) = L') (nx : am_Ev d k (pc + 1) L' st w r) : am_Ev d k pc L (.ref x :: st) w r := by subst hL; exact ev_one hd (by simp [am_one, am_br, am_ln, am_stk, am_lo, am_sta, h]) nx
theorem fs_iinc {j : Nat} {n : Int} {x v : Int32} (hd : decode (am_code k) pc = .ok (.iinc j n, 3)) (h : am_ld L j = some (.int x)) (hj : j < L.length) (hv : Int32.ofInt n = v) (hL : am_s1 L j (.int (x + v)) = L') (nx : am_Ev d k (pc + 3) L' st w r) : am_Ev d k pc L st w r := by subst hv hL; exact ev_one hd (by simp [am_one, am_br, am_ln, am_stk, am_lo, h, hj]) nx
theorem fs_goto (hd : decode (am_code k) pc = .ok (.goto off, 3)) (ht : am_tg pc off = some tgt) (nx : am_Ev d k tgt L st w r) : am_Ev d k pc L st w r := ev_one hd (by simp [am_one, am_br, ht, am_zb, am_ln]) nx
theorem fs_ifeq {x : Int32} (hd : decode (am_code k) pc = .ok (.ifCond .eq off, 3)) (ht : am_tg pc off = some tgt) (kt : x = 0 → am_Ev d k tgt L st w r) (kf : ¬ x = 0 → am_Ev d k (pc + 3) L st w r) : am_Ev d k pc L (.int x :: st) w r := fe_ifc hd rfl rfl ht kt kf
theorem fs_ifne {x : Int32} (hd : decode (am_code k) pc = .ok (.ifCond .ne off, 3)) (ht : am_tg pc off = some tgt) (kt : ¬ x = 0 → am_Ev d k tgt L st w r) (kf : x = 0 → am_Ev d k (pc + 3) L st w r) : am_Ev d k pc L (.int x :: st) w r := fe_ifc hd rfl rfl ht kt (fun h => kf (Classical.not_not.mp h))
theorem fs_iflt {x : Int32} (hd : decode (am_code k) pc = .ok (.ifCond .lt off, 3)) (ht : am_tg pc off = some tgt) (kt : x < 0 → am_Ev d k tgt L st w r) (kf : ¬ x < 0 → am_Ev d k (pc + 3) L st w r) : am_Ev d k pc L (.int x :: st) w r := fe_ifc hd rfl rfl ht kt kf
theorem fs_ifge {x : Int32} (hd : decode (am_code k) pc = .ok (.ifCond .ge off, 3)) (ht : am_tg pc off = some tgt) (kt : 0 ≤ x → am_Ev d k tgt L st w r) (kf : ¬ 0 ≤ x → am_Ev d k (pc + 3) L st w r) : am_Ev d k pc L (.int x :: st) w r := fe_ifc hd rfl rfl ht kt kf
theorem fs_ifgt {x : Int32} (hd : decode (am_code k) pc = .ok (.ifCond .gt off, 3)) (ht : am_tg pc off = some tgt) (kt : 0 < x → am_Ev d k tgt L st w r) (kf : ¬ 0 < x → am_Ev d k (pc + 3) L st w r) : am_Ev d k pc L (.int x :: st) w r := fe_ifc hd rfl rfl ht kt kf
theorem fs_ifle {x : Int32} (hd : decode (am_code k) pc = .ok (.ifCond .le off, 3)) (ht : am_tg pc off = some tgt) (kt : x ≤ 0 → am_Ev d k tgt L st w r) (kf : ¬ x ≤ 0 → am_Ev d k (pc + 3) L st w r) : am_Ev d k pc L (.int x :: st) w r := fe_ifc hd rfl rfl ht kt kf
theorem fs_iceq {x y : Int32} (hd : decode (am_code k) pc = .ok (.if_icmp .eq off, 3)) (ht : am_tg pc off = some tgt) (kt : x = y → am_Ev d k tgt L st w r) (kf : ¬ x = y → am_Ev d k (pc + 3) L st w r) : am_Ev d k pc L (.int y :: .int x :: st) w r := fe_ifc hd rfl rfl ht kt kf
theorem fs_icne {x y : Int32} (hd : decode (am_code k) pc = .ok (.if_icmp .ne off, 3)) (ht : am_tg pc off = some tgt) (kt : ¬ x = y → am_Ev d k tgt L st w r) (kf : x = y → am_Ev d k (pc + 3) L st w r) : am_Ev d k pc L (.int y :: .int x :: st) w r := fe_ifc hd rfl rfl ht kt (fun h => kf (Classical.not_not.mp h))
theorem fs_iclt {x y : Int32} (hd : decode (am_code k) pc = .ok (.if_icmp .lt off, 3)) (ht : am_tg pc off = some tgt) (kt : x < y → am_Ev d k tgt L st w r) (kf : ¬ x < y → am_Ev d k (pc + 3) L st w r) : am_Ev d k pc L (.int y :: .int x :: st) w r := fe_ifc hd rfl rfl ht kt kf
theorem fs_icge {x y : Int32} (hd : decode (am_code k) pc = .ok (.if_icmp .ge off, 3)) (ht : am_tg pc off = some tgt) (kt : y ≤ x → am_Ev d k tgt L st w r) (kf : ¬ y ≤ x → am_Ev d k (pc + 3) L st w r) : am_Ev d k pc L (.int y :: .int x :: st) w r := fe_ifc hd rfl rfl ht kt kf
theorem fs_icgt {x y : Int32} (hd : decode (am_code k) pc = .ok (.if_icmp .gt off, 3)) (ht : am_tg pc off = some tgt) (kt : y < x → am_Ev d k tgt L st w r) (kf : ¬ y < x → am_Ev d k (pc + 3) L st w r) : am_Ev d k pc L (.int y :: .int x :: st) w r := fe_ifc hd rfl rfl ht kt kf
theorem fs_icle {x y : Int32} (hd : decode (am_code k) pc = .ok (.if_icmp .le off, 3)) (ht : am_tg pc off = some tgt) (kt : x ≤ y → am_Ev d k tgt L st w r) (kf : ¬ x ≤ y → am_Ev d k (pc + 3) L st w r) : am_Ev d k pc L (.int y :: .int x :: st) w r := fe_ifc hd rfl rfl ht kt kf
theorem fs_sw {i : Instr} {z : Nat} {st0 : List Value} (hd : decode (am_code k) pc = .ok (i, z)) (hz : am_zb i z = true) (hb : am_br pc i st0 = some (tgt, st)) (nx : am_Ev d k tgt L st w r) : am_Ev d k pc L st0 w r := ev_one hd (by simp [am_one, hb, hz]) nx
theorem fs_tout {x : Int32} {dflt lo hi : Int} {offs : Array Int} {z : Nat} (hd : decode (am_code k) pc = .ok (.tableswitch dflt lo hi offs, z)) (h : x.toInt < lo ∨ hi < x.toInt) (ht : am_tg pc dflt = some tgt) (nx : am_Ev d k tgt L st w r) : am_Ev d k pc L (.int x :: st) w r :=
  fs_sw hd rfl (by simp only [am_br]; rw [if_pos h, ht]) nx
theorem fs_lout2 {x : Int32} {dflt o0 o1 : Int} {z : Nat} (hd : decode (am_code k) pc = .ok (.lookupswitch dflt #[(0, o0), (1, o1)], z)) (c0 : ¬ x = 0) (c1 : ¬ x = 1) (ht : am_tg pc dflt = some tgt) (nx : am_Ev d k tgt L st w r) : am_Ev d k pc L (.int x :: st) w r := by
  have e : Op.lookupswitch.offset [(0, o0), (1, o1)] dflt x.toInt = dflt := by
    exact (lv_osw (k := 0) (a := 0) c0 (by decide)).trans ((lv_osw (k := 1) (a := 1) c1 (by decide)).trans rfl)
  refine fs_sw hd rfl ?_ nx
  simp only [am_br]
  rw [if_pos (by rfl), e, ht]
theorem fx_iald {a n len : Nat} {j : Int32} (hd : decode (am_code k) pc = .ok (.iaload, 1)) (ht : fm_tg a = 100) (hl : fm_ln a = len) (hi : vp_in j len) (hn : j.toNatClampNeg = n) (nx : am_Ev d k (pc + 1) L (.int (S.1 a n) :: st) (fm_mk S) r) : am_Ev d k pc L (.int j :: .ref a :: st) (fm_mk S) r := by subst hl hn; exact fe_iald hd ht hi nx
theorem fx_lald {a n len : Nat} {j : Int32} (hd : decode (am_code k) pc = .ok (.laload, 1)) (ht : fm_tg a = 101) (hl : fm_ln a = len) (hi : vp_in j len) (hn : j.toNatClampNeg = n) (nx : am_Ev d k (pc + 1) L (.long (S.2.1 a n) :: st) (fm_mk S) r) : am_Ev d k pc L (.int j :: .ref a :: st) (fm_mk S) r := by subst hl hn; exact fe_lald hd ht hi nx
theorem fx_bald {a n len : Nat} {j : Int32} (hd : decode (am_code k) pc = .ok (.baload, 1)) (ht : fm_tg a = 102) (hl : fm_ln a = len) (hi : vp_in j len) (hn : j.toNatClampNeg = n) (nx : am_Ev d k (pc + 1) L (.int (S.1 a n) :: st) (fm_mk S) r) : am_Ev d k pc L (.int j :: .ref a :: st) (fm_mk S) r := by subst hl hn; exact fe_bald hd ht hi nx
theorem fx_aald3 {a n len : Nat} {j : Int32} (hd : decode (am_code k) pc = .ok (.aaload, 1)) (ht : fm_tg a = 103) (hl : fm_ln a = len) (hi : vp_in j len) (hn : j.toNatClampNeg = n) (nx : am_Ev d k (pc + 1) L (.ref (S.2.2 a n) :: st) (fm_mk S) r) : am_Ev d k pc L (.int j :: .ref a :: st) (fm_mk S) r := by subst hl hn; exact fe_aald3 hd ht hi nx
theorem fx_aald4 {a n len : Nat} {j : Int32} (hd : decode (am_code k) pc = .ok (.aaload, 1)) (ht : fm_tg a = 104) (hl : fm_ln a = len) (hi : vp_in j len) (hn : j.toNatClampNeg = n) (nx : am_Ev d k (pc + 1) L (.ref (fm_rf a n) :: st) (fm_mk S) r) : am_Ev d k pc L (.int j :: .ref a :: st) (fm_mk S) r := by subst hl hn; exact fe_aald4 hd ht hi nx
theorem fx_iast {a n len : Nat} {j x : Int32} (hd : decode (am_code k) pc = .ok (.iastore, 1)) (ht : fm_tg a = 100) (hl : fm_ln a = len) (hi : vp_in j len) (hn : j.toNatClampNeg = n) (nx : am_Ev d k (pc + 1) L st (fm_mk (fm_wI S a n x)) r) : am_Ev d k pc L (.int x :: .int j :: .ref a :: st) (fm_mk S) r := by subst hl hn; exact fe_iast hd ht hi nx
theorem fx_last {a n len : Nat} {j : Int32} {x : Int64} (hd : decode (am_code k) pc = .ok (.lastore, 1)) (ht : fm_tg a = 101) (hl : fm_ln a = len) (hi : vp_in j len) (hn : j.toNatClampNeg = n) (nx : am_Ev d k (pc + 1) L st (fm_mk (fm_wL S a n x)) r) : am_Ev d k pc L (.long x :: .int j :: .ref a :: st) (fm_mk S) r := by subst hl hn; exact fe_last hd ht hi nx
theorem fx_bast {a n len : Nat} {j x : Int32} (hd : decode (am_code k) pc = .ok (.bastore, 1)) (ht : fm_tg a = 102) (hl : fm_ln a = len) (hi : vp_in j len) (hn : j.toNatClampNeg = n) (hx : x = 1) (nx : am_Ev d k (pc + 1) L st (fm_mk (fm_wI S a n 1)) r) : am_Ev d k pc L (.int x :: .int j :: .ref a :: st) (fm_mk S) r := by subst hl hn; exact fe_bast hd ht hi hx nx
theorem fx_aast3 {a v n len : Nat} {j : Int32} (hd : decode (am_code k) pc = .ok (.aastore, 1)) (ht : fm_tg a = 103) (hl : fm_ln a = len) (hi : vp_in j len) (hn : j.toNatClampNeg = n) (hv : fm_tg v = 2) (nx : am_Ev d k (pc + 1) L st (fm_mk (fm_wP S a n v)) r) : am_Ev d k pc L (.ref v :: .int j :: .ref a :: st) (fm_mk S) r := by subst hl hn; exact fe_aast3 hd ht hi hv nx
theorem fx_alen {a len : Nat} {v : Int32} (hd : decode (am_code k) pc = .ok (.arraylength, 1)) (ht : 100 ≤ fm_tg a ∧ fm_tg a ≤ 104) (hl : fm_ln a = len) (hv : Int32.ofNat len = v) (nx : am_Ev d k (pc + 1) L (.int v :: st) (fm_mk S) r) : am_Ev d k pc L (.ref a :: st) (fm_mk S) r := by subst hl hv; exact fe_alen hd ht nx
theorem fx_copy {a b l0 l1 s0 d0 n0 : Nat} {sp dp n : Int32} {q : Nat} (hd : decode (am_code k) pc = .ok (.invokestatic idx, 3)) (hq : am_lk am_ac (am_kl k) idx = some q) (hb : fm_tg b = 100) (ha : fm_tg a = 100) (hl0 : fm_ln b = l0) (hl1 : fm_ln a = l1) (hs : ¬ sp < 0 ∧ sp.toNatClampNeg = s0) (hdp : ¬ dp < 0 ∧ dp.toNatClampNeg = d0) (hn : ¬ n < 0 ∧ n.toNatClampNeg = n0) (h : s0 + n0 ≤ l0 ∧ d0 + n0 ≤ l1) (hr : st.length ≤ 2)
    (nx : am_Ev (d + 1) k (pc + 3) L st (fm_mk (fm_cp S b s0 a d0 n0)) r) : am_Ev (d + 1) k pc L (.int n :: .int dp :: .ref a :: .int sp :: .ref b :: st) (fm_mk S) r := by
  obtain ⟨s1, rfl⟩ := hs
  obtain ⟨s2, rfl⟩ := hdp
  obtain ⟨s3, rfl⟩ := hn
  subst hl0 hl1
  exact fe_copy hd hq hb ha ⟨⟨s1, s2, s3⟩, h⟩ hr nx
end FS
end
section
/-! basic blocks: printed by wip/whole/gen13.py -/
-- KitchenSiege$Days.begin()V
theorem b5_0 {d : Nat} {a0 : Nat} {o1 : Option Value} {S : fm_S} {r : Option Value × am_W} (h_a0 : fm_tg a0 = 2) (nx : am_Ev d 5 7 [some (.ref a0), some (.int 0)] [] (fm_mk (fm_wI S a0 0 0)) r) : am_Ev d 5 0 [some (.ref a0), o1] [] (fm_mk S) r := by
  have D_a0 := fm_days h_a0
  refine fs_aloadn (j := 0) (by decide +kernel) rfl ?_
  refine fs_iconst (n := 0) (v := 0) (by decide +kernel) (by decide) ?_
  refine fe_putI (idx := 21) (t := 2) (f := 0) (wp := 123) (by decide +kernel) (by decide +kernel) h_a0 (by decide +kernel) ?_
  refine fs_iconst (n := 0) (v := 0) (by decide +kernel) (by decide) ?_
  refine fs_istoren (j := 1) (L' := [some (.ref a0), some (.int 0)]) (by decide +kernel) (Nat.le_of_ble_eq_true rfl) rfl ?_
  exact nx
theorem b5_7 {d : Nat} {a0 : Nat} {x1 : Int32} {S : fm_S} {r : Option Value × am_W} (kt : 8 ≤ x1 → am_Ev d 5 40 [some (.ref a0), some (.int x1)] [] (fm_mk S) r) (kf : ¬ 8 ≤ x1 → am_Ev d 5 13 [some (.ref a0), some (.int x1)] [] (fm_mk S) r) : am_Ev d 5 7 [some (.ref a0), some (.int x1)] [] (fm_mk S) r := by
  refine fs_iloadn (j := 1) (by decide +kernel) rfl ?_
  refine fs_bipush (n := 8) (v := 8) (by decide +kernel) (by decide) ?_
  exact fs_icge (off := 30) (tgt := 40) (by decide +kernel) (by decide) kt kf
theorem b5_13 {d : Nat} {a0 : Nat} {x1 : Int32} {S : fm_S} {r : Option Value × am_W} (h_a0 : fm_tg a0 = 2) (hi1 : vp_in x1 8) (nx : am_Ev d 5 7 [some (.ref a0), some (.int (x1 + 1))] [] (fm_mk (fm_wI (fm_wI (fm_wI S (a0 + 1) x1.toNatClampNeg (-1)) (a0 + 2) x1.toNatClampNeg (-1)) (a0 + 3) x1.toNatClampNeg 0)) r) : am_Ev d 5 13 [some (.ref a0), some (.int x1)] [] (fm_mk S) r := by
  have D_a0 := fm_days h_a0
  refine fs_aloadn (j := 0) (by decide +kernel) rfl ?_
  refine fe_getR (idx := 9) (t := 2) (f := 1) (fk := 2) (fin := 1) (wp := 126) (x := a0 + 1) (by decide +kernel) (by decide +kernel) h_a0 (by decide +kernel) (fm_objrf h_a0 (by decide) (by decide +kernel) (by decide +kernel)) ?_
  refine fs_iloadn (j := 1) (by decide +kernel) rfl ?_
  refine fs_iconst (n := -1) (v := (-1)) (by decide +kernel) (by decide) ?_
  refine fx_iast (n := x1.toNatClampNeg) (len := 8) (by decide +kernel) D_a0.1 D_a0.2.1 hi1 rfl ?_
  refine fs_aloadn (j := 0) (by decide +kernel) rfl ?_
  refine fe_getR (idx := 15) (t := 2) (f := 2) (fk := 2) (fin := 1) (wp := 130) (x := a0 + 2) (by decide +kernel) (by decide +kernel) h_a0 (by decide +kernel) (fm_objrf h_a0 (by decide) (by decide +kernel) (by decide +kernel)) ?_
  refine fs_iloadn (j := 1) (by decide +kernel) rfl ?_
  refine fs_iconst (n := -1) (v := (-1)) (by decide +kernel) (by decide) ?_
  refine fx_iast (n := x1.toNatClampNeg) (len := 8) (by decide +kernel) D_a0.2.2.1 D_a0.2.2.2.1 hi1 rfl ?_
  refine fs_aloadn (j := 0) (by decide +kernel) rfl ?_
  refine fe_getR (idx := 18) (t := 2) (f := 3) (fk := 2) (fin := 1) (wp := 134) (x := a0 + 3) (by decide +kernel) (by decide +kernel) h_a0 (by decide +kernel) (fm_objrf h_a0 (by decide) (by decide +kernel) (by decide +kernel)) ?_
  refine fs_iloadn (j := 1) (by decide +kernel) rfl ?_
  refine fs_iconst (n := 0) (v := 0) (by decide +kernel) (by decide) ?_
  refine fx_iast (n := x1.toNatClampNeg) (len := 8) (by decide +kernel) D_a0.2.2.2.2.1 D_a0.2.2.2.2.2 hi1 rfl ?_
  refine fs_iinc (j := 1) (n := 1) (v := 1) (L' := [some (.ref a0), some (.int (x1 + 1))]) (by decide +kernel) rfl (Nat.le_of_ble_eq_true rfl) (by decide) rfl ?_
  refine fs_goto (off := -30) (tgt := 7) (by decide +kernel) (by decide) ?_
  exact nx
theorem b5_40 {d : Nat} {a0 : Nat} {x1 : Int32} {S : fm_S}  : am_Ev d 5 40 [some (.ref a0), some (.int x1)] [] (fm_mk S) (none, fm_mk S) := by
  exact fe_retV (by decide +kernel) (by decide +kernel)
-- KitchenSiege$Notes.copy(LKitchenSiege$Notes;)V
theorem b47_0 {d : Nat} {a0 : Nat} {a1 : Nat} {S : fm_S}  (h_a1 : fm_tg a1 = 4) (h_a0 : fm_tg a0 = 4) : am_Ev (d + 1) 47 0 [some (.ref a0), some (.ref a1)] [] (fm_mk S) (none, fm_mk (fm_cp (fm_cp (fm_cp (fm_cp (fm_cp (fm_wI S a0 0 (S.1 a1 0)) (a1 + 1) 0 (a0 + 1) 0 6) (a1 + 2) 0 (a0 + 2) 0 6) (a1 + 3) 0 (a0 + 3) 0 6) (a1 + 4) 0 (a0 + 4) 0 6) (a1 + 5) 0 (a0 + 5) 0 6)) := by
  have N_a1 := fm_notes h_a1
  have N_a0 := fm_notes h_a0
  refine fs_aloadn (j := 0) (by decide +kernel) rfl ?_
  refine fs_aloadn (j := 1) (by decide +kernel) rfl ?_
  refine fe_getI (idx := 27) (t := 4) (f := 0) (fk := 0) (fin := 0) (wp := 95) (by decide +kernel) (by decide +kernel) h_a1 (by decide +kernel) ?_
  refine fe_putI (idx := 27) (t := 4) (f := 0) (wp := 95) (by decide +kernel) (by decide +kernel) h_a0 (by decide +kernel) ?_
  refine fs_aloadn (j := 1) (by decide +kernel) rfl ?_
  refine fe_getR (idx := 9) (t := 4) (f := 1) (fk := 2) (fin := 1) (wp := 98) (x := a1 + 1) (by decide +kernel) (by decide +kernel) h_a1 (by decide +kernel) (fm_objrf h_a1 (by decide) (by decide +kernel) (by decide +kernel)) ?_
  refine fs_iconst (n := 0) (v := 0) (by decide +kernel) (by decide) ?_
  refine fs_aloadn (j := 0) (by decide +kernel) rfl ?_
  refine fe_getR (idx := 9) (t := 4) (f := 1) (fk := 2) (fin := 1) (wp := 98) (x := a0 + 1) (by decide +kernel) (by decide +kernel) h_a0 (by decide +kernel) (fm_objrf h_a0 (by decide) (by decide +kernel) (by decide +kernel)) ?_
  refine fs_iconst (n := 0) (v := 0) (by decide +kernel) (by decide) ?_
  refine fs_bipush (n := 6) (v := 6) (by decide +kernel) (by decide) ?_
  refine fx_copy (idx := 31) (q := 572) (l0 := 6) (l1 := 6) (s0 := 0) (d0 := 0) (n0 := 6) (by decide +kernel) (by decide +kernel) N_a1.1 N_a0.1 N_a1.2.1 N_a0.2.1 (by decide) (by decide) (by decide) (by decide) (Nat.le_of_ble_eq_true rfl) ?_
  refine fs_aloadn (j := 1) (by decide +kernel) rfl ?_
  refine fe_getR (idx := 15) (t := 4) (f := 2) (fk := 2) (fin := 1) (wp := 99) (x := a1 + 2) (by decide +kernel) (by decide +kernel) h_a1 (by decide +kernel) (fm_objrf h_a1 (by decide) (by decide +kernel) (by decide +kernel)) ?_
  refine fs_iconst (n := 0) (v := 0) (by decide +kernel) (by decide) ?_
  refine fs_aloadn (j := 0) (by decide +kernel) rfl ?_
  refine fe_getR (idx := 15) (t := 4) (f := 2) (fk := 2) (fin := 1) (wp := 99) (x := a0 + 2) (by decide +kernel) (by decide +kernel) h_a0 (by decide +kernel) (fm_objrf h_a0 (by decide) (by decide +kernel) (by decide +kernel)) ?_
  refine fs_iconst (n := 0) (v := 0) (by decide +kernel) (by decide) ?_
  refine fs_bipush (n := 6) (v := 6) (by decide +kernel) (by decide) ?_
  refine fx_copy (idx := 31) (q := 572) (l0 := 6) (l1 := 6) (s0 := 0) (d0 := 0) (n0 := 6) (by decide +kernel) (by decide +kernel) N_a1.2.2.1 N_a0.2.2.1 N_a1.2.2.2.1 N_a0.2.2.2.1 (by decide) (by decide) (by decide) (by decide) (Nat.le_of_ble_eq_true rfl) ?_
  refine fs_aloadn (j := 1) (by decide +kernel) rfl ?_
  refine fe_getR (idx := 18) (t := 4) (f := 3) (fk := 2) (fin := 1) (wp := 100) (x := a1 + 3) (by decide +kernel) (by decide +kernel) h_a1 (by decide +kernel) (fm_objrf h_a1 (by decide) (by decide +kernel) (by decide +kernel)) ?_
  refine fs_iconst (n := 0) (v := 0) (by decide +kernel) (by decide) ?_
  refine fs_aloadn (j := 0) (by decide +kernel) rfl ?_
  refine fe_getR (idx := 18) (t := 4) (f := 3) (fk := 2) (fin := 1) (wp := 100) (x := a0 + 3) (by decide +kernel) (by decide +kernel) h_a0 (by decide +kernel) (fm_objrf h_a0 (by decide) (by decide +kernel) (by decide +kernel)) ?_
  refine fs_iconst (n := 0) (v := 0) (by decide +kernel) (by decide) ?_
  refine fs_bipush (n := 6) (v := 6) (by decide +kernel) (by decide) ?_
  refine fx_copy (idx := 31) (q := 572) (l0 := 6) (l1 := 6) (s0 := 0) (d0 := 0) (n0 := 6) (by decide +kernel) (by decide +kernel) N_a1.2.2.2.2.1 N_a0.2.2.2.2.1 N_a1.2.2.2.2.2.1 N_a0.2.2.2.2.2.1 (by decide) (by decide) (by decide) (by decide) (Nat.le_of_ble_eq_true rfl) ?_
  refine fs_aloadn (j := 1) (by decide +kernel) rfl ?_
  refine fe_getR (idx := 21) (t := 4) (f := 4) (fk := 2) (fin := 1) (wp := 101) (x := a1 + 4) (by decide +kernel) (by decide +kernel) h_a1 (by decide +kernel) (fm_objrf h_a1 (by decide) (by decide +kernel) (by decide +kernel)) ?_
  refine fs_iconst (n := 0) (v := 0) (by decide +kernel) (by decide) ?_
  refine fs_aloadn (j := 0) (by decide +kernel) rfl ?_
  refine fe_getR (idx := 21) (t := 4) (f := 4) (fk := 2) (fin := 1) (wp := 101) (x := a0 + 4) (by decide +kernel) (by decide +kernel) h_a0 (by decide +kernel) (fm_objrf h_a0 (by decide) (by decide +kernel) (by decide +kernel)) ?_
  refine fs_iconst (n := 0) (v := 0) (by decide +kernel) (by decide) ?_
  refine fs_bipush (n := 6) (v := 6) (by decide +kernel) (by decide) ?_
  refine fx_copy (idx := 31) (q := 572) (l0 := 6) (l1 := 6) (s0 := 0) (d0 := 0) (n0 := 6) (by decide +kernel) (by decide +kernel) N_a1.2.2.2.2.2.2.1 N_a0.2.2.2.2.2.2.1 N_a1.2.2.2.2.2.2.2.1 N_a0.2.2.2.2.2.2.2.1 (by decide) (by decide) (by decide) (by decide) (Nat.le_of_ble_eq_true rfl) ?_
  refine fs_aloadn (j := 1) (by decide +kernel) rfl ?_
  refine fe_getR (idx := 24) (t := 4) (f := 5) (fk := 2) (fin := 1) (wp := 102) (x := a1 + 5) (by decide +kernel) (by decide +kernel) h_a1 (by decide +kernel) (fm_objrf h_a1 (by decide) (by decide +kernel) (by decide +kernel)) ?_
  refine fs_iconst (n := 0) (v := 0) (by decide +kernel) (by decide) ?_
  refine fs_aloadn (j := 0) (by decide +kernel) rfl ?_
  refine fe_getR (idx := 24) (t := 4) (f := 5) (fk := 2) (fin := 1) (wp := 102) (x := a0 + 5) (by decide +kernel) (by decide +kernel) h_a0 (by decide +kernel) (fm_objrf h_a0 (by decide) (by decide +kernel) (by decide +kernel)) ?_
  refine fs_iconst (n := 0) (v := 0) (by decide +kernel) (by decide) ?_
  refine fs_bipush (n := 6) (v := 6) (by decide +kernel) (by decide) ?_
  refine fx_copy (idx := 31) (q := 572) (l0 := 6) (l1 := 6) (s0 := 0) (d0 := 0) (n0 := 6) (by decide +kernel) (by decide +kernel) N_a1.2.2.2.2.2.2.2.2.1 N_a0.2.2.2.2.2.2.2.2.1 N_a1.2.2.2.2.2.2.2.2.2 N_a0.2.2.2.2.2.2.2.2.2 (by decide) (by decide) (by decide) (by decide) (Nat.le_of_ble_eq_true rfl) ?_
  exact fe_retV (by decide +kernel) (by decide +kernel)
-- KitchenSiege$Days.copy(LKitchenSiege$Days;)V
theorem b48_0 {d : Nat} {a0 : Nat} {a1 : Nat} {S : fm_S}  (h_a1 : fm_tg a1 = 2) (h_a0 : fm_tg a0 = 2) : am_Ev (d + 1) 48 0 [some (.ref a0), some (.ref a1)] [] (fm_mk S) (none, fm_mk (fm_cp (fm_cp (fm_cp (fm_wI S a0 0 (S.1 a1 0)) (a1 + 1) 0 (a0 + 1) 0 8) (a1 + 2) 0 (a0 + 2) 0 8) (a1 + 3) 0 (a0 + 3) 0 8)) := by
  have D_a1 := fm_days h_a1
  have D_a0 := fm_days h_a0
  refine fs_aloadn (j := 0) (by decide +kernel) rfl ?_
  refine fs_aloadn (j := 1) (by decide +kernel) rfl ?_
  refine fe_getI (idx := 21) (t := 2) (f := 0) (fk := 0) (fin := 0) (wp := 123) (by decide +kernel) (by decide +kernel) h_a1 (by decide +kernel) ?_
  refine fe_putI (idx := 21) (t := 2) (f := 0) (wp := 123) (by decide +kernel) (by decide +kernel) h_a0 (by decide +kernel) ?_
  refine fs_aloadn (j := 1) (by decide +kernel) rfl ?_
  refine fe_getR (idx := 9) (t := 2) (f := 1) (fk := 2) (fin := 1) (wp := 126) (x := a1 + 1) (by decide +kernel) (by decide +kernel) h_a1 (by decide +kernel) (fm_objrf h_a1 (by decide) (by decide +kernel) (by decide +kernel)) ?_
  refine fs_iconst (n := 0) (v := 0) (by decide +kernel) (by decide) ?_
  refine fs_aloadn (j := 0) (by decide +kernel) rfl ?_
  refine fe_getR (idx := 9) (t := 2) (f := 1) (fk := 2) (fin := 1) (wp := 126) (x := a0 + 1) (by decide +kernel) (by decide +kernel) h_a0 (by decide +kernel) (fm_objrf h_a0 (by decide) (by decide +kernel) (by decide +kernel)) ?_
  refine fs_iconst (n := 0) (v := 0) (by decide +kernel) (by decide) ?_
  refine fs_bipush (n := 8) (v := 8) (by decide +kernel) (by decide) ?_
  refine fx_copy (idx := 25) (q := 577) (l0 := 8) (l1 := 8) (s0 := 0) (d0 := 0) (n0 := 8) (by decide +kernel) (by decide +kernel) D_a1.1 D_a0.1 D_a1.2.1 D_a0.2.1 (by decide) (by decide) (by decide) (by decide) (Nat.le_of_ble_eq_true rfl) ?_
  refine fs_aloadn (j := 1) (by decide +kernel) rfl ?_
  refine fe_getR (idx := 15) (t := 2) (f := 2) (fk := 2) (fin := 1) (wp := 130) (x := a1 + 2) (by decide +kernel) (by decide +kernel) h_a1 (by decide +kernel) (fm_objrf h_a1 (by decide) (by decide +kernel) (by decide +kernel)) ?_
  refine fs_iconst (n := 0) (v := 0) (by decide +kernel) (by decide) ?_
  refine fs_aloadn (j := 0) (by decide +kernel) rfl ?_
  refine fe_getR (idx := 15) (t := 2) (f := 2) (fk := 2) (fin := 1) (wp := 130) (x := a0 + 2) (by decide +kernel) (by decide +kernel) h_a0 (by decide +kernel) (fm_objrf h_a0 (by decide) (by decide +kernel) (by decide +kernel)) ?_
  refine fs_iconst (n := 0) (v := 0) (by decide +kernel) (by decide) ?_
  refine fs_bipush (n := 8) (v := 8) (by decide +kernel) (by decide) ?_
  refine fx_copy (idx := 25) (q := 577) (l0 := 8) (l1 := 8) (s0 := 0) (d0 := 0) (n0 := 8) (by decide +kernel) (by decide +kernel) D_a1.2.2.1 D_a0.2.2.1 D_a1.2.2.2.1 D_a0.2.2.2.1 (by decide) (by decide) (by decide) (by decide) (Nat.le_of_ble_eq_true rfl) ?_
  refine fs_aloadn (j := 1) (by decide +kernel) rfl ?_
  refine fe_getR (idx := 18) (t := 2) (f := 3) (fk := 2) (fin := 1) (wp := 134) (x := a1 + 3) (by decide +kernel) (by decide +kernel) h_a1 (by decide +kernel) (fm_objrf h_a1 (by decide) (by decide +kernel) (by decide +kernel)) ?_
  refine fs_iconst (n := 0) (v := 0) (by decide +kernel) (by decide) ?_
  refine fs_aloadn (j := 0) (by decide +kernel) rfl ?_
  refine fe_getR (idx := 18) (t := 2) (f := 3) (fk := 2) (fin := 1) (wp := 134) (x := a0 + 3) (by decide +kernel) (by decide +kernel) h_a0 (by decide +kernel) (fm_objrf h_a0 (by decide) (by decide +kernel) (by decide +kernel)) ?_
  refine fs_iconst (n := 0) (v := 0) (by decide +kernel) (by decide) ?_
  refine fs_bipush (n := 8) (v := 8) (by decide +kernel) (by decide) ?_
  refine fx_copy (idx := 25) (q := 577) (l0 := 8) (l1 := 8) (s0 := 0) (d0 := 0) (n0 := 8) (by decide +kernel) (by decide +kernel) D_a1.2.2.2.2.1 D_a0.2.2.2.2.1 D_a1.2.2.2.2.2 D_a0.2.2.2.2.2 (by decide) (by decide) (by decide) (by decide) (Nat.le_of_ble_eq_true rfl) ?_
  exact fe_retV (by decide +kernel) (by decide +kernel)
-- java/lang/Math.floorMod(II)I
theorem b55_0 {d : Nat} {x0 : Int32} {x1 : Int32} {o2 : Option Value} {S : fm_S} {r : Option Value × am_W} (hd0 : ¬ x1 = 0) (kt : 0 ≤ (x0 ^^^ x1) → am_Ev d 55 18 [some (.int x0), some (.int x1), some (.int (x0 - x0 / x1 * x1))] [] (fm_mk S) r) (kf : ¬ 0 ≤ (x0 ^^^ x1) → am_Ev d 55 10 [some (.int x0), some (.int x1), some (.int (x0 - x0 / x1 * x1))] [] (fm_mk S) r) : am_Ev d 55 0 [some (.int x0), some (.int x1), o2] [] (fm_mk S) r := by
  refine fs_iloadn (j := 0) (by decide +kernel) rfl ?_
  refine fs_iloadn (j := 1) (by decide +kernel) rfl ?_
  refine fe_irem (by decide +kernel) hd0 ?_
  refine fs_istoren (j := 2) (L' := [some (.int x0), some (.int x1), some (.int (x0 - x0 / x1 * x1))]) (by decide +kernel) (Nat.le_of_ble_eq_true rfl) rfl ?_
  refine fs_iloadn (j := 0) (by decide +kernel) rfl ?_
  refine fs_iloadn (j := 1) (by decide +kernel) rfl ?_
  refine fs_ixor (by decide +kernel) ?_
  exact fs_ifge (off := 11) (tgt := 18) (by decide +kernel) (by decide) kt kf
theorem b55_10 {d : Nat} {x0 : Int32} {x1 : Int32} {x2 : Int32} {S : fm_S} {r : Option Value × am_W} (kt : x2 = 0 → am_Ev d 55 18 [some (.int x0), some (.int x1), some (.int x2)] [] (fm_mk S) r) (kf : ¬ x2 = 0 → am_Ev d 55 14 [some (.int x0), some (.int x1), some (.int x2)] [] (fm_mk S) r) : am_Ev d 55 10 [some (.int x0), some (.int x1), some (.int x2)] [] (fm_mk S) r := by
  refine fs_iloadn (j := 2) (by decide +kernel) rfl ?_
  exact fs_ifeq (off := 7) (tgt := 18) (by decide +kernel) (by decide) kt kf
theorem b55_14 {d : Nat} {x0 : Int32} {x1 : Int32} {x2 : Int32} {S : fm_S}  : am_Ev d 55 14 [some (.int x0), some (.int x1), some (.int x2)] [] (fm_mk S) (some (.int (x2 + x1)), fm_mk S) := by
  refine fs_iloadn (j := 2) (by decide +kernel) rfl ?_
  refine fs_iloadn (j := 1) (by decide +kernel) rfl ?_
  refine fs_iadd (by decide +kernel) ?_
  exact fe_retI (by decide +kernel) (by decide +kernel)
theorem b55_18 {d : Nat} {x0 : Int32} {x1 : Int32} {x2 : Int32} {S : fm_S}  : am_Ev d 55 18 [some (.int x0), some (.int x1), some (.int x2)] [] (fm_mk S) (some (.int x2), fm_mk S) := by
  refine fs_iloadn (j := 2) (by decide +kernel) rfl ?_
  exact fe_retI (by decide +kernel) (by decide +kernel)
-- java/lang/Math.max(II)I
theorem b58_0 {d : Nat} {x0 : Int32} {x1 : Int32} {S : fm_S} {r : Option Value × am_W} (kt : x0 < x1 → am_Ev d 58 9 [some (.int x0), some (.int x1)] [] (fm_mk S) r) (kf : ¬ x0 < x1 → am_Ev d 58 5 [some (.int x0), some (.int x1)] [] (fm_mk S) r) : am_Ev d 58 0 [some (.int x0), some (.int x1)] [] (fm_mk S) r := by
  refine fs_iloadn (j := 0) (by decide +kernel) rfl ?_
  refine fs_iloadn (j := 1) (by decide +kernel) rfl ?_
  exact fs_iclt (off := 7) (tgt := 9) (by decide +kernel) (by decide) kt kf
theorem b58_5 {d : Nat} {x0 : Int32} {x1 : Int32} {S : fm_S} {r : Option Value × am_W} (nx : am_Ev d 58 10 [some (.int x0), some (.int x1)] [.int x0] (fm_mk S) r) : am_Ev d 58 5 [some (.int x0), some (.int x1)] [] (fm_mk S) r := by
  refine fs_iloadn (j := 0) (by decide +kernel) rfl ?_
  refine fs_goto (off := 4) (tgt := 10) (by decide +kernel) (by decide) ?_
  exact nx
theorem b58_9 {d : Nat} {x0 : Int32} {x1 : Int32} {S : fm_S} {r : Option Value × am_W} (nx : am_Ev d 58 10 [some (.int x0), some (.int x1)] [.int x1] (fm_mk S) r) : am_Ev d 58 9 [some (.int x0), some (.int x1)] [] (fm_mk S) r := by
  refine fs_iloadn (j := 1) (by decide +kernel) rfl ?_
  exact nx
theorem b58_10 {d : Nat} {x0 : Int32} {x1 : Int32} {sx0 : Int32} {S : fm_S}  : am_Ev d 58 10 [some (.int x0), some (.int x1)] [.int sx0] (fm_mk S) (some (.int sx0), fm_mk S) := by
  exact fe_retI (by decide +kernel) (by decide +kernel)
-- KitchenSiege$Days.isShut(I)Z
theorem b61_0 {d : Nat} {a0 : Nat} {x1 : Int32} {S : fm_S} {r : Option Value × am_W} (h_a0 : fm_tg a0 = 2) (hi1 : vp_in x1 8) (kt : ¬ (S.1 (a0 + 1) x1.toNatClampNeg) = (-1) → am_Ev d 61 14 [some (.ref a0), some (.int x1)] [] (fm_mk S) r) (kf : (S.1 (a0 + 1) x1.toNatClampNeg) = (-1) → am_Ev d 61 10 [some (.ref a0), some (.int x1)] [] (fm_mk S) r) : am_Ev d 61 0 [some (.ref a0), some (.int x1)] [] (fm_mk S) r := by
  have D_a0 := fm_days h_a0
  refine fs_aloadn (j := 0) (by decide +kernel) rfl ?_
  refine fe_getR (idx := 9) (t := 2) (f := 1) (fk := 2) (fin := 1) (wp := 126) (x := a0 + 1) (by decide +kernel) (by decide +kernel) h_a0 (by decide +kernel) (fm_objrf h_a0 (by decide) (by decide +kernel) (by decide +kernel)) ?_
  refine fs_iloadn (j := 1) (by decide +kernel) rfl ?_
  refine fx_iald (n := x1.toNatClampNeg) (len := 8) (by decide +kernel) D_a0.1 D_a0.2.1 hi1 rfl ?_
  refine fs_iconst (n := -1) (v := (-1)) (by decide +kernel) (by decide) ?_
  exact fs_icne (off := 7) (tgt := 14) (by decide +kernel) (by decide) kt kf
theorem b61_10 {d : Nat} {a0 : Nat} {x1 : Int32} {S : fm_S} {r : Option Value × am_W} (nx : am_Ev d 61 15 [some (.ref a0), some (.int x1)] [.int 1] (fm_mk S) r) : am_Ev d 61 10 [some (.ref a0), some (.int x1)] [] (fm_mk S) r := by
  refine fs_iconst (n := 1) (v := 1) (by decide +kernel) (by decide) ?_
  refine fs_goto (off := 4) (tgt := 15) (by decide +kernel) (by decide) ?_
  exact nx
theorem b61_14 {d : Nat} {a0 : Nat} {x1 : Int32} {S : fm_S} {r : Option Value × am_W} (nx : am_Ev d 61 15 [some (.ref a0), some (.int x1)] [.int 0] (fm_mk S) r) : am_Ev d 61 14 [some (.ref a0), some (.int x1)] [] (fm_mk S) r := by
  refine fs_iconst (n := 0) (v := 0) (by decide +kernel) (by decide) ?_
  exact nx
theorem b61_15 {d : Nat} {a0 : Nat} {x1 : Int32} {sx0 : Int32} {S : fm_S}  (hz : sx0 = 0 ∨ sx0 = 1) : am_Ev d 61 15 [some (.ref a0), some (.int x1)] [.int sx0] (fm_mk S) (some (.int sx0), fm_mk S) := by
  exact fe_retZ (by decide +kernel) (by decide +kernel) hz
-- KitchenSiege$Days.ahead(II)I
theorem b63_0 {d : Nat} {a0 : Nat} {x1 : Int32} {x2 : Int32} {S : fm_S} {r : Option Value × am_W} (h_a0 : fm_tg a0 = 2) (hi1 : vp_in x1 8) (kt : ¬ (S.1 (a0 + 2) x1.toNatClampNeg) = x2 → am_Ev d 63 19 [some (.ref a0), some (.int x1), some (.int x2)] [] (fm_mk S) r) (kf : (S.1 (a0 + 2) x1.toNatClampNeg) = x2 → am_Ev d 63 10 [some (.ref a0), some (.int x1), some (.int x2)] [] (fm_mk S) r) : am_Ev d 63 0 [some (.ref a0), some (.int x1), some (.int x2)] [] (fm_mk S) r := by
  have D_a0 := fm_days h_a0
  refine fs_aloadn (j := 0) (by decide +kernel) rfl ?_
  refine fe_getR (idx := 15) (t := 2) (f := 2) (fk := 2) (fin := 1) (wp := 130) (x := a0 + 2) (by decide +kernel) (by decide +kernel) h_a0 (by decide +kernel) (fm_objrf h_a0 (by decide) (by decide +kernel) (by decide +kernel)) ?_
  refine fs_iloadn (j := 1) (by decide +kernel) rfl ?_
  refine fx_iald (n := x1.toNatClampNeg) (len := 8) (by decide +kernel) D_a0.2.2.1 D_a0.2.2.2.1 hi1 rfl ?_
  refine fs_iloadn (j := 2) (by decide +kernel) rfl ?_
  exact fs_icne (off := 12) (tgt := 19) (by decide +kernel) (by decide) kt kf
theorem b63_10 {d : Nat} {a0 : Nat} {x1 : Int32} {x2 : Int32} {S : fm_S} {r : Option Value × am_W} (h_a0 : fm_tg a0 = 2) (hi1 : vp_in x1 8) (nx : am_Ev d 63 20 [some (.ref a0), some (.int x1), some (.int x2)] [.int (S.1 (a0 + 3) x1.toNatClampNeg)] (fm_mk S) r) : am_Ev d 63 10 [some (.ref a0), some (.int x1), some (.int x2)] [] (fm_mk S) r := by
  have D_a0 := fm_days h_a0
  refine fs_aloadn (j := 0) (by decide +kernel) rfl ?_
  refine fe_getR (idx := 18) (t := 2) (f := 3) (fk := 2) (fin := 1) (wp := 134) (x := a0 + 3) (by decide +kernel) (by decide +kernel) h_a0 (by decide +kernel) (fm_objrf h_a0 (by decide) (by decide +kernel) (by decide +kernel)) ?_
  refine fs_iloadn (j := 1) (by decide +kernel) rfl ?_
  refine fx_iald (n := x1.toNatClampNeg) (len := 8) (by decide +kernel) D_a0.2.2.2.2.1 D_a0.2.2.2.2.2 hi1 rfl ?_
  refine fs_goto (off := 4) (tgt := 20) (by decide +kernel) (by decide) ?_
  exact nx
theorem b63_19 {d : Nat} {a0 : Nat} {x1 : Int32} {x2 : Int32} {S : fm_S} {r : Option Value × am_W} (nx : am_Ev d 63 20 [some (.ref a0), some (.int x1), some (.int x2)] [.int 0] (fm_mk S) r) : am_Ev d 63 19 [some (.ref a0), some (.int x1), some (.int x2)] [] (fm_mk S) r := by
  refine fs_iconst (n := 0) (v := 0) (by decide +kernel) (by decide) ?_
  exact nx
theorem b63_20 {d : Nat} {a0 : Nat} {x1 : Int32} {x2 : Int32} {sx0 : Int32} {S : fm_S}  : am_Ev d 63 20 [some (.ref a0), some (.int x1), some (.int x2)] [.int sx0] (fm_mk S) (some (.int sx0), fm_mk S) := by
  exact fe_retI (by decide +kernel) (by decide +kernel)
-- KitchenSiege$Nose.pull(IIIIII)I
theorem b65_0 {d : Nat} {x0 : Int32} {x1 : Int32} {x2 : Int32} {x3 : Int32} {x4 : Int32} {x5 : Int32} {o6 : Option Value} {o7 : Option Value} {o8 : Option Value} {S : fm_S} {r : Option Value × am_W} (kt : ¬ x2 = x1 → am_Ev d 65 11 [some (.int x0), some (.int x1), some (.int x2), some (.int x3), some (.int x4), some (.int x5), o6, o7, o8] [] (fm_mk S) r) (kf : x2 = x1 → am_Ev d 65 5 [some (.int x0), some (.int x1), some (.int x2), some (.int x3), some (.int x4), some (.int x5), o6, o7, o8] [] (fm_mk S) r) : am_Ev d 65 0 [some (.int x0), some (.int x1), some (.int x2), some (.int x3), some (.int x4), some (.int x5), o6, o7, o8] [] (fm_mk S) r := by
  refine fs_iloadn (j := 2) (by decide +kernel) rfl ?_
  refine fs_iloadn (j := 1) (by decide +kernel) rfl ?_
  exact fs_icne (off := 9) (tgt := 11) (by decide +kernel) (by decide) kt kf
theorem b65_5 {d : Nat} {x0 : Int32} {x1 : Int32} {x2 : Int32} {x3 : Int32} {x4 : Int32} {x5 : Int32} {o6 : Option Value} {o7 : Option Value} {o8 : Option Value} {S : fm_S} {r : Option Value × am_W} (nx : am_Ev d 65 12 [some (.int x0), some (.int x1), some (.int x2), some (.int x3), some (.int x4), some (.int x5), o6, o7, o8] [.int (2 * x3)] (fm_mk S) r) : am_Ev d 65 5 [some (.int x0), some (.int x1), some (.int x2), some (.int x3), some (.int x4), some (.int x5), o6, o7, o8] [] (fm_mk S) r := by
  refine fs_iconst (n := 2) (v := 2) (by decide +kernel) (by decide) ?_
  refine fs_iloadn (j := 3) (by decide +kernel) rfl ?_
  refine fs_imul (by decide +kernel) ?_
  refine fs_goto (off := 4) (tgt := 12) (by decide +kernel) (by decide) ?_
  exact nx
theorem b65_11 {d : Nat} {x0 : Int32} {x1 : Int32} {x2 : Int32} {x3 : Int32} {x4 : Int32} {x5 : Int32} {o6 : Option Value} {o7 : Option Value} {o8 : Option Value} {S : fm_S} {r : Option Value × am_W} (nx : am_Ev d 65 12 [some (.int x0), some (.int x1), some (.int x2), some (.int x3), some (.int x4), some (.int x5), o6, o7, o8] [.int x3] (fm_mk S) r) : am_Ev d 65 11 [some (.int x0), some (.int x1), some (.int x2), some (.int x3), some (.int x4), some (.int x5), o6, o7, o8] [] (fm_mk S) r := by
  refine fs_iloadn (j := 3) (by decide +kernel) rfl ?_
  exact nx
theorem b65_12 {d : Nat} {x0 : Int32} {x1 : Int32} {x2 : Int32} {x3 : Int32} {x4 : Int32} {x5 : Int32} {o6 : Option Value} {o7 : Option Value} {o8 : Option Value} {sx0 : Int32} {S : fm_S} {r : Option Value × am_W} (kt : ¬ x2 = 0 → am_Ev d 65 28 [some (.int x0), some (.int x1), some (.int x2), some (.int x3), some (.int x4), some (.int x5), some (.int sx0), some (.int (sx0 / 2)), o8] [] (fm_mk S) r) (kf : x2 = 0 → am_Ev d 65 24 [some (.int x0), some (.int x1), some (.int x2), some (.int x3), some (.int x4), some (.int x5), some (.int sx0), some (.int (sx0 / 2)), o8] [] (fm_mk S) r) : am_Ev d 65 12 [some (.int x0), some (.int x1), some (.int x2), some (.int x3), some (.int x4), some (.int x5), o6, o7, o8] [.int sx0] (fm_mk S) r := by
  refine fs_istore (j := 6) (L' := [some (.int x0), some (.int x1), some (.int x2), some (.int x3), some (.int x4), some (.int x5), some (.int sx0), o7, o8]) (by decide +kernel) (Nat.le_of_ble_eq_true rfl) rfl ?_
  refine fs_iload (j := 6) (by decide +kernel) rfl ?_
  refine fs_iconst (n := 2) (v := 2) (by decide +kernel) (by decide) ?_
  refine fe_idiv (by decide +kernel) (by decide) ?_
  refine fs_istore (j := 7) (L' := [some (.int x0), some (.int x1), some (.int x2), some (.int x3), some (.int x4), some (.int x5), some (.int sx0), some (.int (sx0 / 2)), o8]) (by decide +kernel) (Nat.le_of_ble_eq_true rfl) rfl ?_
  refine fs_iloadn (j := 2) (by decide +kernel) rfl ?_
  exact fs_ifne (off := 7) (tgt := 28) (by decide +kernel) (by decide) kt kf
theorem b65_24 {d : Nat} {x0 : Int32} {x1 : Int32} {x2 : Int32} {x3 : Int32} {x4 : Int32} {x5 : Int32} {x6 : Int32} {x7 : Int32} {o8 : Option Value} {S : fm_S} {r : Option Value × am_W} (nx : am_Ev d 65 30 [some (.int x0), some (.int x1), some (.int x2), some (.int x3), some (.int x4), some (.int x5), some (.int x6), some (.int x7), o8] [.int 0] (fm_mk S) r) : am_Ev d 65 24 [some (.int x0), some (.int x1), some (.int x2), some (.int x3), some (.int x4), some (.int x5), some (.int x6), some (.int x7), o8] [] (fm_mk S) r := by
  refine fs_iconst (n := 0) (v := 0) (by decide +kernel) (by decide) ?_
  refine fs_goto (off := 5) (tgt := 30) (by decide +kernel) (by decide) ?_
  exact nx
theorem b65_28 {d : Nat} {x0 : Int32} {x1 : Int32} {x2 : Int32} {x3 : Int32} {x4 : Int32} {x5 : Int32} {x6 : Int32} {x7 : Int32} {o8 : Option Value} {S : fm_S} {r : Option Value × am_W} (nx : am_Ev d 65 30 [some (.int x0), some (.int x1), some (.int x2), some (.int x3), some (.int x4), some (.int x5), some (.int x6), some (.int x7), o8] [.int x6] (fm_mk S) r) : am_Ev d 65 28 [some (.int x0), some (.int x1), some (.int x2), some (.int x3), some (.int x4), some (.int x5), some (.int x6), some (.int x7), o8] [] (fm_mk S) r := by
  refine fs_iload (j := 6) (by decide +kernel) rfl ?_
  exact nx
theorem b65_30 {d : Nat} {x0 : Int32} {x1 : Int32} {x2 : Int32} {x3 : Int32} {x4 : Int32} {x5 : Int32} {x6 : Int32} {x7 : Int32} {o8 : Option Value} {sx0 : Int32} {S : fm_S} {r : Option Value × am_W} (k0 : x0 = 0 → am_Ev d 65 72 [some (.int x0), some (.int x1), some (.int x2), some (.int x3), some (.int x4), some (.int x5), some (.int x6), some (.int x7), some (.int sx0)] [] (fm_mk S) r) (k1 : x0 = 1 → am_Ev d 65 75 [some (.int x0), some (.int x1), some (.int x2), some (.int x3), some (.int x4), some (.int x5), some (.int x6), some (.int x7), some (.int sx0)] [] (fm_mk S) r) (k2 : x0 = 2 → am_Ev d 65 78 [some (.int x0), some (.int x1), some (.int x2), some (.int x3), some (.int x4), some (.int x5), some (.int x6), some (.int x7), some (.int sx0)] [] (fm_mk S) r) (k3 : x0 = 3 → am_Ev d 65 81 [some (.int x0), some (.int x1), some (.int x2), some (.int x3), some (.int x4), some (.int x5), some (.int x6), some (.int x7), some (.int sx0)] [] (fm_mk S) r) (k4 : x0 = 4 → am_Ev d 65 97 [some (.int x0), some (.int x1), some (.int x2), some (.int x3), some (.int x4), some (.int x5), some (.int x6), some (.int x7), some (.int sx0)] [] (fm_mk S) r) (k5 : x0 = 5 → am_Ev d 65 112 [some (.int x0), some (.int x1), some (.int x2), some (.int x3), some (.int x4), some (.int x5), some (.int x6), some (.int x7), some (.int sx0)] [] (fm_mk S) r) (kd : ¬ x0 = 0 → ¬ x0 = 1 → ¬ x0 = 2 → ¬ x0 = 3 → ¬ x0 = 4 → ¬ x0 = 5 → am_Ev d 65 129 [some (.int x0), some (.int x1), some (.int x2), some (.int x3), some (.int x4), some (.int x5), some (.int x6), some (.int x7), some (.int sx0)] [] (fm_mk S) r) : am_Ev d 65 30 [some (.int x0), some (.int x1), some (.int x2), some (.int x3), some (.int x4), some (.int x5), some (.int x6), some (.int x7), o8] [.int sx0] (fm_mk S) r := by
  refine fs_istore (j := 8) (L' := [some (.int x0), some (.int x1), some (.int x2), some (.int x3), some (.int x4), some (.int x5), some (.int x6), some (.int x7), some (.int sx0)]) (by decide +kernel) (Nat.le_of_ble_eq_true rfl) rfl ?_
  refine fs_iloadn (j := 0) (by decide +kernel) rfl ?_
  by_cases c0 : x0 = 0
  · exact fs_sw (i := .tableswitch 96 0 5 #[39, 42, 45, 48, 64, 79]) (z := 39) (by decide +kernel) rfl (by rw [c0]; rfl) (k0 c0)
  by_cases c1 : x0 = 1
  · exact fs_sw (i := .tableswitch 96 0 5 #[39, 42, 45, 48, 64, 79]) (z := 39) (by decide +kernel) rfl (by rw [c1]; rfl) (k1 c1)
  by_cases c2 : x0 = 2
  · exact fs_sw (i := .tableswitch 96 0 5 #[39, 42, 45, 48, 64, 79]) (z := 39) (by decide +kernel) rfl (by rw [c2]; rfl) (k2 c2)
  by_cases c3 : x0 = 3
  · exact fs_sw (i := .tableswitch 96 0 5 #[39, 42, 45, 48, 64, 79]) (z := 39) (by decide +kernel) rfl (by rw [c3]; rfl) (k3 c3)
  by_cases c4 : x0 = 4
  · exact fs_sw (i := .tableswitch 96 0 5 #[39, 42, 45, 48, 64, 79]) (z := 39) (by decide +kernel) rfl (by rw [c4]; rfl) (k4 c4)
  by_cases c5 : x0 = 5
  · exact fs_sw (i := .tableswitch 96 0 5 #[39, 42, 45, 48, 64, 79]) (z := 39) (by decide +kernel) rfl (by rw [c5]; rfl) (k5 c5)
  have e0 : ¬ (x0).toInt = 0 := fun q => c0 (Int32.toInt_inj.mp (q.trans (by decide)))
  have e1 : ¬ (x0).toInt = 1 := fun q => c1 (Int32.toInt_inj.mp (q.trans (by decide)))
  have e2 : ¬ (x0).toInt = 2 := fun q => c2 (Int32.toInt_inj.mp (q.trans (by decide)))
  have e3 : ¬ (x0).toInt = 3 := fun q => c3 (Int32.toInt_inj.mp (q.trans (by decide)))
  have e4 : ¬ (x0).toInt = 4 := fun q => c4 (Int32.toInt_inj.mp (q.trans (by decide)))
  have e5 : ¬ (x0).toInt = 5 := fun q => c5 (Int32.toInt_inj.mp (q.trans (by decide)))
  exact fs_tout (dflt := 96) (lo := 0) (hi := 5) (offs := #[39, 42, 45, 48, 64, 79]) (z := 39) (by decide +kernel) (by omega) (by decide) (kd c0 c1 c2 c3 c4 c5)
theorem b65_72 {d : Nat} {x0 : Int32} {x1 : Int32} {x2 : Int32} {x3 : Int32} {x4 : Int32} {x5 : Int32} {x6 : Int32} {x7 : Int32} {x8 : Int32} {S : fm_S}  : am_Ev d 65 72 [some (.int x0), some (.int x1), some (.int x2), some (.int x3), some (.int x4), some (.int x5), some (.int x6), some (.int x7), some (.int x8)] [] (fm_mk S) (some (.int x6), fm_mk S) := by
  refine fs_iload (j := 6) (by decide +kernel) rfl ?_
  exact fe_retI (by decide +kernel) (by decide +kernel)
theorem b65_75 {d : Nat} {x0 : Int32} {x1 : Int32} {x2 : Int32} {x3 : Int32} {x4 : Int32} {x5 : Int32} {x6 : Int32} {x7 : Int32} {x8 : Int32} {S : fm_S}  : am_Ev d 65 75 [some (.int x0), some (.int x1), some (.int x2), some (.int x3), some (.int x4), some (.int x5), some (.int x6), some (.int x7), some (.int x8)] [] (fm_mk S) (some (.int x7), fm_mk S) := by
  refine fs_iload (j := 7) (by decide +kernel) rfl ?_
  exact fe_retI (by decide +kernel) (by decide +kernel)
theorem b65_78 {d : Nat} {x0 : Int32} {x1 : Int32} {x2 : Int32} {x3 : Int32} {x4 : Int32} {x5 : Int32} {x6 : Int32} {x7 : Int32} {x8 : Int32} {S : fm_S}  : am_Ev d 65 78 [some (.int x0), some (.int x1), some (.int x2), some (.int x3), some (.int x4), some (.int x5), some (.int x6), some (.int x7), some (.int x8)] [] (fm_mk S) (some (.int x8), fm_mk S) := by
  refine fs_iload (j := 8) (by decide +kernel) rfl ?_
  exact fe_retI (by decide +kernel) (by decide +kernel)
theorem b65_81 {d : Nat} {x0 : Int32} {x1 : Int32} {x2 : Int32} {x3 : Int32} {x4 : Int32} {x5 : Int32} {x6 : Int32} {x7 : Int32} {x8 : Int32} {S : fm_S} {r : Option Value × am_W} (kt : ¬ (x4 - x4 / 7 * 7) = 5 → am_Ev d 65 94 [some (.int x0), some (.int x1), some (.int x2), some (.int x3), some (.int x4), some (.int x5), some (.int x6), some (.int x7), some (.int x8)] [] (fm_mk S) r) (kf : (x4 - x4 / 7 * 7) = 5 → am_Ev d 65 90 [some (.int x0), some (.int x1), some (.int x2), some (.int x3), some (.int x4), some (.int x5), some (.int x6), some (.int x7), some (.int x8)] [] (fm_mk S) r) : am_Ev d 65 81 [some (.int x0), some (.int x1), some (.int x2), some (.int x3), some (.int x4), some (.int x5), some (.int x6), some (.int x7), some (.int x8)] [] (fm_mk S) r := by
  refine fs_iload (j := 4) (by decide +kernel) rfl ?_
  refine fs_bipush (n := 7) (v := 7) (by decide +kernel) (by decide) ?_
  refine fe_irem (by decide +kernel) (by decide) ?_
  refine fs_iconst (n := 5) (v := 5) (by decide +kernel) (by decide) ?_
  exact fs_icne (off := 7) (tgt := 94) (by decide +kernel) (by decide) kt kf
theorem b65_90 {d : Nat} {x0 : Int32} {x1 : Int32} {x2 : Int32} {x3 : Int32} {x4 : Int32} {x5 : Int32} {x6 : Int32} {x7 : Int32} {x8 : Int32} {S : fm_S} {r : Option Value × am_W} (nx : am_Ev d 65 96 [some (.int x0), some (.int x1), some (.int x2), some (.int x3), some (.int x4), some (.int x5), some (.int x6), some (.int x7), some (.int x8)] [.int 0] (fm_mk S) r) : am_Ev d 65 90 [some (.int x0), some (.int x1), some (.int x2), some (.int x3), some (.int x4), some (.int x5), some (.int x6), some (.int x7), some (.int x8)] [] (fm_mk S) r := by
  refine fs_iconst (n := 0) (v := 0) (by decide +kernel) (by decide) ?_
  refine fs_goto (off := 5) (tgt := 96) (by decide +kernel) (by decide) ?_
  exact nx
theorem b65_94 {d : Nat} {x0 : Int32} {x1 : Int32} {x2 : Int32} {x3 : Int32} {x4 : Int32} {x5 : Int32} {x6 : Int32} {x7 : Int32} {x8 : Int32} {S : fm_S} {r : Option Value × am_W} (nx : am_Ev d 65 96 [some (.int x0), some (.int x1), some (.int x2), some (.int x3), some (.int x4), some (.int x5), some (.int x6), some (.int x7), some (.int x8)] [.int x6] (fm_mk S) r) : am_Ev d 65 94 [some (.int x0), some (.int x1), some (.int x2), some (.int x3), some (.int x4), some (.int x5), some (.int x6), some (.int x7), some (.int x8)] [] (fm_mk S) r := by
  refine fs_iload (j := 6) (by decide +kernel) rfl ?_
  exact nx
theorem b65_96 {d : Nat} {x0 : Int32} {x1 : Int32} {x2 : Int32} {x3 : Int32} {x4 : Int32} {x5 : Int32} {x6 : Int32} {x7 : Int32} {x8 : Int32} {sx0 : Int32} {S : fm_S}  : am_Ev d 65 96 [some (.int x0), some (.int x1), some (.int x2), some (.int x3), some (.int x4), some (.int x5), some (.int x6), some (.int x7), some (.int x8)] [.int sx0] (fm_mk S) (some (.int sx0), fm_mk S) := by
  exact fe_retI (by decide +kernel) (by decide +kernel)
theorem b65_97 {d : Nat} {x0 : Int32} {x1 : Int32} {x2 : Int32} {x3 : Int32} {x4 : Int32} {x5 : Int32} {x6 : Int32} {x7 : Int32} {x8 : Int32} {S : fm_S} {r : Option Value × am_W} (kt : x8 ≤ 3 → am_Ev d 65 110 [some (.int x0), some (.int x1), some (.int x2), some (.int x3), some (.int x4), some (.int x5), some (.int x6), some (.int x7), some (.int x8)] [] (fm_mk S) r) (kf : ¬ x8 ≤ 3 → am_Ev d 65 103 [some (.int x0), some (.int x1), some (.int x2), some (.int x3), some (.int x4), some (.int x5), some (.int x6), some (.int x7), some (.int x8)] [] (fm_mk S) r) : am_Ev d 65 97 [some (.int x0), some (.int x1), some (.int x2), some (.int x3), some (.int x4), some (.int x5), some (.int x6), some (.int x7), some (.int x8)] [] (fm_mk S) r := by
  refine fs_iload (j := 8) (by decide +kernel) rfl ?_
  refine fs_iconst (n := 3) (v := 3) (by decide +kernel) (by decide) ?_
  exact fs_icle (off := 10) (tgt := 110) (by decide +kernel) (by decide) kt kf
theorem b65_103 {d : Nat} {x0 : Int32} {x1 : Int32} {x2 : Int32} {x3 : Int32} {x4 : Int32} {x5 : Int32} {x6 : Int32} {x7 : Int32} {x8 : Int32} {S : fm_S} {r : Option Value × am_W} (nx : am_Ev d 65 111 [some (.int x0), some (.int x1), some (.int x2), some (.int x3), some (.int x4), some (.int x5), some (.int x6), some (.int x7), some (.int x8)] [.int (x8 - 3)] (fm_mk S) r) : am_Ev d 65 103 [some (.int x0), some (.int x1), some (.int x2), some (.int x3), some (.int x4), some (.int x5), some (.int x6), some (.int x7), some (.int x8)] [] (fm_mk S) r := by
  refine fs_iload (j := 8) (by decide +kernel) rfl ?_
  refine fs_iconst (n := 3) (v := 3) (by decide +kernel) (by decide) ?_
  refine fs_isub (by decide +kernel) ?_
  refine fs_goto (off := 4) (tgt := 111) (by decide +kernel) (by decide) ?_
  exact nx
theorem b65_110 {d : Nat} {x0 : Int32} {x1 : Int32} {x2 : Int32} {x3 : Int32} {x4 : Int32} {x5 : Int32} {x6 : Int32} {x7 : Int32} {x8 : Int32} {S : fm_S} {r : Option Value × am_W} (nx : am_Ev d 65 111 [some (.int x0), some (.int x1), some (.int x2), some (.int x3), some (.int x4), some (.int x5), some (.int x6), some (.int x7), some (.int x8)] [.int 0] (fm_mk S) r) : am_Ev d 65 110 [some (.int x0), some (.int x1), some (.int x2), some (.int x3), some (.int x4), some (.int x5), some (.int x6), some (.int x7), some (.int x8)] [] (fm_mk S) r := by
  refine fs_iconst (n := 0) (v := 0) (by decide +kernel) (by decide) ?_
  exact nx
theorem b65_111 {d : Nat} {x0 : Int32} {x1 : Int32} {x2 : Int32} {x3 : Int32} {x4 : Int32} {x5 : Int32} {x6 : Int32} {x7 : Int32} {x8 : Int32} {sx0 : Int32} {S : fm_S}  : am_Ev d 65 111 [some (.int x0), some (.int x1), some (.int x2), some (.int x3), some (.int x4), some (.int x5), some (.int x6), some (.int x7), some (.int x8)] [.int sx0] (fm_mk S) (some (.int sx0), fm_mk S) := by
  exact fe_retI (by decide +kernel) (by decide +kernel)
theorem b65_112 {d : Nat} {x0 : Int32} {x1 : Int32} {x2 : Int32} {x3 : Int32} {x4 : Int32} {x5 : Int32} {x6 : Int32} {x7 : Int32} {x8 : Int32} {S : fm_S} {r : Option Value × am_W} (kt : x7 ≤ 0 → am_Ev d 65 127 [some (.int x0), some (.int x1), some (.int x2), some (.int x3), some (.int x4), some (.int x5), some (.int x6), some (.int x7), some (.int x8)] [] (fm_mk S) r) (kf : ¬ x7 ≤ 0 → am_Ev d 65 117 [some (.int x0), some (.int x1), some (.int x2), some (.int x3), some (.int x4), some (.int x5), some (.int x6), some (.int x7), some (.int x8)] [] (fm_mk S) r) : am_Ev d 65 112 [some (.int x0), some (.int x1), some (.int x2), some (.int x3), some (.int x4), some (.int x5), some (.int x6), some (.int x7), some (.int x8)] [] (fm_mk S) r := by
  refine fs_iload (j := 7) (by decide +kernel) rfl ?_
  exact fs_ifle (off := 13) (tgt := 127) (by decide +kernel) (by decide) kt kf
theorem b65_117 {d : Nat} {x0 : Int32} {x1 : Int32} {x2 : Int32} {x3 : Int32} {x4 : Int32} {x5 : Int32} {x6 : Int32} {x7 : Int32} {x8 : Int32} {S : fm_S} {r : Option Value × am_W} (nx : am_Ev d 65 128 [some (.int x0), some (.int x1), some (.int x2), some (.int x3), some (.int x4), some (.int x5), some (.int x6), some (.int x7), some (.int x8)] [.int (x7 + (2 * x5))] (fm_mk S) r) : am_Ev d 65 117 [some (.int x0), some (.int x1), some (.int x2), some (.int x3), some (.int x4), some (.int x5), some (.int x6), some (.int x7), some (.int x8)] [] (fm_mk S) r := by
  refine fs_iload (j := 7) (by decide +kernel) rfl ?_
  refine fs_iconst (n := 2) (v := 2) (by decide +kernel) (by decide) ?_
  refine fs_iload (j := 5) (by decide +kernel) rfl ?_
  refine fs_imul (by decide +kernel) ?_
  refine fs_iadd (by decide +kernel) ?_
  refine fs_goto (off := 4) (tgt := 128) (by decide +kernel) (by decide) ?_
  exact nx
theorem b65_127 {d : Nat} {x0 : Int32} {x1 : Int32} {x2 : Int32} {x3 : Int32} {x4 : Int32} {x5 : Int32} {x6 : Int32} {x7 : Int32} {x8 : Int32} {S : fm_S} {r : Option Value × am_W} (nx : am_Ev d 65 128 [some (.int x0), some (.int x1), some (.int x2), some (.int x3), some (.int x4), some (.int x5), some (.int x6), some (.int x7), some (.int x8)] [.int 0] (fm_mk S) r) : am_Ev d 65 127 [some (.int x0), some (.int x1), some (.int x2), some (.int x3), some (.int x4), some (.int x5), some (.int x6), some (.int x7), some (.int x8)] [] (fm_mk S) r := by
  refine fs_iconst (n := 0) (v := 0) (by decide +kernel) (by decide) ?_
  exact nx
theorem b65_128 {d : Nat} {x0 : Int32} {x1 : Int32} {x2 : Int32} {x3 : Int32} {x4 : Int32} {x5 : Int32} {x6 : Int32} {x7 : Int32} {x8 : Int32} {sx0 : Int32} {S : fm_S}  : am_Ev d 65 128 [some (.int x0), some (.int x1), some (.int x2), some (.int x3), some (.int x4), some (.int x5), some (.int x6), some (.int x7), some (.int x8)] [.int sx0] (fm_mk S) (some (.int sx0), fm_mk S) := by
  exact fe_retI (by decide +kernel) (by decide +kernel)
theorem b65_129 {d : Nat} {x0 : Int32} {x1 : Int32} {x2 : Int32} {x3 : Int32} {x4 : Int32} {x5 : Int32} {x6 : Int32} {x7 : Int32} {x8 : Int32} {S : fm_S}  : am_Ev d 65 129 [some (.int x0), some (.int x1), some (.int x2), some (.int x3), some (.int x4), some (.int x5), some (.int x6), some (.int x7), some (.int x8)] [] (fm_mk S) (some (.int 0), fm_mk S) := by
  refine fs_iconst (n := 0) (v := 0) (by decide +kernel) (by decide) ?_
  exact fe_retI (by decide +kernel) (by decide +kernel)
-- KitchenSiege$Days.smellAfter(III)V
theorem b66_0 {d : Nat} {a0 : Nat} {x1 : Int32} {x2 : Int32} {x3 : Int32} {S : fm_S} {r : Option Value × am_W} (kt : x3 ≤ 0 → am_Ev d 66 28 [some (.ref a0), some (.int x1), some (.int x2), some (.int x3)] [] (fm_mk S) r) (kf : ¬ x3 ≤ 0 → am_Ev d 66 4 [some (.ref a0), some (.int x1), some (.int x2), some (.int x3)] [] (fm_mk S) r) : am_Ev d 66 0 [some (.ref a0), some (.int x1), some (.int x2), some (.int x3)] [] (fm_mk S) r := by
  refine fs_iloadn (j := 3) (by decide +kernel) rfl ?_
  exact fs_ifle (off := 27) (tgt := 28) (by decide +kernel) (by decide) kt kf
theorem b66_4 {d : Nat} {a0 : Nat} {x1 : Int32} {x2 : Int32} {x3 : Int32} {v : Int32} {S1 : fm_S} {S : fm_S} {r : Option Value × am_W} (h_a0 : fm_tg a0 = 2) (hc : am_Sp d 63 [.ref a0, .int x1, .int x2] (fm_mk S) (some (.int v)) (fm_mk S1)) (nx : am_Ev (d + 1) 66 15 [some (.ref a0), some (.int x1), some (.int x2), some (.int x3)] [.int v, .int x1, .ref (a0 + 3)] (fm_mk S1) r) : am_Ev (d + 1) 66 4 [some (.ref a0), some (.int x1), some (.int x2), some (.int x3)] [] (fm_mk S) r := by
  have D_a0 := fm_days h_a0
  refine fs_aloadn (j := 0) (by decide +kernel) rfl ?_
  refine fe_getR (idx := 18) (t := 2) (f := 3) (fk := 2) (fin := 1) (wp := 134) (x := a0 + 3) (by decide +kernel) (by decide +kernel) h_a0 (by decide +kernel) (fm_objrf h_a0 (by decide) (by decide +kernel) (by decide +kernel)) ?_
  refine fs_iloadn (j := 1) (by decide +kernel) rfl ?_
  refine fs_aloadn (j := 0) (by decide +kernel) rfl ?_
  refine fs_iloadn (j := 1) (by decide +kernel) rfl ?_
  refine fs_iloadn (j := 2) (by decide +kernel) rfl ?_
  exact fe_callV (idx := 35) (n := 2) (wp := 652) (q := (637, 638)) (as := [.int x1, .int x2]) (rs := [.int x1, .ref (a0 + 3)]) (by decide +kernel) (by decide +kernel) h_a0 (by decide +kernel) rfl (Nat.le_of_ble_eq_true rfl) rfl hc nx
theorem b66_15 {d : Nat} {a0 : Nat} {x1 : Int32} {x2 : Int32} {x3 : Int32} {sa0 : Nat} {sx1 : Int32} {sx2 : Int32} {S : fm_S} {r : Option Value × am_W} (h_sa0 : fm_tg sa0 = 100) (hi1 : vp_in sx1 (fm_ln sa0)) (h_a0 : fm_tg a0 = 2) (hi3 : vp_in x1 8) (nx : am_Ev d 66 42 [some (.ref a0), some (.int x1), some (.int x2), some (.int x3)] [] (fm_mk (fm_wI (fm_wI S sa0 sx1.toNatClampNeg (sx2 + 1)) (a0 + 2) x1.toNatClampNeg x2)) r) : am_Ev d 66 15 [some (.ref a0), some (.int x1), some (.int x2), some (.int x3)] [.int sx2, .int sx1, .ref sa0] (fm_mk S) r := by
  have D_a0 := fm_days h_a0
  refine fs_iconst (n := 1) (v := 1) (by decide +kernel) (by decide) ?_
  refine fs_iadd (by decide +kernel) ?_
  refine fx_iast (n := sx1.toNatClampNeg) (len := fm_ln sa0) (by decide +kernel) h_sa0 rfl hi1 rfl ?_
  refine fs_aloadn (j := 0) (by decide +kernel) rfl ?_
  refine fe_getR (idx := 15) (t := 2) (f := 2) (fk := 2) (fin := 1) (wp := 130) (x := a0 + 2) (by decide +kernel) (by decide +kernel) h_a0 (by decide +kernel) (fm_objrf h_a0 (by decide) (by decide +kernel) (by decide +kernel)) ?_
  refine fs_iloadn (j := 1) (by decide +kernel) rfl ?_
  refine fs_iloadn (j := 2) (by decide +kernel) rfl ?_
  refine fx_iast (n := x1.toNatClampNeg) (len := 8) (by decide +kernel) D_a0.2.2.1 D_a0.2.2.2.1 hi3 rfl ?_
  refine fs_goto (off := 17) (tgt := 42) (by decide +kernel) (by decide) ?_
  exact nx
theorem b66_28 {d : Nat} {a0 : Nat} {x1 : Int32} {x2 : Int32} {x3 : Int32} {S : fm_S} {r : Option Value × am_W} (h_a0 : fm_tg a0 = 2) (hi1 : vp_in x1 8) (nx : am_Ev d 66 42 [some (.ref a0), some (.int x1), some (.int x2), some (.int x3)] [] (fm_mk (fm_wI (fm_wI S (a0 + 3) x1.toNatClampNeg 0) (a0 + 2) x1.toNatClampNeg (-1))) r) : am_Ev d 66 28 [some (.ref a0), some (.int x1), some (.int x2), some (.int x3)] [] (fm_mk S) r := by
  have D_a0 := fm_days h_a0
  refine fs_aloadn (j := 0) (by decide +kernel) rfl ?_
  refine fe_getR (idx := 18) (t := 2) (f := 3) (fk := 2) (fin := 1) (wp := 134) (x := a0 + 3) (by decide +kernel) (by decide +kernel) h_a0 (by decide +kernel) (fm_objrf h_a0 (by decide) (by decide +kernel) (by decide +kernel)) ?_
  refine fs_iloadn (j := 1) (by decide +kernel) rfl ?_
  refine fs_iconst (n := 0) (v := 0) (by decide +kernel) (by decide) ?_
  refine fx_iast (n := x1.toNatClampNeg) (len := 8) (by decide +kernel) D_a0.2.2.2.2.1 D_a0.2.2.2.2.2 hi1 rfl ?_
  refine fs_aloadn (j := 0) (by decide +kernel) rfl ?_
  refine fe_getR (idx := 15) (t := 2) (f := 2) (fk := 2) (fin := 1) (wp := 130) (x := a0 + 2) (by decide +kernel) (by decide +kernel) h_a0 (by decide +kernel) (fm_objrf h_a0 (by decide) (by decide +kernel) (by decide +kernel)) ?_
  refine fs_iloadn (j := 1) (by decide +kernel) rfl ?_
  refine fs_iconst (n := -1) (v := (-1)) (by decide +kernel) (by decide) ?_
  refine fx_iast (n := x1.toNatClampNeg) (len := 8) (by decide +kernel) D_a0.2.2.1 D_a0.2.2.2.1 hi1 rfl ?_
  exact nx
theorem b66_42 {d : Nat} {a0 : Nat} {x1 : Int32} {x2 : Int32} {x3 : Int32} {S : fm_S}  : am_Ev d 66 42 [some (.ref a0), some (.int x1), some (.int x2), some (.int x3)] [] (fm_mk S) (none, fm_mk S) := by
  exact fe_retV (by decide +kernel) (by decide +kernel)
-- java/lang/Integer.bitCount(I)I
theorem b92_0 {d : Nat} {x0 : Int32} {S : fm_S}  : am_Ev d 92 0 [some (.int x0)] [] (fm_mk S) (some (.int ((((((((x0 - (((x0.toUInt32 >>> (1.toUInt32 &&& Int32.toUInt32 31)).toInt32) &&& 1431655765)) &&& 858993459) + ((((x0 - (((x0.toUInt32 >>> (1.toUInt32 &&& Int32.toUInt32 31)).toInt32) &&& 1431655765)).toUInt32 >>> (2.toUInt32 &&& Int32.toUInt32 31)).toInt32) &&& 858993459)) + (((((x0 - (((x0.toUInt32 >>> (1.toUInt32 &&& Int32.toUInt32 31)).toInt32) &&& 1431655765)) &&& 858993459) + ((((x0 - (((x0.toUInt32 >>> (1.toUInt32 &&& Int32.toUInt32 31)).toInt32) &&& 1431655765)).toUInt32 >>> (2.toUInt32 &&& Int32.toUInt32 31)).toInt32) &&& 858993459)).toUInt32 >>> (4.toUInt32 &&& Int32.toUInt32 31)).toInt32)) &&& 252645135) + (((((((x0 - (((x0.toUInt32 >>> (1.toUInt32 &&& Int32.toUInt32 31)).toInt32) &&& 1431655765)) &&& 858993459) + ((((x0 - (((x0.toUInt32 >>> (1.toUInt32 &&& Int32.toUInt32 31)).toInt32) &&& 1431655765)).toUInt32 >>> (2.toUInt32 &&& Int32.toUInt32 31)).toInt32) &&& 858993459)) + (((((x0 - (((x0.toUInt32 >>> (1.toUInt32 &&& Int32.toUInt32 31)).toInt32) &&& 1431655765)) &&& 858993459) + ((((x0 - (((x0.toUInt32 >>> (1.toUInt32 &&& Int32.toUInt32 31)).toInt32) &&& 1431655765)).toUInt32 >>> (2.toUInt32 &&& Int32.toUInt32 31)).toInt32) &&& 858993459)).toUInt32 >>> (4.toUInt32 &&& Int32.toUInt32 31)).toInt32)) &&& 252645135).toUInt32 >>> (8.toUInt32 &&& Int32.toUInt32 31)).toInt32)) + ((((((((x0 - (((x0.toUInt32 >>> (1.toUInt32 &&& Int32.toUInt32 31)).toInt32) &&& 1431655765)) &&& 858993459) + ((((x0 - (((x0.toUInt32 >>> (1.toUInt32 &&& Int32.toUInt32 31)).toInt32) &&& 1431655765)).toUInt32 >>> (2.toUInt32 &&& Int32.toUInt32 31)).toInt32) &&& 858993459)) + (((((x0 - (((x0.toUInt32 >>> (1.toUInt32 &&& Int32.toUInt32 31)).toInt32) &&& 1431655765)) &&& 858993459) + ((((x0 - (((x0.toUInt32 >>> (1.toUInt32 &&& Int32.toUInt32 31)).toInt32) &&& 1431655765)).toUInt32 >>> (2.toUInt32 &&& Int32.toUInt32 31)).toInt32) &&& 858993459)).toUInt32 >>> (4.toUInt32 &&& Int32.toUInt32 31)).toInt32)) &&& 252645135) + (((((((x0 - (((x0.toUInt32 >>> (1.toUInt32 &&& Int32.toUInt32 31)).toInt32) &&& 1431655765)) &&& 858993459) + ((((x0 - (((x0.toUInt32 >>> (1.toUInt32 &&& Int32.toUInt32 31)).toInt32) &&& 1431655765)).toUInt32 >>> (2.toUInt32 &&& Int32.toUInt32 31)).toInt32) &&& 858993459)) + (((((x0 - (((x0.toUInt32 >>> (1.toUInt32 &&& Int32.toUInt32 31)).toInt32) &&& 1431655765)) &&& 858993459) + ((((x0 - (((x0.toUInt32 >>> (1.toUInt32 &&& Int32.toUInt32 31)).toInt32) &&& 1431655765)).toUInt32 >>> (2.toUInt32 &&& Int32.toUInt32 31)).toInt32) &&& 858993459)).toUInt32 >>> (4.toUInt32 &&& Int32.toUInt32 31)).toInt32)) &&& 252645135).toUInt32 >>> (8.toUInt32 &&& Int32.toUInt32 31)).toInt32)).toUInt32 >>> (16.toUInt32 &&& Int32.toUInt32 31)).toInt32)) &&& 63)), fm_mk S) := by
  refine fs_iloadn (j := 0) (by decide +kernel) rfl ?_
  refine fs_iloadn (j := 0) (by decide +kernel) rfl ?_
  refine fs_iconst (n := 1) (v := 1) (by decide +kernel) (by decide) ?_
  refine fs_iushr (by decide +kernel) ?_
  refine fs_ldcw (idx := 265) (q := 758) (v := 1431655765) (by decide +kernel) (by decide +kernel) ?_
  refine fs_iand (by decide +kernel) ?_
  refine fs_isub (by decide +kernel) ?_
  refine fs_istoren (j := 0) (L' := [some (.int (x0 - (((x0.toUInt32 >>> (1.toUInt32 &&& Int32.toUInt32 31)).toInt32) &&& 1431655765)))]) (by decide +kernel) (Nat.le_of_ble_eq_true rfl) rfl ?_
  refine fs_iloadn (j := 0) (by decide +kernel) rfl ?_
  refine fs_ldcw (idx := 266) (q := 759) (v := 858993459) (by decide +kernel) (by decide +kernel) ?_
  refine fs_iand (by decide +kernel) ?_
  refine fs_iloadn (j := 0) (by decide +kernel) rfl ?_
  refine fs_iconst (n := 2) (v := 2) (by decide +kernel) (by decide) ?_
  refine fs_iushr (by decide +kernel) ?_
  refine fs_ldcw (idx := 266) (q := 759) (v := 858993459) (by decide +kernel) (by decide +kernel) ?_
  refine fs_iand (by decide +kernel) ?_
  refine fs_iadd (by decide +kernel) ?_
  refine fs_istoren (j := 0) (L' := [some (.int (((x0 - (((x0.toUInt32 >>> (1.toUInt32 &&& Int32.toUInt32 31)).toInt32) &&& 1431655765)) &&& 858993459) + ((((x0 - (((x0.toUInt32 >>> (1.toUInt32 &&& Int32.toUInt32 31)).toInt32) &&& 1431655765)).toUInt32 >>> (2.toUInt32 &&& Int32.toUInt32 31)).toInt32) &&& 858993459)))]) (by decide +kernel) (Nat.le_of_ble_eq_true rfl) rfl ?_
  refine fs_iloadn (j := 0) (by decide +kernel) rfl ?_
  refine fs_iloadn (j := 0) (by decide +kernel) rfl ?_
  refine fs_iconst (n := 4) (v := 4) (by decide +kernel) (by decide) ?_
  refine fs_iushr (by decide +kernel) ?_
  refine fs_iadd (by decide +kernel) ?_
  refine fs_ldcw (idx := 267) (q := 760) (v := 252645135) (by decide +kernel) (by decide +kernel) ?_
  refine fs_iand (by decide +kernel) ?_
  refine fs_istoren (j := 0) (L' := [some (.int (((((x0 - (((x0.toUInt32 >>> (1.toUInt32 &&& Int32.toUInt32 31)).toInt32) &&& 1431655765)) &&& 858993459) + ((((x0 - (((x0.toUInt32 >>> (1.toUInt32 &&& Int32.toUInt32 31)).toInt32) &&& 1431655765)).toUInt32 >>> (2.toUInt32 &&& Int32.toUInt32 31)).toInt32) &&& 858993459)) + (((((x0 - (((x0.toUInt32 >>> (1.toUInt32 &&& Int32.toUInt32 31)).toInt32) &&& 1431655765)) &&& 858993459) + ((((x0 - (((x0.toUInt32 >>> (1.toUInt32 &&& Int32.toUInt32 31)).toInt32) &&& 1431655765)).toUInt32 >>> (2.toUInt32 &&& Int32.toUInt32 31)).toInt32) &&& 858993459)).toUInt32 >>> (4.toUInt32 &&& Int32.toUInt32 31)).toInt32)) &&& 252645135))]) (by decide +kernel) (Nat.le_of_ble_eq_true rfl) rfl ?_
  refine fs_iloadn (j := 0) (by decide +kernel) rfl ?_
  refine fs_iloadn (j := 0) (by decide +kernel) rfl ?_
  refine fs_bipush (n := 8) (v := 8) (by decide +kernel) (by decide) ?_
  refine fs_iushr (by decide +kernel) ?_
  refine fs_iadd (by decide +kernel) ?_
  refine fs_istoren (j := 0) (L' := [some (.int ((((((x0 - (((x0.toUInt32 >>> (1.toUInt32 &&& Int32.toUInt32 31)).toInt32) &&& 1431655765)) &&& 858993459) + ((((x0 - (((x0.toUInt32 >>> (1.toUInt32 &&& Int32.toUInt32 31)).toInt32) &&& 1431655765)).toUInt32 >>> (2.toUInt32 &&& Int32.toUInt32 31)).toInt32) &&& 858993459)) + (((((x0 - (((x0.toUInt32 >>> (1.toUInt32 &&& Int32.toUInt32 31)).toInt32) &&& 1431655765)) &&& 858993459) + ((((x0 - (((x0.toUInt32 >>> (1.toUInt32 &&& Int32.toUInt32 31)).toInt32) &&& 1431655765)).toUInt32 >>> (2.toUInt32 &&& Int32.toUInt32 31)).toInt32) &&& 858993459)).toUInt32 >>> (4.toUInt32 &&& Int32.toUInt32 31)).toInt32)) &&& 252645135) + (((((((x0 - (((x0.toUInt32 >>> (1.toUInt32 &&& Int32.toUInt32 31)).toInt32) &&& 1431655765)) &&& 858993459) + ((((x0 - (((x0.toUInt32 >>> (1.toUInt32 &&& Int32.toUInt32 31)).toInt32) &&& 1431655765)).toUInt32 >>> (2.toUInt32 &&& Int32.toUInt32 31)).toInt32) &&& 858993459)) + (((((x0 - (((x0.toUInt32 >>> (1.toUInt32 &&& Int32.toUInt32 31)).toInt32) &&& 1431655765)) &&& 858993459) + ((((x0 - (((x0.toUInt32 >>> (1.toUInt32 &&& Int32.toUInt32 31)).toInt32) &&& 1431655765)).toUInt32 >>> (2.toUInt32 &&& Int32.toUInt32 31)).toInt32) &&& 858993459)).toUInt32 >>> (4.toUInt32 &&& Int32.toUInt32 31)).toInt32)) &&& 252645135).toUInt32 >>> (8.toUInt32 &&& Int32.toUInt32 31)).toInt32)))]) (by decide +kernel) (Nat.le_of_ble_eq_true rfl) rfl ?_
  refine fs_iloadn (j := 0) (by decide +kernel) rfl ?_
  refine fs_iloadn (j := 0) (by decide +kernel) rfl ?_
  refine fs_bipush (n := 16) (v := 16) (by decide +kernel) (by decide) ?_
  refine fs_iushr (by decide +kernel) ?_
  refine fs_iadd (by decide +kernel) ?_
  refine fs_istoren (j := 0) (L' := [some (.int (((((((x0 - (((x0.toUInt32 >>> (1.toUInt32 &&& Int32.toUInt32 31)).toInt32) &&& 1431655765)) &&& 858993459) + ((((x0 - (((x0.toUInt32 >>> (1.toUInt32 &&& Int32.toUInt32 31)).toInt32) &&& 1431655765)).toUInt32 >>> (2.toUInt32 &&& Int32.toUInt32 31)).toInt32) &&& 858993459)) + (((((x0 - (((x0.toUInt32 >>> (1.toUInt32 &&& Int32.toUInt32 31)).toInt32) &&& 1431655765)) &&& 858993459) + ((((x0 - (((x0.toUInt32 >>> (1.toUInt32 &&& Int32.toUInt32 31)).toInt32) &&& 1431655765)).toUInt32 >>> (2.toUInt32 &&& Int32.toUInt32 31)).toInt32) &&& 858993459)).toUInt32 >>> (4.toUInt32 &&& Int32.toUInt32 31)).toInt32)) &&& 252645135) + (((((((x0 - (((x0.toUInt32 >>> (1.toUInt32 &&& Int32.toUInt32 31)).toInt32) &&& 1431655765)) &&& 858993459) + ((((x0 - (((x0.toUInt32 >>> (1.toUInt32 &&& Int32.toUInt32 31)).toInt32) &&& 1431655765)).toUInt32 >>> (2.toUInt32 &&& Int32.toUInt32 31)).toInt32) &&& 858993459)) + (((((x0 - (((x0.toUInt32 >>> (1.toUInt32 &&& Int32.toUInt32 31)).toInt32) &&& 1431655765)) &&& 858993459) + ((((x0 - (((x0.toUInt32 >>> (1.toUInt32 &&& Int32.toUInt32 31)).toInt32) &&& 1431655765)).toUInt32 >>> (2.toUInt32 &&& Int32.toUInt32 31)).toInt32) &&& 858993459)).toUInt32 >>> (4.toUInt32 &&& Int32.toUInt32 31)).toInt32)) &&& 252645135).toUInt32 >>> (8.toUInt32 &&& Int32.toUInt32 31)).toInt32)) + ((((((((x0 - (((x0.toUInt32 >>> (1.toUInt32 &&& Int32.toUInt32 31)).toInt32) &&& 1431655765)) &&& 858993459) + ((((x0 - (((x0.toUInt32 >>> (1.toUInt32 &&& Int32.toUInt32 31)).toInt32) &&& 1431655765)).toUInt32 >>> (2.toUInt32 &&& Int32.toUInt32 31)).toInt32) &&& 858993459)) + (((((x0 - (((x0.toUInt32 >>> (1.toUInt32 &&& Int32.toUInt32 31)).toInt32) &&& 1431655765)) &&& 858993459) + ((((x0 - (((x0.toUInt32 >>> (1.toUInt32 &&& Int32.toUInt32 31)).toInt32) &&& 1431655765)).toUInt32 >>> (2.toUInt32 &&& Int32.toUInt32 31)).toInt32) &&& 858993459)).toUInt32 >>> (4.toUInt32 &&& Int32.toUInt32 31)).toInt32)) &&& 252645135) + (((((((x0 - (((x0.toUInt32 >>> (1.toUInt32 &&& Int32.toUInt32 31)).toInt32) &&& 1431655765)) &&& 858993459) + ((((x0 - (((x0.toUInt32 >>> (1.toUInt32 &&& Int32.toUInt32 31)).toInt32) &&& 1431655765)).toUInt32 >>> (2.toUInt32 &&& Int32.toUInt32 31)).toInt32) &&& 858993459)) + (((((x0 - (((x0.toUInt32 >>> (1.toUInt32 &&& Int32.toUInt32 31)).toInt32) &&& 1431655765)) &&& 858993459) + ((((x0 - (((x0.toUInt32 >>> (1.toUInt32 &&& Int32.toUInt32 31)).toInt32) &&& 1431655765)).toUInt32 >>> (2.toUInt32 &&& Int32.toUInt32 31)).toInt32) &&& 858993459)).toUInt32 >>> (4.toUInt32 &&& Int32.toUInt32 31)).toInt32)) &&& 252645135).toUInt32 >>> (8.toUInt32 &&& Int32.toUInt32 31)).toInt32)).toUInt32 >>> (16.toUInt32 &&& Int32.toUInt32 31)).toInt32)))]) (by decide +kernel) (Nat.le_of_ble_eq_true rfl) rfl ?_
  refine fs_iloadn (j := 0) (by decide +kernel) rfl ?_
  refine fs_bipush (n := 63) (v := 63) (by decide +kernel) (by decide) ?_
  refine fs_iand (by decide +kernel) ?_
  exact fe_retI (by decide +kernel) (by decide +kernel)
-- KitchenSiege$Notes.add(IIIII)I
theorem b102_0 {d : Nat} {a0 : Nat} {x1 : Int32} {x2 : Int32} {x3 : Int32} {x4 : Int32} {x5 : Int32} {S : fm_S}  (h_a0 : fm_tg a0 = 4) (hi1 : vp_in (S.1 a0 0) 6) (hi2 : vp_in ((fm_wI S (a0 + 1) ((S.1 a0 0).toNatClampNeg) x1).1 a0 0) 6) (hi3 : vp_in ((fm_wI (fm_wI S (a0 + 1) ((S.1 a0 0).toNatClampNeg) x1) (a0 + 2) (((fm_wI S (a0 + 1) ((S.1 a0 0).toNatClampNeg) x1).1 a0 0).toNatClampNeg) x2).1 a0 0) 6) (hi4 : vp_in ((fm_wI (fm_wI (fm_wI S (a0 + 1) ((S.1 a0 0).toNatClampNeg) x1) (a0 + 2) (((fm_wI S (a0 + 1) ((S.1 a0 0).toNatClampNeg) x1).1 a0 0).toNatClampNeg) x2) (a0 + 3) (((fm_wI (fm_wI S (a0 + 1) ((S.1 a0 0).toNatClampNeg) x1) (a0 + 2) (((fm_wI S (a0 + 1) ((S.1 a0 0).toNatClampNeg) x1).1 a0 0).toNatClampNeg) x2).1 a0 0).toNatClampNeg) x3).1 a0 0) 6) (hi5 : vp_in ((fm_wI (fm_wI (fm_wI (fm_wI S (a0 + 1) ((S.1 a0 0).toNatClampNeg) x1) (a0 + 2) (((fm_wI S (a0 + 1) ((S.1 a0 0).toNatClampNeg) x1).1 a0 0).toNatClampNeg) x2) (a0 + 3) (((fm_wI (fm_wI S (a0 + 1) ((S.1 a0 0).toNatClampNeg) x1) (a0 + 2) (((fm_wI S (a0 + 1) ((S.1 a0 0).toNatClampNeg) x1).1 a0 0).toNatClampNeg) x2).1 a0 0).toNatClampNeg) x3) (a0 + 4) (((fm_wI (fm_wI (fm_wI S (a0 + 1) ((S.1 a0 0).toNatClampNeg) x1) (a0 + 2) (((fm_wI S (a0 + 1) ((S.1 a0 0).toNatClampNeg) x1).1 a0 0).toNatClampNeg) x2) (a0 + 3) (((fm_wI (fm_wI S (a0 + 1) ((S.1 a0 0).toNatClampNeg) x1) (a0 + 2) (((fm_wI S (a0 + 1) ((S.1 a0 0).toNatClampNeg) x1).1 a0 0).toNatClampNeg) x2).1 a0 0).toNatClampNeg) x3).1 a0 0).toNatClampNeg) x4).1 a0 0) 6) : am_Ev d 102 0 [some (.ref a0), some (.int x1), some (.int x2), some (.int x3), some (.int x4), some (.int x5)] [] (fm_mk S) (some (.int ((fm_wI (fm_wI (fm_wI (fm_wI (fm_wI (fm_wI S (a0 + 1) ((S.1 a0 0).toNatClampNeg) x1) (a0 + 2) (((fm_wI S (a0 + 1) ((S.1 a0 0).toNatClampNeg) x1).1 a0 0).toNatClampNeg) x2) (a0 + 3) (((fm_wI (fm_wI S (a0 + 1) ((S.1 a0 0).toNatClampNeg) x1) (a0 + 2) (((fm_wI S (a0 + 1) ((S.1 a0 0).toNatClampNeg) x1).1 a0 0).toNatClampNeg) x2).1 a0 0).toNatClampNeg) x3) (a0 + 4) (((fm_wI (fm_wI (fm_wI S (a0 + 1) ((S.1 a0 0).toNatClampNeg) x1) (a0 + 2) (((fm_wI S (a0 + 1) ((S.1 a0 0).toNatClampNeg) x1).1 a0 0).toNatClampNeg) x2) (a0 + 3) (((fm_wI (fm_wI S (a0 + 1) ((S.1 a0 0).toNatClampNeg) x1) (a0 + 2) (((fm_wI S (a0 + 1) ((S.1 a0 0).toNatClampNeg) x1).1 a0 0).toNatClampNeg) x2).1 a0 0).toNatClampNeg) x3).1 a0 0).toNatClampNeg) x4) (a0 + 5) (((fm_wI (fm_wI (fm_wI (fm_wI S (a0 + 1) ((S.1 a0 0).toNatClampNeg) x1) (a0 + 2) (((fm_wI S (a0 + 1) ((S.1 a0 0).toNatClampNeg) x1).1 a0 0).toNatClampNeg) x2) (a0 + 3) (((fm_wI (fm_wI S (a0 + 1) ((S.1 a0 0).toNatClampNeg) x1) (a0 + 2) (((fm_wI S (a0 + 1) ((S.1 a0 0).toNatClampNeg) x1).1 a0 0).toNatClampNeg) x2).1 a0 0).toNatClampNeg) x3) (a0 + 4) (((fm_wI (fm_wI (fm_wI S (a0 + 1) ((S.1 a0 0).toNatClampNeg) x1) (a0 + 2) (((fm_wI S (a0 + 1) ((S.1 a0 0).toNatClampNeg) x1).1 a0 0).toNatClampNeg) x2) (a0 + 3) (((fm_wI (fm_wI S (a0 + 1) ((S.1 a0 0).toNatClampNeg) x1) (a0 + 2) (((fm_wI S (a0 + 1) ((S.1 a0 0).toNatClampNeg) x1).1 a0 0).toNatClampNeg) x2).1 a0 0).toNatClampNeg) x3).1 a0 0).toNatClampNeg) x4).1 a0 0).toNatClampNeg) x5) a0 0 (((fm_wI (fm_wI (fm_wI (fm_wI (fm_wI S (a0 + 1) ((S.1 a0 0).toNatClampNeg) x1) (a0 + 2) (((fm_wI S (a0 + 1) ((S.1 a0 0).toNatClampNeg) x1).1 a0 0).toNatClampNeg) x2) (a0 + 3) (((fm_wI (fm_wI S (a0 + 1) ((S.1 a0 0).toNatClampNeg) x1) (a0 + 2) (((fm_wI S (a0 + 1) ((S.1 a0 0).toNatClampNeg) x1).1 a0 0).toNatClampNeg) x2).1 a0 0).toNatClampNeg) x3) (a0 + 4) (((fm_wI (fm_wI (fm_wI S (a0 + 1) ((S.1 a0 0).toNatClampNeg) x1) (a0 + 2) (((fm_wI S (a0 + 1) ((S.1 a0 0).toNatClampNeg) x1).1 a0 0).toNatClampNeg) x2) (a0 + 3) (((fm_wI (fm_wI S (a0 + 1) ((S.1 a0 0).toNatClampNeg) x1) (a0 + 2) (((fm_wI S (a0 + 1) ((S.1 a0 0).toNatClampNeg) x1).1 a0 0).toNatClampNeg) x2).1 a0 0).toNatClampNeg) x3).1 a0 0).toNatClampNeg) x4) (a0 + 5) (((fm_wI (fm_wI (fm_wI (fm_wI S (a0 + 1) ((S.1 a0 0).toNatClampNeg) x1) (a0 + 2) (((fm_wI S (a0 + 1) ((S.1 a0 0).toNatClampNeg) x1).1 a0 0).toNatClampNeg) x2) (a0 + 3) (((fm_wI (fm_wI S (a0 + 1) ((S.1 a0 0).toNatClampNeg) x1) (a0 + 2) (((fm_wI S (a0 + 1) ((S.1 a0 0).toNatClampNeg) x1).1 a0 0).toNatClampNeg) x2).1 a0 0).toNatClampNeg) x3) (a0 + 4) (((fm_wI (fm_wI (fm_wI S (a0 + 1) ((S.1 a0 0).toNatClampNeg) x1) (a0 + 2) (((fm_wI S (a0 + 1) ((S.1 a0 0).toNatClampNeg) x1).1 a0 0).toNatClampNeg) x2) (a0 + 3) (((fm_wI (fm_wI S (a0 + 1) ((S.1 a0 0).toNatClampNeg) x1) (a0 + 2) (((fm_wI S (a0 + 1) ((S.1 a0 0).toNatClampNeg) x1).1 a0 0).toNatClampNeg) x2).1 a0 0).toNatClampNeg) x3).1 a0 0).toNatClampNeg) x4).1 a0 0).toNatClampNeg) x5).1 a0 0) + 1)).1 a0 0)), fm_mk (fm_wI (fm_wI (fm_wI (fm_wI (fm_wI (fm_wI S (a0 + 1) ((S.1 a0 0).toNatClampNeg) x1) (a0 + 2) (((fm_wI S (a0 + 1) ((S.1 a0 0).toNatClampNeg) x1).1 a0 0).toNatClampNeg) x2) (a0 + 3) (((fm_wI (fm_wI S (a0 + 1) ((S.1 a0 0).toNatClampNeg) x1) (a0 + 2) (((fm_wI S (a0 + 1) ((S.1 a0 0).toNatClampNeg) x1).1 a0 0).toNatClampNeg) x2).1 a0 0).toNatClampNeg) x3) (a0 + 4) (((fm_wI (fm_wI (fm_wI S (a0 + 1) ((S.1 a0 0).toNatClampNeg) x1) (a0 + 2) (((fm_wI S (a0 + 1) ((S.1 a0 0).toNatClampNeg) x1).1 a0 0).toNatClampNeg) x2) (a0 + 3) (((fm_wI (fm_wI S (a0 + 1) ((S.1 a0 0).toNatClampNeg) x1) (a0 + 2) (((fm_wI S (a0 + 1) ((S.1 a0 0).toNatClampNeg) x1).1 a0 0).toNatClampNeg) x2).1 a0 0).toNatClampNeg) x3).1 a0 0).toNatClampNeg) x4) (a0 + 5) (((fm_wI (fm_wI (fm_wI (fm_wI S (a0 + 1) ((S.1 a0 0).toNatClampNeg) x1) (a0 + 2) (((fm_wI S (a0 + 1) ((S.1 a0 0).toNatClampNeg) x1).1 a0 0).toNatClampNeg) x2) (a0 + 3) (((fm_wI (fm_wI S (a0 + 1) ((S.1 a0 0).toNatClampNeg) x1) (a0 + 2) (((fm_wI S (a0 + 1) ((S.1 a0 0).toNatClampNeg) x1).1 a0 0).toNatClampNeg) x2).1 a0 0).toNatClampNeg) x3) (a0 + 4) (((fm_wI (fm_wI (fm_wI S (a0 + 1) ((S.1 a0 0).toNatClampNeg) x1) (a0 + 2) (((fm_wI S (a0 + 1) ((S.1 a0 0).toNatClampNeg) x1).1 a0 0).toNatClampNeg) x2) (a0 + 3) (((fm_wI (fm_wI S (a0 + 1) ((S.1 a0 0).toNatClampNeg) x1) (a0 + 2) (((fm_wI S (a0 + 1) ((S.1 a0 0).toNatClampNeg) x1).1 a0 0).toNatClampNeg) x2).1 a0 0).toNatClampNeg) x3).1 a0 0).toNatClampNeg) x4).1 a0 0).toNatClampNeg) x5) a0 0 (((fm_wI (fm_wI (fm_wI (fm_wI (fm_wI S (a0 + 1) ((S.1 a0 0).toNatClampNeg) x1) (a0 + 2) (((fm_wI S (a0 + 1) ((S.1 a0 0).toNatClampNeg) x1).1 a0 0).toNatClampNeg) x2) (a0 + 3) (((fm_wI (fm_wI S (a0 + 1) ((S.1 a0 0).toNatClampNeg) x1) (a0 + 2) (((fm_wI S (a0 + 1) ((S.1 a0 0).toNatClampNeg) x1).1 a0 0).toNatClampNeg) x2).1 a0 0).toNatClampNeg) x3) (a0 + 4) (((fm_wI (fm_wI (fm_wI S (a0 + 1) ((S.1 a0 0).toNatClampNeg) x1) (a0 + 2) (((fm_wI S (a0 + 1) ((S.1 a0 0).toNatClampNeg) x1).1 a0 0).toNatClampNeg) x2) (a0 + 3) (((fm_wI (fm_wI S (a0 + 1) ((S.1 a0 0).toNatClampNeg) x1) (a0 + 2) (((fm_wI S (a0 + 1) ((S.1 a0 0).toNatClampNeg) x1).1 a0 0).toNatClampNeg) x2).1 a0 0).toNatClampNeg) x3).1 a0 0).toNatClampNeg) x4) (a0 + 5) (((fm_wI (fm_wI (fm_wI (fm_wI S (a0 + 1) ((S.1 a0 0).toNatClampNeg) x1) (a0 + 2) (((fm_wI S (a0 + 1) ((S.1 a0 0).toNatClampNeg) x1).1 a0 0).toNatClampNeg) x2) (a0 + 3) (((fm_wI (fm_wI S (a0 + 1) ((S.1 a0 0).toNatClampNeg) x1) (a0 + 2) (((fm_wI S (a0 + 1) ((S.1 a0 0).toNatClampNeg) x1).1 a0 0).toNatClampNeg) x2).1 a0 0).toNatClampNeg) x3) (a0 + 4) (((fm_wI (fm_wI (fm_wI S (a0 + 1) ((S.1 a0 0).toNatClampNeg) x1) (a0 + 2) (((fm_wI S (a0 + 1) ((S.1 a0 0).toNatClampNeg) x1).1 a0 0).toNatClampNeg) x2) (a0 + 3) (((fm_wI (fm_wI S (a0 + 1) ((S.1 a0 0).toNatClampNeg) x1) (a0 + 2) (((fm_wI S (a0 + 1) ((S.1 a0 0).toNatClampNeg) x1).1 a0 0).toNatClampNeg) x2).1 a0 0).toNatClampNeg) x3).1 a0 0).toNatClampNeg) x4).1 a0 0).toNatClampNeg) x5).1 a0 0) + 1))) := by
  have N_a0 := fm_notes h_a0
  refine fs_aloadn (j := 0) (by decide +kernel) rfl ?_
  refine fe_getR (idx := 9) (t := 4) (f := 1) (fk := 2) (fin := 1) (wp := 98) (x := a0 + 1) (by decide +kernel) (by decide +kernel) h_a0 (by decide +kernel) (fm_objrf h_a0 (by decide) (by decide +kernel) (by decide +kernel)) ?_
  refine fs_aloadn (j := 0) (by decide +kernel) rfl ?_
  refine fe_getI (idx := 27) (t := 4) (f := 0) (fk := 0) (fin := 0) (wp := 95) (by decide +kernel) (by decide +kernel) h_a0 (by decide +kernel) ?_
  refine fs_iloadn (j := 1) (by decide +kernel) rfl ?_
  refine fx_iast (n := (S.1 a0 0).toNatClampNeg) (len := 6) (by decide +kernel) N_a0.1 N_a0.2.1 hi1 rfl ?_
  refine fs_aloadn (j := 0) (by decide +kernel) rfl ?_
  refine fe_getR (idx := 15) (t := 4) (f := 2) (fk := 2) (fin := 1) (wp := 99) (x := a0 + 2) (by decide +kernel) (by decide +kernel) h_a0 (by decide +kernel) (fm_objrf h_a0 (by decide) (by decide +kernel) (by decide +kernel)) ?_
  refine fs_aloadn (j := 0) (by decide +kernel) rfl ?_
  refine fe_getI (idx := 27) (t := 4) (f := 0) (fk := 0) (fin := 0) (wp := 95) (by decide +kernel) (by decide +kernel) h_a0 (by decide +kernel) ?_
  refine fs_iloadn (j := 2) (by decide +kernel) rfl ?_
  refine fx_iast (n := ((fm_wI S (a0 + 1) ((S.1 a0 0).toNatClampNeg) x1).1 a0 0).toNatClampNeg) (len := 6) (by decide +kernel) N_a0.2.2.1 N_a0.2.2.2.1 hi2 rfl ?_
  refine fs_aloadn (j := 0) (by decide +kernel) rfl ?_
  refine fe_getR (idx := 18) (t := 4) (f := 3) (fk := 2) (fin := 1) (wp := 100) (x := a0 + 3) (by decide +kernel) (by decide +kernel) h_a0 (by decide +kernel) (fm_objrf h_a0 (by decide) (by decide +kernel) (by decide +kernel)) ?_
  refine fs_aloadn (j := 0) (by decide +kernel) rfl ?_
  refine fe_getI (idx := 27) (t := 4) (f := 0) (fk := 0) (fin := 0) (wp := 95) (by decide +kernel) (by decide +kernel) h_a0 (by decide +kernel) ?_
  refine fs_iloadn (j := 3) (by decide +kernel) rfl ?_
  refine fx_iast (n := ((fm_wI (fm_wI S (a0 + 1) ((S.1 a0 0).toNatClampNeg) x1) (a0 + 2) (((fm_wI S (a0 + 1) ((S.1 a0 0).toNatClampNeg) x1).1 a0 0).toNatClampNeg) x2).1 a0 0).toNatClampNeg) (len := 6) (by decide +kernel) N_a0.2.2.2.2.1 N_a0.2.2.2.2.2.1 hi3 rfl ?_
  refine fs_aloadn (j := 0) (by decide +kernel) rfl ?_
  refine fe_getR (idx := 21) (t := 4) (f := 4) (fk := 2) (fin := 1) (wp := 101) (x := a0 + 4) (by decide +kernel) (by decide +kernel) h_a0 (by decide +kernel) (fm_objrf h_a0 (by decide) (by decide +kernel) (by decide +kernel)) ?_
  refine fs_aloadn (j := 0) (by decide +kernel) rfl ?_
  refine fe_getI (idx := 27) (t := 4) (f := 0) (fk := 0) (fin := 0) (wp := 95) (by decide +kernel) (by decide +kernel) h_a0 (by decide +kernel) ?_
  refine fs_iload (j := 4) (by decide +kernel) rfl ?_
  refine fx_iast (n := ((fm_wI (fm_wI (fm_wI S (a0 + 1) ((S.1 a0 0).toNatClampNeg) x1) (a0 + 2) (((fm_wI S (a0 + 1) ((S.1 a0 0).toNatClampNeg) x1).1 a0 0).toNatClampNeg) x2) (a0 + 3) (((fm_wI (fm_wI S (a0 + 1) ((S.1 a0 0).toNatClampNeg) x1) (a0 + 2) (((fm_wI S (a0 + 1) ((S.1 a0 0).toNatClampNeg) x1).1 a0 0).toNatClampNeg) x2).1 a0 0).toNatClampNeg) x3).1 a0 0).toNatClampNeg) (len := 6) (by decide +kernel) N_a0.2.2.2.2.2.2.1 N_a0.2.2.2.2.2.2.2.1 hi4 rfl ?_
  refine fs_aloadn (j := 0) (by decide +kernel) rfl ?_
  refine fe_getR (idx := 24) (t := 4) (f := 5) (fk := 2) (fin := 1) (wp := 102) (x := a0 + 5) (by decide +kernel) (by decide +kernel) h_a0 (by decide +kernel) (fm_objrf h_a0 (by decide) (by decide +kernel) (by decide +kernel)) ?_
  refine fs_aloadn (j := 0) (by decide +kernel) rfl ?_
  refine fe_getI (idx := 27) (t := 4) (f := 0) (fk := 0) (fin := 0) (wp := 95) (by decide +kernel) (by decide +kernel) h_a0 (by decide +kernel) ?_
  refine fs_iload (j := 5) (by decide +kernel) rfl ?_
  refine fx_iast (n := ((fm_wI (fm_wI (fm_wI (fm_wI S (a0 + 1) ((S.1 a0 0).toNatClampNeg) x1) (a0 + 2) (((fm_wI S (a0 + 1) ((S.1 a0 0).toNatClampNeg) x1).1 a0 0).toNatClampNeg) x2) (a0 + 3) (((fm_wI (fm_wI S (a0 + 1) ((S.1 a0 0).toNatClampNeg) x1) (a0 + 2) (((fm_wI S (a0 + 1) ((S.1 a0 0).toNatClampNeg) x1).1 a0 0).toNatClampNeg) x2).1 a0 0).toNatClampNeg) x3) (a0 + 4) (((fm_wI (fm_wI (fm_wI S (a0 + 1) ((S.1 a0 0).toNatClampNeg) x1) (a0 + 2) (((fm_wI S (a0 + 1) ((S.1 a0 0).toNatClampNeg) x1).1 a0 0).toNatClampNeg) x2) (a0 + 3) (((fm_wI (fm_wI S (a0 + 1) ((S.1 a0 0).toNatClampNeg) x1) (a0 + 2) (((fm_wI S (a0 + 1) ((S.1 a0 0).toNatClampNeg) x1).1 a0 0).toNatClampNeg) x2).1 a0 0).toNatClampNeg) x3).1 a0 0).toNatClampNeg) x4).1 a0 0).toNatClampNeg) (len := 6) (by decide +kernel) N_a0.2.2.2.2.2.2.2.2.1 N_a0.2.2.2.2.2.2.2.2.2 hi5 rfl ?_
  refine fs_aloadn (j := 0) (by decide +kernel) rfl ?_
  refine fs_dup (by decide +kernel) rfl ?_
  refine fe_getI (idx := 27) (t := 4) (f := 0) (fk := 0) (fin := 0) (wp := 95) (by decide +kernel) (by decide +kernel) h_a0 (by decide +kernel) ?_
  refine fs_iconst (n := 1) (v := 1) (by decide +kernel) (by decide) ?_
  refine fs_iadd (by decide +kernel) ?_
  refine fe_putI (idx := 27) (t := 4) (f := 0) (wp := 95) (by decide +kernel) (by decide +kernel) h_a0 (by decide +kernel) ?_
  refine fs_aloadn (j := 0) (by decide +kernel) rfl ?_
  refine fe_getI (idx := 27) (t := 4) (f := 0) (fk := 0) (fin := 0) (wp := 95) (by decide +kernel) (by decide +kernel) h_a0 (by decide +kernel) ?_
  exact fe_retI (by decide +kernel) (by decide +kernel)
-- KitchenSiege$Notes.cravings(II)I
theorem b105_0 {d : Nat} {a0 : Nat} {x1 : Int32} {x2 : Int32} {o3 : Option Value} {o4 : Option Value} {S : fm_S} {r : Option Value × am_W} (nx : am_Ev d 105 5 [some (.ref a0), some (.int x1), some (.int x2), some (.int 0), some (.int 0)] [] (fm_mk S) r) : am_Ev d 105 0 [some (.ref a0), some (.int x1), some (.int x2), o3, o4] [] (fm_mk S) r := by
  refine fs_iconst (n := 0) (v := 0) (by decide +kernel) (by decide) ?_
  refine fs_istoren (j := 3) (L' := [some (.ref a0), some (.int x1), some (.int x2), some (.int 0), o4]) (by decide +kernel) (Nat.le_of_ble_eq_true rfl) rfl ?_
  refine fs_iconst (n := 0) (v := 0) (by decide +kernel) (by decide) ?_
  refine fs_istore (j := 4) (L' := [some (.ref a0), some (.int x1), some (.int x2), some (.int 0), some (.int 0)]) (by decide +kernel) (Nat.le_of_ble_eq_true rfl) rfl ?_
  exact nx
theorem b105_5 {d : Nat} {a0 : Nat} {x1 : Int32} {x2 : Int32} {x3 : Int32} {x4 : Int32} {S : fm_S} {r : Option Value × am_W} (kt : 6 ≤ x4 → am_Ev d 105 36 [some (.ref a0), some (.int x1), some (.int x2), some (.int x3), some (.int x4)] [] (fm_mk S) r) (kf : ¬ 6 ≤ x4 → am_Ev d 105 12 [some (.ref a0), some (.int x1), some (.int x2), some (.int x3), some (.int x4)] [] (fm_mk S) r) : am_Ev d 105 5 [some (.ref a0), some (.int x1), some (.int x2), some (.int x3), some (.int x4)] [] (fm_mk S) r := by
  refine fs_iload (j := 4) (by decide +kernel) rfl ?_
  refine fs_bipush (n := 6) (v := 6) (by decide +kernel) (by decide) ?_
  exact fs_icge (off := 27) (tgt := 36) (by decide +kernel) (by decide) kt kf
theorem b105_12 {d : Nat} {a0 : Nat} {x1 : Int32} {x2 : Int32} {x3 : Int32} {x4 : Int32} {v : Int32} {S1 : fm_S} {S : fm_S} {r : Option Value × am_W} (h_a0 : fm_tg a0 = 4) (hc : am_Sp d 106 [.ref a0, .int x1, .int x2, .int x4] (fm_mk S) (some (.int v)) (fm_mk S1)) (nx : am_Ev (d + 1) 105 20 [some (.ref a0), some (.int x1), some (.int x2), some (.int x3), some (.int x4)] [.int v] (fm_mk S1) r) : am_Ev (d + 1) 105 12 [some (.ref a0), some (.int x1), some (.int x2), some (.int x3), some (.int x4)] [] (fm_mk S) r := by
  have N_a0 := fm_notes h_a0
  refine fs_aloadn (j := 0) (by decide +kernel) rfl ?_
  refine fs_iloadn (j := 1) (by decide +kernel) rfl ?_
  refine fs_iloadn (j := 2) (by decide +kernel) rfl ?_
  refine fs_iload (j := 4) (by decide +kernel) rfl ?_
  exact fe_callV (idx := 37) (n := 3) (wp := 813) (q := (815, 30)) (as := [.int x1, .int x2, .int x4]) (rs := []) (by decide +kernel) (by decide +kernel) h_a0 (by decide +kernel) rfl (Nat.le_of_ble_eq_true rfl) rfl hc nx
theorem b105_20 {d : Nat} {a0 : Nat} {x1 : Int32} {x2 : Int32} {x3 : Int32} {x4 : Int32} {sx0 : Int32} {S : fm_S} {r : Option Value × am_W} (kt : sx0 = 0 → am_Ev d 105 30 [some (.ref a0), some (.int x1), some (.int x2), some (.int x3), some (.int x4)] [] (fm_mk S) r) (kf : ¬ sx0 = 0 → am_Ev d 105 23 [some (.ref a0), some (.int x1), some (.int x2), some (.int x3), some (.int x4)] [] (fm_mk S) r) : am_Ev d 105 20 [some (.ref a0), some (.int x1), some (.int x2), some (.int x3), some (.int x4)] [.int sx0] (fm_mk S) r := by
  exact fs_ifeq (off := 10) (tgt := 30) (by decide +kernel) (by decide) kt kf
theorem b105_23 {d : Nat} {a0 : Nat} {x1 : Int32} {x2 : Int32} {x3 : Int32} {x4 : Int32} {S : fm_S} {r : Option Value × am_W} (nx : am_Ev d 105 30 [some (.ref a0), some (.int x1), some (.int x2), some (.int (x3 ||| (1 <<< (x4 &&& 31)))), some (.int x4)] [] (fm_mk S) r) : am_Ev d 105 23 [some (.ref a0), some (.int x1), some (.int x2), some (.int x3), some (.int x4)] [] (fm_mk S) r := by
  refine fs_iloadn (j := 3) (by decide +kernel) rfl ?_
  refine fs_iconst (n := 1) (v := 1) (by decide +kernel) (by decide) ?_
  refine fs_iload (j := 4) (by decide +kernel) rfl ?_
  refine fs_ishl (by decide +kernel) ?_
  refine fs_ior (by decide +kernel) ?_
  refine fs_istoren (j := 3) (L' := [some (.ref a0), some (.int x1), some (.int x2), some (.int (x3 ||| (1 <<< (x4 &&& 31)))), some (.int x4)]) (by decide +kernel) (Nat.le_of_ble_eq_true rfl) rfl ?_
  exact nx
theorem b105_30 {d : Nat} {a0 : Nat} {x1 : Int32} {x2 : Int32} {x3 : Int32} {x4 : Int32} {S : fm_S} {r : Option Value × am_W} (nx : am_Ev d 105 5 [some (.ref a0), some (.int x1), some (.int x2), some (.int x3), some (.int (x4 + 1))] [] (fm_mk S) r) : am_Ev d 105 30 [some (.ref a0), some (.int x1), some (.int x2), some (.int x3), some (.int x4)] [] (fm_mk S) r := by
  refine fs_iinc (j := 4) (n := 1) (v := 1) (L' := [some (.ref a0), some (.int x1), some (.int x2), some (.int x3), some (.int (x4 + 1))]) (by decide +kernel) rfl (Nat.le_of_ble_eq_true rfl) (by decide) rfl ?_
  refine fs_goto (off := -28) (tgt := 5) (by decide +kernel) (by decide) ?_
  exact nx
theorem b105_36 {d : Nat} {a0 : Nat} {x1 : Int32} {x2 : Int32} {x3 : Int32} {x4 : Int32} {S : fm_S}  : am_Ev d 105 36 [some (.ref a0), some (.int x1), some (.int x2), some (.int x3), some (.int x4)] [] (fm_mk S) (some (.int x3), fm_mk S) := by
  refine fs_iloadn (j := 3) (by decide +kernel) rfl ?_
  exact fe_retI (by decide +kernel) (by decide +kernel)
-- KitchenSiege$Notes.allSo(III)Z
theorem b106_0 {d : Nat} {a0 : Nat} {x1 : Int32} {x2 : Int32} {x3 : Int32} {o4 : Option Value} {o5 : Option Value} {S : fm_S} {r : Option Value × am_W} (nx : am_Ev d 106 3 [some (.ref a0), some (.int x1), some (.int x2), some (.int x3), some (.int 0), o5] [] (fm_mk S) r) : am_Ev d 106 0 [some (.ref a0), some (.int x1), some (.int x2), some (.int x3), o4, o5] [] (fm_mk S) r := by
  refine fs_iconst (n := 0) (v := 0) (by decide +kernel) (by decide) ?_
  refine fs_istore (j := 4) (L' := [some (.ref a0), some (.int x1), some (.int x2), some (.int x3), some (.int 0), o5]) (by decide +kernel) (Nat.le_of_ble_eq_true rfl) rfl ?_
  exact nx
theorem b106_3 {d : Nat} {a0 : Nat} {x1 : Int32} {x2 : Int32} {x3 : Int32} {x4 : Int32} {o5 : Option Value} {S : fm_S} {r : Option Value × am_W} (h_a0 : fm_tg a0 = 4) (kt : (S.1 a0 0) ≤ x4 → am_Ev d 106 80 [some (.ref a0), some (.int x1), some (.int x2), some (.int x3), some (.int x4), o5] [] (fm_mk S) r) (kf : ¬ (S.1 a0 0) ≤ x4 → am_Ev d 106 12 [some (.ref a0), some (.int x1), some (.int x2), some (.int x3), some (.int x4), o5] [] (fm_mk S) r) : am_Ev d 106 3 [some (.ref a0), some (.int x1), some (.int x2), some (.int x3), some (.int x4), o5] [] (fm_mk S) r := by
  have N_a0 := fm_notes h_a0
  refine fs_iload (j := 4) (by decide +kernel) rfl ?_
  refine fs_aloadn (j := 0) (by decide +kernel) rfl ?_
  refine fe_getI (idx := 27) (t := 4) (f := 0) (fk := 0) (fin := 0) (wp := 95) (by decide +kernel) (by decide +kernel) h_a0 (by decide +kernel) ?_
  exact fs_icge (off := 71) (tgt := 80) (by decide +kernel) (by decide) kt kf
theorem b106_12 {d : Nat} {a0 : Nat} {x1 : Int32} {x2 : Int32} {x3 : Int32} {x4 : Int32} {o5 : Option Value} {S : fm_S} {r : Option Value × am_W} (h_a0 : fm_tg a0 = 4) (hi1 : vp_in x4 6) (kt : ¬ (S.1 (a0 + 1) x4.toNatClampNeg) = x1 → am_Ev d 106 74 [some (.ref a0), some (.int x1), some (.int x2), some (.int x3), some (.int x4), o5] [] (fm_mk S) r) (kf : (S.1 (a0 + 1) x4.toNatClampNeg) = x1 → am_Ev d 106 23 [some (.ref a0), some (.int x1), some (.int x2), some (.int x3), some (.int x4), o5] [] (fm_mk S) r) : am_Ev d 106 12 [some (.ref a0), some (.int x1), some (.int x2), some (.int x3), some (.int x4), o5] [] (fm_mk S) r := by
  have N_a0 := fm_notes h_a0
  refine fs_aloadn (j := 0) (by decide +kernel) rfl ?_
  refine fe_getR (idx := 9) (t := 4) (f := 1) (fk := 2) (fin := 1) (wp := 98) (x := a0 + 1) (by decide +kernel) (by decide +kernel) h_a0 (by decide +kernel) (fm_objrf h_a0 (by decide) (by decide +kernel) (by decide +kernel)) ?_
  refine fs_iload (j := 4) (by decide +kernel) rfl ?_
  refine fx_iald (n := x4.toNatClampNeg) (len := 6) (by decide +kernel) N_a0.1 N_a0.2.1 hi1 rfl ?_
  refine fs_iloadn (j := 1) (by decide +kernel) rfl ?_
  exact fs_icne (off := 54) (tgt := 74) (by decide +kernel) (by decide) kt kf
theorem b106_23 {d : Nat} {a0 : Nat} {x1 : Int32} {x2 : Int32} {x3 : Int32} {x4 : Int32} {o5 : Option Value} {v : Int32} {S1 : fm_S} {S : fm_S} {r : Option Value × am_W} (h_a0 : fm_tg a0 = 4) (hi1 : vp_in x4 6) (hc : am_Sp d 107 [.int x2, .int x3, .int (S.1 (a0 + 2) x4.toNatClampNeg), .int (S.1 (a0 + 3) x4.toNatClampNeg), .int (S.1 (a0 + 4) x4.toNatClampNeg)] (fm_mk S) (some (.int v)) (fm_mk S1)) (nx : am_Ev (d + 1) 106 49 [some (.ref a0), some (.int x1), some (.int x2), some (.int x3), some (.int x4), o5] [.int v] (fm_mk S1) r) : am_Ev (d + 1) 106 23 [some (.ref a0), some (.int x1), some (.int x2), some (.int x3), some (.int x4), o5] [] (fm_mk S) r := by
  have N_a0 := fm_notes h_a0
  refine fs_iloadn (j := 2) (by decide +kernel) rfl ?_
  refine fs_iloadn (j := 3) (by decide +kernel) rfl ?_
  refine fs_aloadn (j := 0) (by decide +kernel) rfl ?_
  refine fe_getR (idx := 15) (t := 4) (f := 2) (fk := 2) (fin := 1) (wp := 99) (x := a0 + 2) (by decide +kernel) (by decide +kernel) h_a0 (by decide +kernel) (fm_objrf h_a0 (by decide) (by decide +kernel) (by decide +kernel)) ?_
  refine fs_iload (j := 4) (by decide +kernel) rfl ?_
  refine fx_iald (n := x4.toNatClampNeg) (len := 6) (by decide +kernel) N_a0.2.2.1 N_a0.2.2.2.1 hi1 rfl ?_
  refine fs_aloadn (j := 0) (by decide +kernel) rfl ?_
  refine fe_getR (idx := 18) (t := 4) (f := 3) (fk := 2) (fin := 1) (wp := 100) (x := a0 + 3) (by decide +kernel) (by decide +kernel) h_a0 (by decide +kernel) (fm_objrf h_a0 (by decide) (by decide +kernel) (by decide +kernel)) ?_
  refine fs_iload (j := 4) (by decide +kernel) rfl ?_
  refine fx_iald (n := x4.toNatClampNeg) (len := 6) (by decide +kernel) N_a0.2.2.2.2.1 N_a0.2.2.2.2.2.1 hi1 rfl ?_
  refine fs_aloadn (j := 0) (by decide +kernel) rfl ?_
  refine fe_getR (idx := 21) (t := 4) (f := 4) (fk := 2) (fin := 1) (wp := 101) (x := a0 + 4) (by decide +kernel) (by decide +kernel) h_a0 (by decide +kernel) (fm_objrf h_a0 (by decide) (by decide +kernel) (by decide +kernel)) ?_
  refine fs_iload (j := 4) (by decide +kernel) rfl ?_
  refine fx_iald (n := x4.toNatClampNeg) (len := 6) (by decide +kernel) N_a0.2.2.2.2.2.2.1 N_a0.2.2.2.2.2.2.2.1 hi1 rfl ?_
  exact fe_callS (idx := 41) (kd := 0) (n := 5) (wp := 817) (q := (818, 0)) (as := [.int x2, .int x3, .int (S.1 (a0 + 2) x4.toNatClampNeg), .int (S.1 (a0 + 3) x4.toNatClampNeg), .int (S.1 (a0 + 4) x4.toNatClampNeg)]) (rs := []) (by decide +kernel) (by decide +kernel) (by decide +kernel) (by decide) rfl (Nat.le_of_ble_eq_true rfl) rfl hc nx
theorem b106_49 {d : Nat} {a0 : Nat} {x1 : Int32} {x2 : Int32} {x3 : Int32} {x4 : Int32} {o5 : Option Value} {sx0 : Int32} {S : fm_S} {r : Option Value × am_W} (h_a0 : fm_tg a0 = 4) (hi1 : vp_in x4 6) (kt : ¬ (S.1 (a0 + 5) x4.toNatClampNeg) = 1 → am_Ev d 106 68 [some (.ref a0), some (.int x1), some (.int x2), some (.int x3), some (.int x4), some (.int sx0)] [.int sx0] (fm_mk S) r) (kf : (S.1 (a0 + 5) x4.toNatClampNeg) = 1 → am_Ev d 106 64 [some (.ref a0), some (.int x1), some (.int x2), some (.int x3), some (.int x4), some (.int sx0)] [.int sx0] (fm_mk S) r) : am_Ev d 106 49 [some (.ref a0), some (.int x1), some (.int x2), some (.int x3), some (.int x4), o5] [.int sx0] (fm_mk S) r := by
  have N_a0 := fm_notes h_a0
  refine fs_istore (j := 5) (L' := [some (.ref a0), some (.int x1), some (.int x2), some (.int x3), some (.int x4), some (.int sx0)]) (by decide +kernel) (Nat.le_of_ble_eq_true rfl) rfl ?_
  refine fs_iload (j := 5) (by decide +kernel) rfl ?_
  refine fs_aloadn (j := 0) (by decide +kernel) rfl ?_
  refine fe_getR (idx := 24) (t := 4) (f := 5) (fk := 2) (fin := 1) (wp := 102) (x := a0 + 5) (by decide +kernel) (by decide +kernel) h_a0 (by decide +kernel) (fm_objrf h_a0 (by decide) (by decide +kernel) (by decide +kernel)) ?_
  refine fs_iload (j := 4) (by decide +kernel) rfl ?_
  refine fx_iald (n := x4.toNatClampNeg) (len := 6) (by decide +kernel) N_a0.2.2.2.2.2.2.2.2.1 N_a0.2.2.2.2.2.2.2.2.2 hi1 rfl ?_
  refine fs_iconst (n := 1) (v := 1) (by decide +kernel) (by decide) ?_
  exact fs_icne (off := 7) (tgt := 68) (by decide +kernel) (by decide) kt kf
theorem b106_64 {d : Nat} {a0 : Nat} {x1 : Int32} {x2 : Int32} {x3 : Int32} {x4 : Int32} {x5 : Int32} {sx0 : Int32} {S : fm_S} {r : Option Value × am_W} (nx : am_Ev d 106 69 [some (.ref a0), some (.int x1), some (.int x2), some (.int x3), some (.int x4), some (.int x5)] [.int 1, .int sx0] (fm_mk S) r) : am_Ev d 106 64 [some (.ref a0), some (.int x1), some (.int x2), some (.int x3), some (.int x4), some (.int x5)] [.int sx0] (fm_mk S) r := by
  refine fs_iconst (n := 1) (v := 1) (by decide +kernel) (by decide) ?_
  refine fs_goto (off := 4) (tgt := 69) (by decide +kernel) (by decide) ?_
  exact nx
theorem b106_68 {d : Nat} {a0 : Nat} {x1 : Int32} {x2 : Int32} {x3 : Int32} {x4 : Int32} {x5 : Int32} {sx0 : Int32} {S : fm_S} {r : Option Value × am_W} (nx : am_Ev d 106 69 [some (.ref a0), some (.int x1), some (.int x2), some (.int x3), some (.int x4), some (.int x5)] [.int 0, .int sx0] (fm_mk S) r) : am_Ev d 106 68 [some (.ref a0), some (.int x1), some (.int x2), some (.int x3), some (.int x4), some (.int x5)] [.int sx0] (fm_mk S) r := by
  refine fs_iconst (n := 0) (v := 0) (by decide +kernel) (by decide) ?_
  exact nx
theorem b106_69 {d : Nat} {a0 : Nat} {x1 : Int32} {x2 : Int32} {x3 : Int32} {x4 : Int32} {x5 : Int32} {sx0 : Int32} {sx1 : Int32} {S : fm_S} {r : Option Value × am_W} (kt : sx0 = sx1 → am_Ev d 106 74 [some (.ref a0), some (.int x1), some (.int x2), some (.int x3), some (.int x4), some (.int x5)] [] (fm_mk S) r) (kf : ¬ sx0 = sx1 → am_Ev d 106 72 [some (.ref a0), some (.int x1), some (.int x2), some (.int x3), some (.int x4), some (.int x5)] [] (fm_mk S) r) : am_Ev d 106 69 [some (.ref a0), some (.int x1), some (.int x2), some (.int x3), some (.int x4), some (.int x5)] [.int sx1, .int sx0] (fm_mk S) r := by
  exact fs_iceq (off := 5) (tgt := 74) (by decide +kernel) (by decide) kt kf
theorem b106_72 {d : Nat} {a0 : Nat} {x1 : Int32} {x2 : Int32} {x3 : Int32} {x4 : Int32} {x5 : Int32} {S : fm_S}  : am_Ev d 106 72 [some (.ref a0), some (.int x1), some (.int x2), some (.int x3), some (.int x4), some (.int x5)] [] (fm_mk S) (some (.int 0), fm_mk S) := by
  refine fs_iconst (n := 0) (v := 0) (by decide +kernel) (by decide) ?_
  exact fe_retZ (by decide +kernel) (by decide +kernel) (by decide)
theorem b106_74 {d : Nat} {a0 : Nat} {x1 : Int32} {x2 : Int32} {x3 : Int32} {x4 : Int32} {o5 : Option Value} {S : fm_S} {r : Option Value × am_W} (nx : am_Ev d 106 3 [some (.ref a0), some (.int x1), some (.int x2), some (.int x3), some (.int (x4 + 1)), o5] [] (fm_mk S) r) : am_Ev d 106 74 [some (.ref a0), some (.int x1), some (.int x2), some (.int x3), some (.int x4), o5] [] (fm_mk S) r := by
  refine fs_iinc (j := 4) (n := 1) (v := 1) (L' := [some (.ref a0), some (.int x1), some (.int x2), some (.int x3), some (.int (x4 + 1)), o5]) (by decide +kernel) rfl (Nat.le_of_ble_eq_true rfl) (by decide) rfl ?_
  refine fs_goto (off := -74) (tgt := 3) (by decide +kernel) (by decide) ?_
  exact nx
theorem b106_80 {d : Nat} {a0 : Nat} {x1 : Int32} {x2 : Int32} {x3 : Int32} {x4 : Int32} {o5 : Option Value} {S : fm_S}  : am_Ev d 106 80 [some (.ref a0), some (.int x1), some (.int x2), some (.int x3), some (.int x4), o5] [] (fm_mk S) (some (.int 1), fm_mk S) := by
  refine fs_iconst (n := 1) (v := 1) (by decide +kernel) (by decide) ?_
  exact fe_retZ (by decide +kernel) (by decide +kernel) (by decide)
-- KitchenSiege$Nose.opensAlone(IIIII)Z
theorem b107_0 {d : Nat} {x0 : Int32} {x1 : Int32} {x2 : Int32} {x3 : Int32} {x4 : Int32} {v : Int32} {S1 : fm_S} {S : fm_S} {r : Option Value × am_W} (hc : am_Sp d 65 [.int x0, .int x1, .int x2, .int x3, .int x4, .int 0] (fm_mk S) (some (.int v)) (fm_mk S1)) (nx : am_Ev (d + 1) 107 10 [some (.int x0), some (.int x1), some (.int x2), some (.int x3), some (.int x4)] [.int v] (fm_mk S1) r) : am_Ev (d + 1) 107 0 [some (.int x0), some (.int x1), some (.int x2), some (.int x3), some (.int x4)] [] (fm_mk S) r := by
  refine fs_iloadn (j := 0) (by decide +kernel) rfl ?_
  refine fs_iloadn (j := 1) (by decide +kernel) rfl ?_
  refine fs_iloadn (j := 2) (by decide +kernel) rfl ?_
  refine fs_iloadn (j := 3) (by decide +kernel) rfl ?_
  refine fs_iload (j := 4) (by decide +kernel) rfl ?_
  refine fs_iconst (n := 0) (v := 0) (by decide +kernel) (by decide) ?_
  exact fe_callS (idx := 11) (kd := 0) (n := 6) (wp := 820) (q := (645, 0)) (as := [.int x0, .int x1, .int x2, .int x3, .int x4, .int 0]) (rs := []) (by decide +kernel) (by decide +kernel) (by decide +kernel) (by decide) rfl (Nat.le_of_ble_eq_true rfl) rfl hc nx
theorem b107_10 {d : Nat} {x0 : Int32} {x1 : Int32} {x2 : Int32} {x3 : Int32} {x4 : Int32} {sx0 : Int32} {S : fm_S} {r : Option Value × am_W} (kt : sx0 < 10 → am_Ev d 107 19 [some (.int x0), some (.int x1), some (.int x2), some (.int x3), some (.int x4)] [] (fm_mk S) r) (kf : ¬ sx0 < 10 → am_Ev d 107 15 [some (.int x0), some (.int x1), some (.int x2), some (.int x3), some (.int x4)] [] (fm_mk S) r) : am_Ev d 107 10 [some (.int x0), some (.int x1), some (.int x2), some (.int x3), some (.int x4)] [.int sx0] (fm_mk S) r := by
  refine fs_bipush (n := 10) (v := 10) (by decide +kernel) (by decide) ?_
  exact fs_iclt (off := 7) (tgt := 19) (by decide +kernel) (by decide) kt kf
theorem b107_15 {d : Nat} {x0 : Int32} {x1 : Int32} {x2 : Int32} {x3 : Int32} {x4 : Int32} {S : fm_S} {r : Option Value × am_W} (nx : am_Ev d 107 20 [some (.int x0), some (.int x1), some (.int x2), some (.int x3), some (.int x4)] [.int 1] (fm_mk S) r) : am_Ev d 107 15 [some (.int x0), some (.int x1), some (.int x2), some (.int x3), some (.int x4)] [] (fm_mk S) r := by
  refine fs_iconst (n := 1) (v := 1) (by decide +kernel) (by decide) ?_
  refine fs_goto (off := 4) (tgt := 20) (by decide +kernel) (by decide) ?_
  exact nx
theorem b107_19 {d : Nat} {x0 : Int32} {x1 : Int32} {x2 : Int32} {x3 : Int32} {x4 : Int32} {S : fm_S} {r : Option Value × am_W} (nx : am_Ev d 107 20 [some (.int x0), some (.int x1), some (.int x2), some (.int x3), some (.int x4)] [.int 0] (fm_mk S) r) : am_Ev d 107 19 [some (.int x0), some (.int x1), some (.int x2), some (.int x3), some (.int x4)] [] (fm_mk S) r := by
  refine fs_iconst (n := 0) (v := 0) (by decide +kernel) (by decide) ?_
  exact nx
theorem b107_20 {d : Nat} {x0 : Int32} {x1 : Int32} {x2 : Int32} {x3 : Int32} {x4 : Int32} {sx0 : Int32} {S : fm_S}  (hz : sx0 = 0 ∨ sx0 = 1) : am_Ev d 107 20 [some (.int x0), some (.int x1), some (.int x2), some (.int x3), some (.int x4)] [.int sx0] (fm_mk S) (some (.int sx0), fm_mk S) := by
  exact fe_retZ (by decide +kernel) (by decide +kernel) hz
-- KitchenSiege$Notes.bestTrial(IIII)I
theorem b110_0 {d : Nat} {a0 : Nat} {x1 : Int32} {x2 : Int32} {x3 : Int32} {x4 : Int32} {o5 : Option Value} {o6 : Option Value} {o7 : Option Value} {o8 : Option Value} {o9 : Option Value} {o10 : Option Value} {v : Int32} {S1 : fm_S} {S : fm_S} {r : Option Value × am_W} (h_a0 : fm_tg a0 = 4) (hc : am_Sp d 105 [.ref a0, .int x1, .int x2] (fm_mk S) (some (.int v)) (fm_mk S1)) (nx : am_Ev (d + 1) 110 6 [some (.ref a0), some (.int x1), some (.int x2), some (.int x3), some (.int x4), o5, o6, o7, o8, o9, o10] [.int v] (fm_mk S1) r) : am_Ev (d + 1) 110 0 [some (.ref a0), some (.int x1), some (.int x2), some (.int x3), some (.int x4), o5, o6, o7, o8, o9, o10] [] (fm_mk S) r := by
  have N_a0 := fm_notes h_a0
  refine fs_aloadn (j := 0) (by decide +kernel) rfl ?_
  refine fs_iloadn (j := 1) (by decide +kernel) rfl ?_
  refine fs_iloadn (j := 2) (by decide +kernel) rfl ?_
  exact fe_callV (idx := 47) (n := 2) (wp := 833) (q := (810, 811)) (as := [.int x1, .int x2]) (rs := []) (by decide +kernel) (by decide +kernel) h_a0 (by decide +kernel) rfl (Nat.le_of_ble_eq_true rfl) rfl hc nx
theorem b110_6 {d : Nat} {a0 : Nat} {x1 : Int32} {x2 : Int32} {x3 : Int32} {x4 : Int32} {o5 : Option Value} {o6 : Option Value} {o7 : Option Value} {o8 : Option Value} {o9 : Option Value} {o10 : Option Value} {sx0 : Int32} {S : fm_S} {r : Option Value × am_W} (kt : ¬ sx0 = 0 → am_Ev d 110 15 [some (.ref a0), some (.int x1), some (.int x2), some (.int x3), some (.int x4), some (.int sx0), o6, o7, o8, o9, o10] [] (fm_mk S) r) (kf : sx0 = 0 → am_Ev d 110 13 [some (.ref a0), some (.int x1), some (.int x2), some (.int x3), some (.int x4), some (.int sx0), o6, o7, o8, o9, o10] [] (fm_mk S) r) : am_Ev d 110 6 [some (.ref a0), some (.int x1), some (.int x2), some (.int x3), some (.int x4), o5, o6, o7, o8, o9, o10] [.int sx0] (fm_mk S) r := by
  refine fs_istore (j := 5) (L' := [some (.ref a0), some (.int x1), some (.int x2), some (.int x3), some (.int x4), some (.int sx0), o6, o7, o8, o9, o10]) (by decide +kernel) (Nat.le_of_ble_eq_true rfl) rfl ?_
  refine fs_iload (j := 5) (by decide +kernel) rfl ?_
  exact fs_ifne (off := 5) (tgt := 15) (by decide +kernel) (by decide) kt kf
theorem b110_13 {d : Nat} {a0 : Nat} {x1 : Int32} {x2 : Int32} {x3 : Int32} {x4 : Int32} {x5 : Int32} {o6 : Option Value} {o7 : Option Value} {o8 : Option Value} {o9 : Option Value} {o10 : Option Value} {S : fm_S}  : am_Ev d 110 13 [some (.ref a0), some (.int x1), some (.int x2), some (.int x3), some (.int x4), some (.int x5), o6, o7, o8, o9, o10] [] (fm_mk S) (some (.int (-1)), fm_mk S) := by
  refine fs_iconst (n := -1) (v := (-1)) (by decide +kernel) (by decide) ?_
  exact fe_retI (by decide +kernel) (by decide +kernel)
theorem b110_15 {d : Nat} {a0 : Nat} {x1 : Int32} {x2 : Int32} {x3 : Int32} {x4 : Int32} {x5 : Int32} {o6 : Option Value} {o7 : Option Value} {o8 : Option Value} {o9 : Option Value} {o10 : Option Value} {S : fm_S} {r : Option Value × am_W} (nx : am_Ev d 110 25 [some (.ref a0), some (.int x1), some (.int x2), some (.int x3), some (.int x4), some (.int x5), some (.int (-1)), some (.int 7), some (.int 0), o9, o10] [] (fm_mk S) r) : am_Ev d 110 15 [some (.ref a0), some (.int x1), some (.int x2), some (.int x3), some (.int x4), some (.int x5), o6, o7, o8, o9, o10] [] (fm_mk S) r := by
  refine fs_iconst (n := -1) (v := (-1)) (by decide +kernel) (by decide) ?_
  refine fs_istore (j := 6) (L' := [some (.ref a0), some (.int x1), some (.int x2), some (.int x3), some (.int x4), some (.int x5), some (.int (-1)), o7, o8, o9, o10]) (by decide +kernel) (Nat.le_of_ble_eq_true rfl) rfl ?_
  refine fs_bipush (n := 7) (v := 7) (by decide +kernel) (by decide) ?_
  refine fs_istore (j := 7) (L' := [some (.ref a0), some (.int x1), some (.int x2), some (.int x3), some (.int x4), some (.int x5), some (.int (-1)), some (.int 7), o8, o9, o10]) (by decide +kernel) (Nat.le_of_ble_eq_true rfl) rfl ?_
  refine fs_iconst (n := 0) (v := 0) (by decide +kernel) (by decide) ?_
  refine fs_istore (j := 8) (L' := [some (.ref a0), some (.int x1), some (.int x2), some (.int x3), some (.int x4), some (.int x5), some (.int (-1)), some (.int 7), some (.int 0), o9, o10]) (by decide +kernel) (Nat.le_of_ble_eq_true rfl) rfl ?_
  exact nx
theorem b110_25 {d : Nat} {a0 : Nat} {x1 : Int32} {x2 : Int32} {x3 : Int32} {x4 : Int32} {x5 : Int32} {x6 : Int32} {x7 : Int32} {x8 : Int32} {o9 : Option Value} {o10 : Option Value} {S : fm_S} {r : Option Value × am_W} (kt : 6 ≤ x8 → am_Ev d 110 81 [some (.ref a0), some (.int x1), some (.int x2), some (.int x3), some (.int x4), some (.int x5), some (.int x6), some (.int x7), some (.int x8), o9, o10] [] (fm_mk S) r) (kf : ¬ 6 ≤ x8 → am_Ev d 110 32 [some (.ref a0), some (.int x1), some (.int x2), some (.int x3), some (.int x4), some (.int x5), some (.int x6), some (.int x7), some (.int x8), o9, o10] [] (fm_mk S) r) : am_Ev d 110 25 [some (.ref a0), some (.int x1), some (.int x2), some (.int x3), some (.int x4), some (.int x5), some (.int x6), some (.int x7), some (.int x8), o9, o10] [] (fm_mk S) r := by
  refine fs_iload (j := 8) (by decide +kernel) rfl ?_
  refine fs_bipush (n := 6) (v := 6) (by decide +kernel) (by decide) ?_
  exact fs_icge (off := 52) (tgt := 81) (by decide +kernel) (by decide) kt kf
theorem b110_32 {d : Nat} {a0 : Nat} {x1 : Int32} {x2 : Int32} {x3 : Int32} {x4 : Int32} {x5 : Int32} {x6 : Int32} {x7 : Int32} {x8 : Int32} {o9 : Option Value} {o10 : Option Value} {v : Int32} {S1 : fm_S} {S : fm_S} {r : Option Value × am_W} (hc : am_Sp d 111 [.int x5, .int x2, .int x8, .int x3, .int x4] (fm_mk S) (some (.int v)) (fm_mk S1)) (nx : am_Ev (d + 1) 110 43 [some (.ref a0), some (.int x1), some (.int x2), some (.int x3), some (.int x4), some (.int x5), some (.int x6), some (.int x7), some (.int x8), o9, o10] [.int v] (fm_mk S1) r) : am_Ev (d + 1) 110 32 [some (.ref a0), some (.int x1), some (.int x2), some (.int x3), some (.int x4), some (.int x5), some (.int x6), some (.int x7), some (.int x8), o9, o10] [] (fm_mk S) r := by
  refine fs_iload (j := 5) (by decide +kernel) rfl ?_
  refine fs_iloadn (j := 2) (by decide +kernel) rfl ?_
  refine fs_iload (j := 8) (by decide +kernel) rfl ?_
  refine fs_iloadn (j := 3) (by decide +kernel) rfl ?_
  refine fs_iload (j := 4) (by decide +kernel) rfl ?_
  exact fe_callS (idx := 51) (kd := 0) (n := 5) (wp := 834) (q := (835, 0)) (as := [.int x5, .int x2, .int x8, .int x3, .int x4]) (rs := []) (by decide +kernel) (by decide +kernel) (by decide +kernel) (by decide) rfl (Nat.le_of_ble_eq_true rfl) rfl hc nx
theorem b110_43 {d : Nat} {a0 : Nat} {x1 : Int32} {x2 : Int32} {x3 : Int32} {x4 : Int32} {x5 : Int32} {x6 : Int32} {x7 : Int32} {x8 : Int32} {o9 : Option Value} {o10 : Option Value} {sx0 : Int32} {v : Int32} {S1 : fm_S} {S : fm_S} {r : Option Value × am_W} (hc : am_Sp d 92 [.int x5] (fm_mk S) (some (.int v)) (fm_mk S1)) (nx : am_Ev (d + 1) 110 52 [some (.ref a0), some (.int x1), some (.int x2), some (.int x3), some (.int x4), some (.int x5), some (.int x6), some (.int x7), some (.int x8), some (.int sx0), o10] [.int v, .int sx0] (fm_mk S1) r) : am_Ev (d + 1) 110 43 [some (.ref a0), some (.int x1), some (.int x2), some (.int x3), some (.int x4), some (.int x5), some (.int x6), some (.int x7), some (.int x8), o9, o10] [.int sx0] (fm_mk S) r := by
  refine fs_istore (j := 9) (L' := [some (.ref a0), some (.int x1), some (.int x2), some (.int x3), some (.int x4), some (.int x5), some (.int x6), some (.int x7), some (.int x8), some (.int sx0), o10]) (by decide +kernel) (Nat.le_of_ble_eq_true rfl) rfl ?_
  refine fs_iload (j := 9) (by decide +kernel) rfl ?_
  refine fs_iload (j := 5) (by decide +kernel) rfl ?_
  exact fe_callS (idx := 55) (kd := 0) (n := 1) (wp := 838) (q := (756, 0)) (as := [.int x5]) (rs := [.int sx0]) (by decide +kernel) (by decide +kernel) (by decide +kernel) (by decide) rfl (Nat.le_of_ble_eq_true rfl) rfl hc nx
theorem b110_52 {d : Nat} {a0 : Nat} {x1 : Int32} {x2 : Int32} {x3 : Int32} {x4 : Int32} {x5 : Int32} {x6 : Int32} {x7 : Int32} {x8 : Int32} {x9 : Int32} {o10 : Option Value} {sx0 : Int32} {sx1 : Int32} {v : Int32} {S1 : fm_S} {S : fm_S} {r : Option Value × am_W} (hc : am_Sp d 58 [.int sx0, .int (sx1 - x9)] (fm_mk S) (some (.int v)) (fm_mk S1)) (nx : am_Ev (d + 1) 110 58 [some (.ref a0), some (.int x1), some (.int x2), some (.int x3), some (.int x4), some (.int x5), some (.int x6), some (.int x7), some (.int x8), some (.int x9), o10] [.int v] (fm_mk S1) r) : am_Ev (d + 1) 110 52 [some (.ref a0), some (.int x1), some (.int x2), some (.int x3), some (.int x4), some (.int x5), some (.int x6), some (.int x7), some (.int x8), some (.int x9), o10] [.int sx1, .int sx0] (fm_mk S) r := by
  refine fs_iload (j := 9) (by decide +kernel) rfl ?_
  refine fs_isub (by decide +kernel) ?_
  exact fe_callS (idx := 61) (kd := 0) (n := 2) (wp := 839) (q := (617, 0)) (as := [.int sx0, .int (sx1 - x9)]) (rs := []) (by decide +kernel) (by decide +kernel) (by decide +kernel) (by decide) rfl (Nat.le_of_ble_eq_true rfl) rfl hc nx
theorem b110_58 {d : Nat} {a0 : Nat} {x1 : Int32} {x2 : Int32} {x3 : Int32} {x4 : Int32} {x5 : Int32} {x6 : Int32} {x7 : Int32} {x8 : Int32} {x9 : Int32} {o10 : Option Value} {sx0 : Int32} {S : fm_S} {r : Option Value × am_W} (kt : x7 ≤ sx0 → am_Ev d 110 75 [some (.ref a0), some (.int x1), some (.int x2), some (.int x3), some (.int x4), some (.int x5), some (.int x6), some (.int x7), some (.int x8), some (.int x9), some (.int sx0)] [] (fm_mk S) r) (kf : ¬ x7 ≤ sx0 → am_Ev d 110 67 [some (.ref a0), some (.int x1), some (.int x2), some (.int x3), some (.int x4), some (.int x5), some (.int x6), some (.int x7), some (.int x8), some (.int x9), some (.int sx0)] [] (fm_mk S) r) : am_Ev d 110 58 [some (.ref a0), some (.int x1), some (.int x2), some (.int x3), some (.int x4), some (.int x5), some (.int x6), some (.int x7), some (.int x8), some (.int x9), o10] [.int sx0] (fm_mk S) r := by
  refine fs_istore (j := 10) (L' := [some (.ref a0), some (.int x1), some (.int x2), some (.int x3), some (.int x4), some (.int x5), some (.int x6), some (.int x7), some (.int x8), some (.int x9), some (.int sx0)]) (by decide +kernel) (Nat.le_of_ble_eq_true rfl) rfl ?_
  refine fs_iload (j := 10) (by decide +kernel) rfl ?_
  refine fs_iload (j := 7) (by decide +kernel) rfl ?_
  exact fs_icge (off := 11) (tgt := 75) (by decide +kernel) (by decide) kt kf
theorem b110_67 {d : Nat} {a0 : Nat} {x1 : Int32} {x2 : Int32} {x3 : Int32} {x4 : Int32} {x5 : Int32} {x6 : Int32} {x7 : Int32} {x8 : Int32} {x9 : Int32} {x10 : Int32} {S : fm_S} {r : Option Value × am_W} (nx : am_Ev d 110 75 [some (.ref a0), some (.int x1), some (.int x2), some (.int x3), some (.int x4), some (.int x5), some (.int x8), some (.int x10), some (.int x8), some (.int x9), some (.int x10)] [] (fm_mk S) r) : am_Ev d 110 67 [some (.ref a0), some (.int x1), some (.int x2), some (.int x3), some (.int x4), some (.int x5), some (.int x6), some (.int x7), some (.int x8), some (.int x9), some (.int x10)] [] (fm_mk S) r := by
  refine fs_iload (j := 8) (by decide +kernel) rfl ?_
  refine fs_istore (j := 6) (L' := [some (.ref a0), some (.int x1), some (.int x2), some (.int x3), some (.int x4), some (.int x5), some (.int x8), some (.int x7), some (.int x8), some (.int x9), some (.int x10)]) (by decide +kernel) (Nat.le_of_ble_eq_true rfl) rfl ?_
  refine fs_iload (j := 10) (by decide +kernel) rfl ?_
  refine fs_istore (j := 7) (L' := [some (.ref a0), some (.int x1), some (.int x2), some (.int x3), some (.int x4), some (.int x5), some (.int x8), some (.int x10), some (.int x8), some (.int x9), some (.int x10)]) (by decide +kernel) (Nat.le_of_ble_eq_true rfl) rfl ?_
  exact nx
theorem b110_75 {d : Nat} {a0 : Nat} {x1 : Int32} {x2 : Int32} {x3 : Int32} {x4 : Int32} {x5 : Int32} {x6 : Int32} {x7 : Int32} {x8 : Int32} {x9 : Int32} {x10 : Int32} {S : fm_S} {r : Option Value × am_W} (nx : am_Ev d 110 25 [some (.ref a0), some (.int x1), some (.int x2), some (.int x3), some (.int x4), some (.int x5), some (.int x6), some (.int x7), some (.int (x8 + 1)), some (.int x9), some (.int x10)] [] (fm_mk S) r) : am_Ev d 110 75 [some (.ref a0), some (.int x1), some (.int x2), some (.int x3), some (.int x4), some (.int x5), some (.int x6), some (.int x7), some (.int x8), some (.int x9), some (.int x10)] [] (fm_mk S) r := by
  refine fs_iinc (j := 8) (n := 1) (v := 1) (L' := [some (.ref a0), some (.int x1), some (.int x2), some (.int x3), some (.int x4), some (.int x5), some (.int x6), some (.int x7), some (.int (x8 + 1)), some (.int x9), some (.int x10)]) (by decide +kernel) rfl (Nat.le_of_ble_eq_true rfl) (by decide) rfl ?_
  refine fs_goto (off := -53) (tgt := 25) (by decide +kernel) (by decide) ?_
  exact nx
theorem b110_81 {d : Nat} {a0 : Nat} {x1 : Int32} {x2 : Int32} {x3 : Int32} {x4 : Int32} {x5 : Int32} {x6 : Int32} {x7 : Int32} {x8 : Int32} {o9 : Option Value} {o10 : Option Value} {S : fm_S}  : am_Ev d 110 81 [some (.ref a0), some (.int x1), some (.int x2), some (.int x3), some (.int x4), some (.int x5), some (.int x6), some (.int x7), some (.int x8), o9, o10] [] (fm_mk S) (some (.int x6), fm_mk S) := by
  refine fs_iload (j := 6) (by decide +kernel) rfl ?_
  exact fe_retI (by decide +kernel) (by decide +kernel)
-- KitchenSiege$Notes.openers(IIIII)I
theorem b111_0 {d : Nat} {x0 : Int32} {x1 : Int32} {x2 : Int32} {x3 : Int32} {x4 : Int32} {o5 : Option Value} {o6 : Option Value} {S : fm_S} {r : Option Value × am_W} (nx : am_Ev d 111 6 [some (.int x0), some (.int x1), some (.int x2), some (.int x3), some (.int x4), some (.int 0), some (.int 0)] [] (fm_mk S) r) : am_Ev d 111 0 [some (.int x0), some (.int x1), some (.int x2), some (.int x3), some (.int x4), o5, o6] [] (fm_mk S) r := by
  refine fs_iconst (n := 0) (v := 0) (by decide +kernel) (by decide) ?_
  refine fs_istore (j := 5) (L' := [some (.int x0), some (.int x1), some (.int x2), some (.int x3), some (.int x4), some (.int 0), o6]) (by decide +kernel) (Nat.le_of_ble_eq_true rfl) rfl ?_
  refine fs_iconst (n := 0) (v := 0) (by decide +kernel) (by decide) ?_
  refine fs_istore (j := 6) (L' := [some (.int x0), some (.int x1), some (.int x2), some (.int x3), some (.int x4), some (.int 0), some (.int 0)]) (by decide +kernel) (Nat.le_of_ble_eq_true rfl) rfl ?_
  exact nx
theorem b111_6 {d : Nat} {x0 : Int32} {x1 : Int32} {x2 : Int32} {x3 : Int32} {x4 : Int32} {x5 : Int32} {x6 : Int32} {S : fm_S} {r : Option Value × am_W} (kt : 6 ≤ x6 → am_Ev d 111 44 [some (.int x0), some (.int x1), some (.int x2), some (.int x3), some (.int x4), some (.int x5), some (.int x6)] [] (fm_mk S) r) (kf : ¬ 6 ≤ x6 → am_Ev d 111 13 [some (.int x0), some (.int x1), some (.int x2), some (.int x3), some (.int x4), some (.int x5), some (.int x6)] [] (fm_mk S) r) : am_Ev d 111 6 [some (.int x0), some (.int x1), some (.int x2), some (.int x3), some (.int x4), some (.int x5), some (.int x6)] [] (fm_mk S) r := by
  refine fs_iload (j := 6) (by decide +kernel) rfl ?_
  refine fs_bipush (n := 6) (v := 6) (by decide +kernel) (by decide) ?_
  exact fs_icge (off := 34) (tgt := 44) (by decide +kernel) (by decide) kt kf
theorem b111_13 {d : Nat} {x0 : Int32} {x1 : Int32} {x2 : Int32} {x3 : Int32} {x4 : Int32} {x5 : Int32} {x6 : Int32} {v : Int32} {S1 : fm_S} {S : fm_S} {r : Option Value × am_W} (hc : am_Sp d 19 [.int x0, .int x6] (fm_mk S) (some (.int v)) (fm_mk S1)) (nx : am_Ev (d + 1) 111 19 [some (.int x0), some (.int x1), some (.int x2), some (.int x3), some (.int x4), some (.int x5), some (.int x6)] [.int v] (fm_mk S1) r) : am_Ev (d + 1) 111 13 [some (.int x0), some (.int x1), some (.int x2), some (.int x3), some (.int x4), some (.int x5), some (.int x6)] [] (fm_mk S) r := by
  refine fs_iloadn (j := 0) (by decide +kernel) rfl ?_
  refine fs_iload (j := 6) (by decide +kernel) rfl ?_
  exact fe_callS (idx := 66) (kd := 4) (n := 2) (wp := 837) (q := (399, 0)) (as := [.int x0, .int x6]) (rs := []) (by decide +kernel) (by decide +kernel) (by decide +kernel) (by decide) rfl (Nat.le_of_ble_eq_true rfl) rfl hc nx
theorem b111_19 {d : Nat} {x0 : Int32} {x1 : Int32} {x2 : Int32} {x3 : Int32} {x4 : Int32} {x5 : Int32} {x6 : Int32} {sx0 : Int32} {S : fm_S} {r : Option Value × am_W} (kt : sx0 = 0 → am_Ev d 111 38 [some (.int x0), some (.int x1), some (.int x2), some (.int x3), some (.int x4), some (.int x5), some (.int x6)] [] (fm_mk S) r) (kf : ¬ sx0 = 0 → am_Ev d 111 22 [some (.int x0), some (.int x1), some (.int x2), some (.int x3), some (.int x4), some (.int x5), some (.int x6)] [] (fm_mk S) r) : am_Ev d 111 19 [some (.int x0), some (.int x1), some (.int x2), some (.int x3), some (.int x4), some (.int x5), some (.int x6)] [.int sx0] (fm_mk S) r := by
  exact fs_ifeq (off := 19) (tgt := 38) (by decide +kernel) (by decide) kt kf
theorem b111_22 {d : Nat} {x0 : Int32} {x1 : Int32} {x2 : Int32} {x3 : Int32} {x4 : Int32} {x5 : Int32} {x6 : Int32} {v : Int32} {S1 : fm_S} {S : fm_S} {r : Option Value × am_W} (hc : am_Sp d 107 [.int x1, .int x6, .int x2, .int x3, .int x4] (fm_mk S) (some (.int v)) (fm_mk S1)) (nx : am_Ev (d + 1) 111 32 [some (.int x0), some (.int x1), some (.int x2), some (.int x3), some (.int x4), some (.int x5), some (.int x6)] [.int v] (fm_mk S1) r) : am_Ev (d + 1) 111 22 [some (.int x0), some (.int x1), some (.int x2), some (.int x3), some (.int x4), some (.int x5), some (.int x6)] [] (fm_mk S) r := by
  refine fs_iloadn (j := 1) (by decide +kernel) rfl ?_
  refine fs_iload (j := 6) (by decide +kernel) rfl ?_
  refine fs_iloadn (j := 2) (by decide +kernel) rfl ?_
  refine fs_iloadn (j := 3) (by decide +kernel) rfl ?_
  refine fs_iload (j := 4) (by decide +kernel) rfl ?_
  exact fe_callS (idx := 41) (kd := 0) (n := 5) (wp := 817) (q := (818, 0)) (as := [.int x1, .int x6, .int x2, .int x3, .int x4]) (rs := []) (by decide +kernel) (by decide +kernel) (by decide +kernel) (by decide) rfl (Nat.le_of_ble_eq_true rfl) rfl hc nx
theorem b111_32 {d : Nat} {x0 : Int32} {x1 : Int32} {x2 : Int32} {x3 : Int32} {x4 : Int32} {x5 : Int32} {x6 : Int32} {sx0 : Int32} {S : fm_S} {r : Option Value × am_W} (kt : sx0 = 0 → am_Ev d 111 38 [some (.int x0), some (.int x1), some (.int x2), some (.int x3), some (.int x4), some (.int x5), some (.int x6)] [] (fm_mk S) r) (kf : ¬ sx0 = 0 → am_Ev d 111 35 [some (.int x0), some (.int x1), some (.int x2), some (.int x3), some (.int x4), some (.int x5), some (.int x6)] [] (fm_mk S) r) : am_Ev d 111 32 [some (.int x0), some (.int x1), some (.int x2), some (.int x3), some (.int x4), some (.int x5), some (.int x6)] [.int sx0] (fm_mk S) r := by
  exact fs_ifeq (off := 6) (tgt := 38) (by decide +kernel) (by decide) kt kf
theorem b111_35 {d : Nat} {x0 : Int32} {x1 : Int32} {x2 : Int32} {x3 : Int32} {x4 : Int32} {x5 : Int32} {x6 : Int32} {S : fm_S} {r : Option Value × am_W} (nx : am_Ev d 111 38 [some (.int x0), some (.int x1), some (.int x2), some (.int x3), some (.int x4), some (.int (x5 + 1)), some (.int x6)] [] (fm_mk S) r) : am_Ev d 111 35 [some (.int x0), some (.int x1), some (.int x2), some (.int x3), some (.int x4), some (.int x5), some (.int x6)] [] (fm_mk S) r := by
  refine fs_iinc (j := 5) (n := 1) (v := 1) (L' := [some (.int x0), some (.int x1), some (.int x2), some (.int x3), some (.int x4), some (.int (x5 + 1)), some (.int x6)]) (by decide +kernel) rfl (Nat.le_of_ble_eq_true rfl) (by decide) rfl ?_
  exact nx
theorem b111_38 {d : Nat} {x0 : Int32} {x1 : Int32} {x2 : Int32} {x3 : Int32} {x4 : Int32} {x5 : Int32} {x6 : Int32} {S : fm_S} {r : Option Value × am_W} (nx : am_Ev d 111 6 [some (.int x0), some (.int x1), some (.int x2), some (.int x3), some (.int x4), some (.int x5), some (.int (x6 + 1))] [] (fm_mk S) r) : am_Ev d 111 38 [some (.int x0), some (.int x1), some (.int x2), some (.int x3), some (.int x4), some (.int x5), some (.int x6)] [] (fm_mk S) r := by
  refine fs_iinc (j := 6) (n := 1) (v := 1) (L' := [some (.int x0), some (.int x1), some (.int x2), some (.int x3), some (.int x4), some (.int x5), some (.int (x6 + 1))]) (by decide +kernel) rfl (Nat.le_of_ble_eq_true rfl) (by decide) rfl ?_
  refine fs_goto (off := -35) (tgt := 6) (by decide +kernel) (by decide) ?_
  exact nx
theorem b111_44 {d : Nat} {x0 : Int32} {x1 : Int32} {x2 : Int32} {x3 : Int32} {x4 : Int32} {x5 : Int32} {x6 : Int32} {S : fm_S}  : am_Ev d 111 44 [some (.int x0), some (.int x1), some (.int x2), some (.int x3), some (.int x4), some (.int x5), some (.int x6)] [] (fm_mk S) (some (.int x5), fm_mk S) := by
  refine fs_iload (j := 5) (by decide +kernel) rfl ?_
  exact fe_retI (by decide +kernel) (by decide +kernel)
-- KitchenSiege$Fraction.chance(III)V
theorem b113_0 {d : Nat} {x1 : Int32} {x2 : Int32} {x3 : Int32} {o4 : Option Value} {o5 : Option Value} {o6 : Option Value} {o7 : Option Value} {o8 : Option Value} {o9 : Option Value} {S : fm_S} {r : Option Value × am_W} (nx : am_Ev d 113 6 [some (.ref 122), some (.int x1), some (.int x2), some (.int x3), some (.long 0), none, some (.int x2), o7, o8, o9] [] (fm_mk S) r) : am_Ev d 113 0 [some (.ref 122), some (.int x1), some (.int x2), some (.int x3), o4, o5, o6, o7, o8, o9] [] (fm_mk S) r := by
  refine fs_lconst (n := 0) (v := 0) (by decide +kernel) (by decide) ?_
  refine fs_lstore (j := 4) (L' := [some (.ref 122), some (.int x1), some (.int x2), some (.int x3), some (.long 0), none, o6, o7, o8, o9]) (by decide +kernel) (Nat.le_of_ble_eq_true rfl) rfl ?_
  refine fs_iloadn (j := 2) (by decide +kernel) rfl ?_
  refine fs_istore (j := 6) (L' := [some (.ref 122), some (.int x1), some (.int x2), some (.int x3), some (.long 0), none, some (.int x2), o7, o8, o9]) (by decide +kernel) (Nat.le_of_ble_eq_true rfl) rfl ?_
  exact nx
theorem b113_6 {d : Nat} {x1 : Int32} {x2 : Int32} {x3 : Int32} {y4 : Int64} {x6 : Int32} {o7 : Option Value} {o8 : Option Value} {o9 : Option Value} {S : fm_S} {r : Option Value × am_W} (kt : x1 < x6 → am_Ev d 113 48 [some (.ref 122), some (.int x1), some (.int x2), some (.int x3), some (.long y4), none, some (.int x6), o7, o8, o9] [] (fm_mk S) r) (kf : ¬ x1 < x6 → am_Ev d 113 12 [some (.ref 122), some (.int x1), some (.int x2), some (.int x3), some (.long y4), none, some (.int x6), o7, o8, o9] [] (fm_mk S) r) : am_Ev d 113 6 [some (.ref 122), some (.int x1), some (.int x2), some (.int x3), some (.long y4), none, some (.int x6), o7, o8, o9] [] (fm_mk S) r := by
  refine fs_iload (j := 6) (by decide +kernel) rfl ?_
  refine fs_iloadn (j := 1) (by decide +kernel) rfl ?_
  exact fs_icgt (off := 39) (tgt := 48) (by decide +kernel) (by decide) kt kf
theorem b113_12 {d : Nat} {x1 : Int32} {x2 : Int32} {x3 : Int32} {y4 : Int64} {x6 : Int32} {o7 : Option Value} {o8 : Option Value} {o9 : Option Value} {v : Int64} {S1 : fm_S} {S : fm_S} {r : Option Value × am_W} (hc : am_Sp d 114 [.int x1, .int x6] (fm_mk S) (some (.long v)) (fm_mk S1)) (nx : am_Ev (d + 1) 113 20 [some (.ref 122), some (.int x1), some (.int x2), some (.int x3), some (.long y4), none, some (.int x6), o7, o8, o9] [.long v, .long y4] (fm_mk S1) r) : am_Ev (d + 1) 113 12 [some (.ref 122), some (.int x1), some (.int x2), some (.int x3), some (.long y4), none, some (.int x6), o7, o8, o9] [] (fm_mk S) r := by
  refine fs_lload (j := 4) (by decide +kernel) rfl ?_
  refine fs_iloadn (j := 1) (by decide +kernel) rfl ?_
  refine fs_iload (j := 6) (by decide +kernel) rfl ?_
  exact fe_callS (idx := 16) (kd := 0) (n := 2) (wp := 848) (q := (849, 0)) (as := [.int x1, .int x6]) (rs := [.long y4]) (by decide +kernel) (by decide +kernel) (by decide +kernel) (by decide) rfl (Nat.le_of_ble_eq_true rfl) rfl hc nx
theorem b113_20 {d : Nat} {x1 : Int32} {x2 : Int32} {x3 : Int32} {y4 : Int64} {x6 : Int32} {o7 : Option Value} {o8 : Option Value} {o9 : Option Value} {sy0 : Int64} {sy1 : Int64} {v : Int64} {S1 : fm_S} {S : fm_S} {r : Option Value × am_W} (hc : am_Sp d 115 [.int (10 - x3), .int x6] (fm_mk S) (some (.long v)) (fm_mk S1)) (nx : am_Ev (d + 1) 113 29 [some (.ref 122), some (.int x1), some (.int x2), some (.int x3), some (.long y4), none, some (.int x6), o7, o8, o9] [.long v, .long sy1, .long sy0] (fm_mk S1) r) : am_Ev (d + 1) 113 20 [some (.ref 122), some (.int x1), some (.int x2), some (.int x3), some (.long y4), none, some (.int x6), o7, o8, o9] [.long sy1, .long sy0] (fm_mk S) r := by
  refine fs_bipush (n := 10) (v := 10) (by decide +kernel) (by decide) ?_
  refine fs_iloadn (j := 3) (by decide +kernel) rfl ?_
  refine fs_isub (by decide +kernel) ?_
  refine fs_iload (j := 6) (by decide +kernel) rfl ?_
  exact fe_callS (idx := 20) (kd := 0) (n := 2) (wp := 851) (q := (852, 0)) (as := [.int (10 - x3), .int x6]) (rs := [.long sy1, .long sy0]) (by decide +kernel) (by decide +kernel) (by decide +kernel) (by decide) rfl (Nat.le_of_ble_eq_true rfl) rfl hc nx
theorem b113_29 {d : Nat} {x1 : Int32} {x2 : Int32} {x3 : Int32} {y4 : Int64} {x6 : Int32} {o7 : Option Value} {o8 : Option Value} {o9 : Option Value} {sy0 : Int64} {sy1 : Int64} {sy2 : Int64} {v : Int64} {S1 : fm_S} {S : fm_S} {r : Option Value × am_W} (hc : am_Sp d 115 [.int x3, .int (x1 - x6)] (fm_mk S) (some (.long v)) (fm_mk S1)) (nx : am_Ev (d + 1) 113 38 [some (.ref 122), some (.int x1), some (.int x2), some (.int x3), some (.long y4), none, some (.int x6), o7, o8, o9] [.long v, .long (sy1 * sy2), .long sy0] (fm_mk S1) r) : am_Ev (d + 1) 113 29 [some (.ref 122), some (.int x1), some (.int x2), some (.int x3), some (.long y4), none, some (.int x6), o7, o8, o9] [.long sy2, .long sy1, .long sy0] (fm_mk S) r := by
  refine fs_lmul (by decide +kernel) ?_
  refine fs_iloadn (j := 3) (by decide +kernel) rfl ?_
  refine fs_iloadn (j := 1) (by decide +kernel) rfl ?_
  refine fs_iload (j := 6) (by decide +kernel) rfl ?_
  refine fs_isub (by decide +kernel) ?_
  exact fe_callS (idx := 20) (kd := 0) (n := 2) (wp := 851) (q := (852, 0)) (as := [.int x3, .int (x1 - x6)]) (rs := [.long (sy1 * sy2), .long sy0]) (by decide +kernel) (by decide +kernel) (by decide +kernel) (by decide) rfl (Nat.le_of_ble_eq_true rfl) rfl hc nx
theorem b113_38 {d : Nat} {x1 : Int32} {x2 : Int32} {x3 : Int32} {y4 : Int64} {x6 : Int32} {o7 : Option Value} {o8 : Option Value} {o9 : Option Value} {sy0 : Int64} {sy1 : Int64} {sy2 : Int64} {S : fm_S} {r : Option Value × am_W} (nx : am_Ev d 113 6 [some (.ref 122), some (.int x1), some (.int x2), some (.int x3), some (.long (sy0 + (sy1 * sy2))), none, some (.int (x6 + 1)), o7, o8, o9] [] (fm_mk S) r) : am_Ev d 113 38 [some (.ref 122), some (.int x1), some (.int x2), some (.int x3), some (.long y4), none, some (.int x6), o7, o8, o9] [.long sy2, .long sy1, .long sy0] (fm_mk S) r := by
  refine fs_lmul (by decide +kernel) ?_
  refine fs_ladd (by decide +kernel) ?_
  refine fs_lstore (j := 4) (L' := [some (.ref 122), some (.int x1), some (.int x2), some (.int x3), some (.long (sy0 + (sy1 * sy2))), none, some (.int x6), o7, o8, o9]) (by decide +kernel) (Nat.le_of_ble_eq_true rfl) rfl ?_
  refine fs_iinc (j := 6) (n := 1) (v := 1) (L' := [some (.ref 122), some (.int x1), some (.int x2), some (.int x3), some (.long (sy0 + (sy1 * sy2))), none, some (.int (x6 + 1)), o7, o8, o9]) (by decide +kernel) rfl (Nat.le_of_ble_eq_true rfl) (by decide) rfl ?_
  refine fs_goto (off := -39) (tgt := 6) (by decide +kernel) (by decide) ?_
  exact nx
theorem b113_48 {d : Nat} {x1 : Int32} {x2 : Int32} {x3 : Int32} {y4 : Int64} {x6 : Int32} {o7 : Option Value} {o8 : Option Value} {o9 : Option Value} {v : Int64} {S1 : fm_S} {S : fm_S} {r : Option Value × am_W} (hc : am_Sp d 115 [.int 10, .int x1] (fm_mk S) (some (.long v)) (fm_mk S1)) (nx : am_Ev (d + 1) 113 54 [some (.ref 122), some (.int x1), some (.int x2), some (.int x3), some (.long y4), none, some (.int x6), o7, o8, o9] [.long v] (fm_mk S1) r) : am_Ev (d + 1) 113 48 [some (.ref 122), some (.int x1), some (.int x2), some (.int x3), some (.long y4), none, some (.int x6), o7, o8, o9] [] (fm_mk S) r := by
  refine fs_bipush (n := 10) (v := 10) (by decide +kernel) (by decide) ?_
  refine fs_iloadn (j := 1) (by decide +kernel) rfl ?_
  exact fe_callS (idx := 20) (kd := 0) (n := 2) (wp := 851) (q := (852, 0)) (as := [.int 10, .int x1]) (rs := []) (by decide +kernel) (by decide +kernel) (by decide +kernel) (by decide) rfl (Nat.le_of_ble_eq_true rfl) rfl hc nx
theorem b113_54 {d : Nat} {x1 : Int32} {x2 : Int32} {x3 : Int32} {y4 : Int64} {x6 : Int32} {o7 : Option Value} {o8 : Option Value} {o9 : Option Value} {sy0 : Int64} {v : Int64} {S1 : fm_S} {S : fm_S} {r : Option Value × am_W} (hc : am_Sp d 116 [.long y4, .long sy0] (fm_mk S) (some (.long v)) (fm_mk S1)) (nx : am_Ev (d + 1) 113 63 [some (.ref 122), some (.int x1), some (.int x2), some (.int x3), some (.long y4), none, some (.long sy0), none, o8, o9] [.long v] (fm_mk S1) r) : am_Ev (d + 1) 113 54 [some (.ref 122), some (.int x1), some (.int x2), some (.int x3), some (.long y4), none, some (.int x6), o7, o8, o9] [.long sy0] (fm_mk S) r := by
  refine fs_lstore (j := 6) (L' := [some (.ref 122), some (.int x1), some (.int x2), some (.int x3), some (.long y4), none, some (.long sy0), none, o8, o9]) (by decide +kernel) (Nat.le_of_ble_eq_true rfl) rfl ?_
  refine fs_lload (j := 4) (by decide +kernel) rfl ?_
  refine fs_lload (j := 6) (by decide +kernel) rfl ?_
  exact fe_callS (idx := 23) (kd := 0) (n := 2) (wp := 854) (q := (855, 0)) (as := [.long y4, .long sy0]) (rs := []) (by decide +kernel) (by decide +kernel) (by decide +kernel) (by decide) rfl (Nat.le_of_ble_eq_true rfl) rfl hc nx
theorem b113_63 {d : Nat} {x1 : Int32} {x2 : Int32} {x3 : Int32} {y4 : Int64} {y6 : Int64} {o8 : Option Value} {o9 : Option Value} {sy0 : Int64} {S : fm_S} {r : Option Value × am_W} (kt : (lg_cmp sy0 0) ≤ 0 → am_Ev d 113 90 [some (.ref 122), some (.int x1), some (.int x2), some (.int x3), some (.long y4), none, some (.long y6), none, some (.long sy0), none] [] (fm_mk S) r) (kf : ¬ (lg_cmp sy0 0) ≤ 0 → am_Ev d 113 72 [some (.ref 122), some (.int x1), some (.int x2), some (.int x3), some (.long y4), none, some (.long y6), none, some (.long sy0), none] [] (fm_mk S) r) : am_Ev d 113 63 [some (.ref 122), some (.int x1), some (.int x2), some (.int x3), some (.long y4), none, some (.long y6), none, o8, o9] [.long sy0] (fm_mk S) r := by
  refine fs_lstore (j := 8) (L' := [some (.ref 122), some (.int x1), some (.int x2), some (.int x3), some (.long y4), none, some (.long y6), none, some (.long sy0), none]) (by decide +kernel) (Nat.le_of_ble_eq_true rfl) rfl ?_
  refine fs_lload (j := 8) (by decide +kernel) rfl ?_
  refine fs_lconst (n := 0) (v := 0) (by decide +kernel) (by decide) ?_
  refine fs_lcmp (by decide +kernel) ?_
  exact fs_ifle (off := 21) (tgt := 90) (by decide +kernel) (by decide) kt kf
theorem b113_72 {d : Nat} {x1 : Int32} {x2 : Int32} {x3 : Int32} {y4 : Int64} {y6 : Int64} {y8 : Int64} {S : fm_S} {r : Option Value × am_W} (hd0 : ¬ y8 = 0) (nx : am_Ev d 113 90 [some (.ref 122), some (.int x1), some (.int x2), some (.int x3), some (.long y4), none, some (.long y6), none, some (.long y8), none] [] (fm_mk (fm_wL (fm_wL S 122 0 (y4 / y8)) 122 1 (y6 / y8))) r) : am_Ev d 113 72 [some (.ref 122), some (.int x1), some (.int x2), some (.int x3), some (.long y4), none, some (.long y6), none, some (.long y8), none] [] (fm_mk S) r := by
  refine fs_aloadn (j := 0) (by decide +kernel) rfl ?_
  refine fs_lload (j := 4) (by decide +kernel) rfl ?_
  refine fs_lload (j := 8) (by decide +kernel) rfl ?_
  refine fe_ldiv (by decide +kernel) hd0 ?_
  refine fe_putL (idx := 7) (t := 3) (f := 0) (wp := 323) (by decide +kernel) (by decide +kernel) (by decide +kernel) (by decide +kernel) ?_
  refine fs_aloadn (j := 0) (by decide +kernel) rfl ?_
  refine fs_lload (j := 6) (by decide +kernel) rfl ?_
  refine fs_lload (j := 8) (by decide +kernel) rfl ?_
  refine fe_ldiv (by decide +kernel) hd0 ?_
  refine fe_putL (idx := 13) (t := 3) (f := 1) (wp := 325) (by decide +kernel) (by decide +kernel) (by decide +kernel) (by decide +kernel) ?_
  exact nx
theorem b113_90 {d : Nat} {x1 : Int32} {x2 : Int32} {x3 : Int32} {y4 : Int64} {y6 : Int64} {y8 : Int64} {S : fm_S}  : am_Ev d 113 90 [some (.ref 122), some (.int x1), some (.int x2), some (.int x3), some (.long y4), none, some (.long y6), none, some (.long y8), none] [] (fm_mk S) (none, fm_mk S) := by
  exact fe_retV (by decide +kernel) (by decide +kernel)
-- KitchenSiege$Fraction.choices(II)J
theorem b114_0 {d : Nat} {x0 : Int32} {x1 : Int32} {o2 : Option Value} {o3 : Option Value} {o4 : Option Value} {S : fm_S} {r : Option Value × am_W} (nx : am_Ev d 114 5 [some (.int x0), some (.int x1), some (.long 1), none, some (.int 1)] [] (fm_mk S) r) : am_Ev d 114 0 [some (.int x0), some (.int x1), o2, o3, o4] [] (fm_mk S) r := by
  refine fs_lconst (n := 1) (v := 1) (by decide +kernel) (by decide) ?_
  refine fs_lstoren (j := 2) (L' := [some (.int x0), some (.int x1), some (.long 1), none, o4]) (by decide +kernel) (Nat.le_of_ble_eq_true rfl) rfl ?_
  refine fs_iconst (n := 1) (v := 1) (by decide +kernel) (by decide) ?_
  refine fs_istore (j := 4) (L' := [some (.int x0), some (.int x1), some (.long 1), none, some (.int 1)]) (by decide +kernel) (Nat.le_of_ble_eq_true rfl) rfl ?_
  exact nx
theorem b114_5 {d : Nat} {x0 : Int32} {x1 : Int32} {y2 : Int64} {x4 : Int32} {S : fm_S} {r : Option Value × am_W} (kt : x1 < x4 → am_Ev d 114 31 [some (.int x0), some (.int x1), some (.long y2), none, some (.int x4)] [] (fm_mk S) r) (kf : ¬ x1 < x4 → am_Ev d 114 11 [some (.int x0), some (.int x1), some (.long y2), none, some (.int x4)] [] (fm_mk S) r) : am_Ev d 114 5 [some (.int x0), some (.int x1), some (.long y2), none, some (.int x4)] [] (fm_mk S) r := by
  refine fs_iload (j := 4) (by decide +kernel) rfl ?_
  refine fs_iloadn (j := 1) (by decide +kernel) rfl ?_
  exact fs_icgt (off := 23) (tgt := 31) (by decide +kernel) (by decide) kt kf
theorem b114_11 {d : Nat} {x0 : Int32} {x1 : Int32} {y2 : Int64} {x4 : Int32} {S : fm_S} {r : Option Value × am_W} (hd0 : ¬ x4.toInt64 = 0) (nx : am_Ev d 114 5 [some (.int x0), some (.int x1), some (.long ((y2 * (((x0 - x1) + x4).toInt64)) / x4.toInt64)), none, some (.int (x4 + 1))] [] (fm_mk S) r) : am_Ev d 114 11 [some (.int x0), some (.int x1), some (.long y2), none, some (.int x4)] [] (fm_mk S) r := by
  refine fs_lloadn (j := 2) (by decide +kernel) rfl ?_
  refine fs_iloadn (j := 0) (by decide +kernel) rfl ?_
  refine fs_iloadn (j := 1) (by decide +kernel) rfl ?_
  refine fs_isub (by decide +kernel) ?_
  refine fs_iload (j := 4) (by decide +kernel) rfl ?_
  refine fs_iadd (by decide +kernel) ?_
  refine fs_i2l (by decide +kernel) ?_
  refine fs_lmul (by decide +kernel) ?_
  refine fs_iload (j := 4) (by decide +kernel) rfl ?_
  refine fs_i2l (by decide +kernel) ?_
  refine fe_ldiv (by decide +kernel) hd0 ?_
  refine fs_lstoren (j := 2) (L' := [some (.int x0), some (.int x1), some (.long ((y2 * (((x0 - x1) + x4).toInt64)) / x4.toInt64)), none, some (.int x4)]) (by decide +kernel) (Nat.le_of_ble_eq_true rfl) rfl ?_
  refine fs_iinc (j := 4) (n := 1) (v := 1) (L' := [some (.int x0), some (.int x1), some (.long ((y2 * (((x0 - x1) + x4).toInt64)) / x4.toInt64)), none, some (.int (x4 + 1))]) (by decide +kernel) rfl (Nat.le_of_ble_eq_true rfl) (by decide) rfl ?_
  refine fs_goto (off := -23) (tgt := 5) (by decide +kernel) (by decide) ?_
  exact nx
theorem b114_31 {d : Nat} {x0 : Int32} {x1 : Int32} {y2 : Int64} {x4 : Int32} {S : fm_S}  : am_Ev d 114 31 [some (.int x0), some (.int x1), some (.long y2), none, some (.int x4)] [] (fm_mk S) (some (.long y2), fm_mk S) := by
  refine fs_lloadn (j := 2) (by decide +kernel) rfl ?_
  exact fe_retL (by decide +kernel) (by decide +kernel)
-- KitchenSiege$Fraction.power(II)J
theorem b115_0 {d : Nat} {x0 : Int32} {x1 : Int32} {o2 : Option Value} {o3 : Option Value} {o4 : Option Value} {S : fm_S} {r : Option Value × am_W} (nx : am_Ev d 115 5 [some (.int x0), some (.int x1), some (.long 1), none, some (.int 0)] [] (fm_mk S) r) : am_Ev d 115 0 [some (.int x0), some (.int x1), o2, o3, o4] [] (fm_mk S) r := by
  refine fs_lconst (n := 1) (v := 1) (by decide +kernel) (by decide) ?_
  refine fs_lstoren (j := 2) (L' := [some (.int x0), some (.int x1), some (.long 1), none, o4]) (by decide +kernel) (Nat.le_of_ble_eq_true rfl) rfl ?_
  refine fs_iconst (n := 0) (v := 0) (by decide +kernel) (by decide) ?_
  refine fs_istore (j := 4) (L' := [some (.int x0), some (.int x1), some (.long 1), none, some (.int 0)]) (by decide +kernel) (Nat.le_of_ble_eq_true rfl) rfl ?_
  exact nx
theorem b115_5 {d : Nat} {x0 : Int32} {x1 : Int32} {y2 : Int64} {x4 : Int32} {S : fm_S} {r : Option Value × am_W} (kt : x1 ≤ x4 → am_Ev d 115 22 [some (.int x0), some (.int x1), some (.long y2), none, some (.int x4)] [] (fm_mk S) r) (kf : ¬ x1 ≤ x4 → am_Ev d 115 11 [some (.int x0), some (.int x1), some (.long y2), none, some (.int x4)] [] (fm_mk S) r) : am_Ev d 115 5 [some (.int x0), some (.int x1), some (.long y2), none, some (.int x4)] [] (fm_mk S) r := by
  refine fs_iload (j := 4) (by decide +kernel) rfl ?_
  refine fs_iloadn (j := 1) (by decide +kernel) rfl ?_
  exact fs_icge (off := 14) (tgt := 22) (by decide +kernel) (by decide) kt kf
theorem b115_11 {d : Nat} {x0 : Int32} {x1 : Int32} {y2 : Int64} {x4 : Int32} {S : fm_S} {r : Option Value × am_W} (nx : am_Ev d 115 5 [some (.int x0), some (.int x1), some (.long (y2 * x0.toInt64)), none, some (.int (x4 + 1))] [] (fm_mk S) r) : am_Ev d 115 11 [some (.int x0), some (.int x1), some (.long y2), none, some (.int x4)] [] (fm_mk S) r := by
  refine fs_lloadn (j := 2) (by decide +kernel) rfl ?_
  refine fs_iloadn (j := 0) (by decide +kernel) rfl ?_
  refine fs_i2l (by decide +kernel) ?_
  refine fs_lmul (by decide +kernel) ?_
  refine fs_lstoren (j := 2) (L' := [some (.int x0), some (.int x1), some (.long (y2 * x0.toInt64)), none, some (.int x4)]) (by decide +kernel) (Nat.le_of_ble_eq_true rfl) rfl ?_
  refine fs_iinc (j := 4) (n := 1) (v := 1) (L' := [some (.int x0), some (.int x1), some (.long (y2 * x0.toInt64)), none, some (.int (x4 + 1))]) (by decide +kernel) rfl (Nat.le_of_ble_eq_true rfl) (by decide) rfl ?_
  refine fs_goto (off := -14) (tgt := 5) (by decide +kernel) (by decide) ?_
  exact nx
theorem b115_22 {d : Nat} {x0 : Int32} {x1 : Int32} {y2 : Int64} {x4 : Int32} {S : fm_S}  : am_Ev d 115 22 [some (.int x0), some (.int x1), some (.long y2), none, some (.int x4)] [] (fm_mk S) (some (.long y2), fm_mk S) := by
  refine fs_lloadn (j := 2) (by decide +kernel) rfl ?_
  exact fe_retL (by decide +kernel) (by decide +kernel)
-- KitchenSiege$Fraction.commonPart(JJ)J
theorem b116_0 {d : Nat} {y0 : Int64} {y2 : Int64} {o4 : Option Value} {o5 : Option Value} {o6 : Option Value} {S : fm_S} {r : Option Value × am_W} (nx : am_Ev d 116 3 [some (.long y0), none, some (.long y2), none, some (.int 0), o5, o6] [] (fm_mk S) r) : am_Ev d 116 0 [some (.long y0), none, some (.long y2), none, o4, o5, o6] [] (fm_mk S) r := by
  refine fs_iconst (n := 0) (v := 0) (by decide +kernel) (by decide) ?_
  refine fs_istore (j := 4) (L' := [some (.long y0), none, some (.long y2), none, some (.int 0), o5, o6]) (by decide +kernel) (Nat.le_of_ble_eq_true rfl) rfl ?_
  exact nx
theorem b116_3 {d : Nat} {y0 : Int64} {y2 : Int64} {x4 : Int32} {o5 : Option Value} {o6 : Option Value} {S : fm_S} {r : Option Value × am_W} (kt : (lg_cmp y2 0) = 0 → am_Ev d 116 32 [some (.long y0), none, some (.long y2), none, some (.int x4), o5, o6] [] (fm_mk S) r) (kf : ¬ (lg_cmp y2 0) = 0 → am_Ev d 116 9 [some (.long y0), none, some (.long y2), none, some (.int x4), o5, o6] [] (fm_mk S) r) : am_Ev d 116 3 [some (.long y0), none, some (.long y2), none, some (.int x4), o5, o6] [] (fm_mk S) r := by
  refine fs_lloadn (j := 2) (by decide +kernel) rfl ?_
  refine fs_lconst (n := 0) (v := 0) (by decide +kernel) (by decide) ?_
  refine fs_lcmp (by decide +kernel) ?_
  exact fs_ifeq (off := 26) (tgt := 32) (by decide +kernel) (by decide) kt kf
theorem b116_9 {d : Nat} {y0 : Int64} {y2 : Int64} {x4 : Int32} {o5 : Option Value} {o6 : Option Value} {S : fm_S} {r : Option Value × am_W} (kt : 100 ≤ x4 → am_Ev d 116 32 [some (.long y0), none, some (.long y2), none, some (.int x4), o5, o6] [] (fm_mk S) r) (kf : ¬ 100 ≤ x4 → am_Ev d 116 16 [some (.long y0), none, some (.long y2), none, some (.int x4), o5, o6] [] (fm_mk S) r) : am_Ev d 116 9 [some (.long y0), none, some (.long y2), none, some (.int x4), o5, o6] [] (fm_mk S) r := by
  refine fs_iload (j := 4) (by decide +kernel) rfl ?_
  refine fs_bipush (n := 100) (v := 100) (by decide +kernel) (by decide) ?_
  exact fs_icge (off := 19) (tgt := 32) (by decide +kernel) (by decide) kt kf
theorem b116_16 {d : Nat} {y0 : Int64} {y2 : Int64} {x4 : Int32} {o5 : Option Value} {o6 : Option Value} {S : fm_S} {r : Option Value × am_W} (hd0 : ¬ y2 = 0) (nx : am_Ev d 116 3 [some (.long y2), none, some (.long (y0 - y0 / y2 * y2)), none, some (.int (x4 + 1)), some (.long (y0 - y0 / y2 * y2)), none] [] (fm_mk S) r) : am_Ev d 116 16 [some (.long y0), none, some (.long y2), none, some (.int x4), o5, o6] [] (fm_mk S) r := by
  refine fs_lloadn (j := 0) (by decide +kernel) rfl ?_
  refine fs_lloadn (j := 2) (by decide +kernel) rfl ?_
  refine fe_lrem (by decide +kernel) hd0 ?_
  refine fs_lstore (j := 5) (L' := [some (.long y0), none, some (.long y2), none, some (.int x4), some (.long (y0 - y0 / y2 * y2)), none]) (by decide +kernel) (Nat.le_of_ble_eq_true rfl) rfl ?_
  refine fs_lloadn (j := 2) (by decide +kernel) rfl ?_
  refine fs_lstoren (j := 0) (L' := [some (.long y2), none, some (.long y2), none, some (.int x4), some (.long (y0 - y0 / y2 * y2)), none]) (by decide +kernel) (Nat.le_of_ble_eq_true rfl) rfl ?_
  refine fs_lload (j := 5) (by decide +kernel) rfl ?_
  refine fs_lstoren (j := 2) (L' := [some (.long y2), none, some (.long (y0 - y0 / y2 * y2)), none, some (.int x4), some (.long (y0 - y0 / y2 * y2)), none]) (by decide +kernel) (Nat.le_of_ble_eq_true rfl) rfl ?_
  refine fs_iinc (j := 4) (n := 1) (v := 1) (L' := [some (.long y2), none, some (.long (y0 - y0 / y2 * y2)), none, some (.int (x4 + 1)), some (.long (y0 - y0 / y2 * y2)), none]) (by decide +kernel) rfl (Nat.le_of_ble_eq_true rfl) (by decide) rfl ?_
  refine fs_goto (off := -26) (tgt := 3) (by decide +kernel) (by decide) ?_
  exact nx
theorem b116_32 {d : Nat} {y0 : Int64} {y2 : Int64} {x4 : Int32} {o5 : Option Value} {o6 : Option Value} {S : fm_S}  : am_Ev d 116 32 [some (.long y0), none, some (.long y2), none, some (.int x4), o5, o6] [] (fm_mk S) (some (.long y0), fm_mk S) := by
  refine fs_lloadn (j := 0) (by decide +kernel) rfl ?_
  exact fe_retL (by decide +kernel) (by decide +kernel)
-- KitchenSiege$Days.openOf(I)I
theorem b119_0 {d : Nat} {a0 : Nat} {x1 : Int32} {o2 : Option Value} {o3 : Option Value} {S : fm_S} {r : Option Value × am_W} (nx : am_Ev d 119 4 [some (.ref a0), some (.int x1), some (.int 0), some (.int 0)] [] (fm_mk S) r) : am_Ev d 119 0 [some (.ref a0), some (.int x1), o2, o3] [] (fm_mk S) r := by
  refine fs_iconst (n := 0) (v := 0) (by decide +kernel) (by decide) ?_
  refine fs_istoren (j := 2) (L' := [some (.ref a0), some (.int x1), some (.int 0), o3]) (by decide +kernel) (Nat.le_of_ble_eq_true rfl) rfl ?_
  refine fs_iconst (n := 0) (v := 0) (by decide +kernel) (by decide) ?_
  refine fs_istoren (j := 3) (L' := [some (.ref a0), some (.int x1), some (.int 0), some (.int 0)]) (by decide +kernel) (Nat.le_of_ble_eq_true rfl) rfl ?_
  exact nx
theorem b119_4 {d : Nat} {a0 : Nat} {x1 : Int32} {x2 : Int32} {x3 : Int32} {S : fm_S} {r : Option Value × am_W} (kt : x1 ≤ x3 → am_Ev d 119 26 [some (.ref a0), some (.int x1), some (.int x2), some (.int x3)] [] (fm_mk S) r) (kf : ¬ x1 ≤ x3 → am_Ev d 119 9 [some (.ref a0), some (.int x1), some (.int x2), some (.int x3)] [] (fm_mk S) r) : am_Ev d 119 4 [some (.ref a0), some (.int x1), some (.int x2), some (.int x3)] [] (fm_mk S) r := by
  refine fs_iloadn (j := 3) (by decide +kernel) rfl ?_
  refine fs_iloadn (j := 1) (by decide +kernel) rfl ?_
  exact fs_icge (off := 20) (tgt := 26) (by decide +kernel) (by decide) kt kf
theorem b119_9 {d : Nat} {a0 : Nat} {x1 : Int32} {x2 : Int32} {x3 : Int32} {v : Int32} {S1 : fm_S} {S : fm_S} {r : Option Value × am_W} (h_a0 : fm_tg a0 = 2) (hc : am_Sp d 61 [.ref a0, .int x3] (fm_mk S) (some (.int v)) (fm_mk S1)) (nx : am_Ev (d + 1) 119 14 [some (.ref a0), some (.int x1), some (.int x2), some (.int x3)] [.int v] (fm_mk S1) r) : am_Ev (d + 1) 119 9 [some (.ref a0), some (.int x1), some (.int x2), some (.int x3)] [] (fm_mk S) r := by
  have D_a0 := fm_days h_a0
  refine fs_aloadn (j := 0) (by decide +kernel) rfl ?_
  refine fs_iloadn (j := 3) (by decide +kernel) rfl ?_
  exact fe_callV (idx := 31) (n := 1) (wp := 877) (q := (629, 630)) (as := [.int x3]) (rs := []) (by decide +kernel) (by decide +kernel) h_a0 (by decide +kernel) rfl (Nat.le_of_ble_eq_true rfl) rfl hc nx
theorem b119_14 {d : Nat} {a0 : Nat} {x1 : Int32} {x2 : Int32} {x3 : Int32} {sx0 : Int32} {S : fm_S} {r : Option Value × am_W} (kt : ¬ sx0 = 0 → am_Ev d 119 20 [some (.ref a0), some (.int x1), some (.int x2), some (.int x3)] [] (fm_mk S) r) (kf : sx0 = 0 → am_Ev d 119 17 [some (.ref a0), some (.int x1), some (.int x2), some (.int x3)] [] (fm_mk S) r) : am_Ev d 119 14 [some (.ref a0), some (.int x1), some (.int x2), some (.int x3)] [.int sx0] (fm_mk S) r := by
  exact fs_ifne (off := 6) (tgt := 20) (by decide +kernel) (by decide) kt kf
theorem b119_17 {d : Nat} {a0 : Nat} {x1 : Int32} {x2 : Int32} {x3 : Int32} {S : fm_S} {r : Option Value × am_W} (nx : am_Ev d 119 20 [some (.ref a0), some (.int x1), some (.int (x2 + 1)), some (.int x3)] [] (fm_mk S) r) : am_Ev d 119 17 [some (.ref a0), some (.int x1), some (.int x2), some (.int x3)] [] (fm_mk S) r := by
  refine fs_iinc (j := 2) (n := 1) (v := 1) (L' := [some (.ref a0), some (.int x1), some (.int (x2 + 1)), some (.int x3)]) (by decide +kernel) rfl (Nat.le_of_ble_eq_true rfl) (by decide) rfl ?_
  exact nx
theorem b119_20 {d : Nat} {a0 : Nat} {x1 : Int32} {x2 : Int32} {x3 : Int32} {S : fm_S} {r : Option Value × am_W} (nx : am_Ev d 119 4 [some (.ref a0), some (.int x1), some (.int x2), some (.int (x3 + 1))] [] (fm_mk S) r) : am_Ev d 119 20 [some (.ref a0), some (.int x1), some (.int x2), some (.int x3)] [] (fm_mk S) r := by
  refine fs_iinc (j := 3) (n := 1) (v := 1) (L' := [some (.ref a0), some (.int x1), some (.int x2), some (.int (x3 + 1))]) (by decide +kernel) rfl (Nat.le_of_ble_eq_true rfl) (by decide) rfl ?_
  refine fs_goto (off := -19) (tgt := 4) (by decide +kernel) (by decide) ?_
  exact nx
theorem b119_26 {d : Nat} {a0 : Nat} {x1 : Int32} {x2 : Int32} {x3 : Int32} {S : fm_S}  : am_Ev d 119 26 [some (.ref a0), some (.int x1), some (.int x2), some (.int x3)] [] (fm_mk S) (some (.int x2), fm_mk S) := by
  refine fs_iloadn (j := 2) (by decide +kernel) rfl ?_
  exact fe_retI (by decide +kernel) (by decide +kernel)
-- KitchenSiege$Notes.mixNotes(J)J
theorem b132_0 {d : Nat} {a0 : Nat} {y1 : Int64} {o3 : Option Value} {S : fm_S} {r : Option Value × am_W} (nx : am_Ev d 132 2 [some (.ref a0), some (.long y1), none, some (.int 0)] [] (fm_mk S) r) : am_Ev d 132 0 [some (.ref a0), some (.long y1), none, o3] [] (fm_mk S) r := by
  refine fs_iconst (n := 0) (v := 0) (by decide +kernel) (by decide) ?_
  refine fs_istoren (j := 3) (L' := [some (.ref a0), some (.long y1), none, some (.int 0)]) (by decide +kernel) (Nat.le_of_ble_eq_true rfl) rfl ?_
  exact nx
theorem b132_2 {d : Nat} {a0 : Nat} {y1 : Int64} {x3 : Int32} {S : fm_S} {r : Option Value × am_W} (h_a0 : fm_tg a0 = 4) (kt : (S.1 a0 0) ≤ x3 → am_Ev d 132 70 [some (.ref a0), some (.long y1), none, some (.int x3)] [] (fm_mk S) r) (kf : ¬ (S.1 a0 0) ≤ x3 → am_Ev d 132 10 [some (.ref a0), some (.long y1), none, some (.int x3)] [] (fm_mk S) r) : am_Ev d 132 2 [some (.ref a0), some (.long y1), none, some (.int x3)] [] (fm_mk S) r := by
  have N_a0 := fm_notes h_a0
  refine fs_iloadn (j := 3) (by decide +kernel) rfl ?_
  refine fs_aloadn (j := 0) (by decide +kernel) rfl ?_
  refine fe_getI (idx := 27) (t := 4) (f := 0) (fk := 0) (fin := 0) (wp := 95) (by decide +kernel) (by decide +kernel) h_a0 (by decide +kernel) ?_
  exact fs_icge (off := 63) (tgt := 70) (by decide +kernel) (by decide) kt kf
theorem b132_10 {d : Nat} {a0 : Nat} {y1 : Int64} {x3 : Int32} {v : Int64} {S1 : fm_S} {S : fm_S} {r : Option Value × am_W} (h_a0 : fm_tg a0 = 4) (hi1 : vp_in x3 6) (hc : am_Sp d 127 [.long y1, .long ((S.1 (a0 + 1) x3.toNatClampNeg).toInt64)] (fm_mk S) (some (.long v)) (fm_mk S1)) (nx : am_Ev (d + 1) 132 21 [some (.ref a0), some (.long y1), none, some (.int x3)] [.long v] (fm_mk S1) r) : am_Ev (d + 1) 132 10 [some (.ref a0), some (.long y1), none, some (.int x3)] [] (fm_mk S) r := by
  have N_a0 := fm_notes h_a0
  refine fs_lloadn (j := 1) (by decide +kernel) rfl ?_
  refine fs_aloadn (j := 0) (by decide +kernel) rfl ?_
  refine fe_getR (idx := 9) (t := 4) (f := 1) (fk := 2) (fin := 1) (wp := 98) (x := a0 + 1) (by decide +kernel) (by decide +kernel) h_a0 (by decide +kernel) (fm_objrf h_a0 (by decide) (by decide +kernel) (by decide +kernel)) ?_
  refine fs_iloadn (j := 3) (by decide +kernel) rfl ?_
  refine fx_iald (n := x3.toNatClampNeg) (len := 6) (by decide +kernel) N_a0.1 N_a0.2.1 hi1 rfl ?_
  refine fs_i2l (by decide +kernel) ?_
  exact fe_callS (idx := 70) (kd := 4) (n := 2) (wp := 933) (q := (909, 0)) (as := [.long y1, .long ((S.1 (a0 + 1) x3.toNatClampNeg).toInt64)]) (rs := []) (by decide +kernel) (by decide +kernel) (by decide +kernel) (by decide) rfl (Nat.le_of_ble_eq_true rfl) rfl hc nx
theorem b132_21 {d : Nat} {a0 : Nat} {y1 : Int64} {x3 : Int32} {sy0 : Int64} {v : Int64} {S1 : fm_S} {S : fm_S} {r : Option Value × am_W} (h_a0 : fm_tg a0 = 4) (hi1 : vp_in x3 6) (hc : am_Sp d 127 [.long sy0, .long ((S.1 (a0 + 2) x3.toNatClampNeg).toInt64)] (fm_mk S) (some (.long v)) (fm_mk S1)) (nx : am_Ev (d + 1) 132 31 [some (.ref a0), some (.long y1), none, some (.int x3)] [.long v] (fm_mk S1) r) : am_Ev (d + 1) 132 21 [some (.ref a0), some (.long y1), none, some (.int x3)] [.long sy0] (fm_mk S) r := by
  have N_a0 := fm_notes h_a0
  refine fs_aloadn (j := 0) (by decide +kernel) rfl ?_
  refine fe_getR (idx := 15) (t := 4) (f := 2) (fk := 2) (fin := 1) (wp := 99) (x := a0 + 2) (by decide +kernel) (by decide +kernel) h_a0 (by decide +kernel) (fm_objrf h_a0 (by decide) (by decide +kernel) (by decide +kernel)) ?_
  refine fs_iloadn (j := 3) (by decide +kernel) rfl ?_
  refine fx_iald (n := x3.toNatClampNeg) (len := 6) (by decide +kernel) N_a0.2.2.1 N_a0.2.2.2.1 hi1 rfl ?_
  refine fs_i2l (by decide +kernel) ?_
  exact fe_callS (idx := 70) (kd := 4) (n := 2) (wp := 933) (q := (909, 0)) (as := [.long sy0, .long ((S.1 (a0 + 2) x3.toNatClampNeg).toInt64)]) (rs := []) (by decide +kernel) (by decide +kernel) (by decide +kernel) (by decide) rfl (Nat.le_of_ble_eq_true rfl) rfl hc nx
theorem b132_31 {d : Nat} {a0 : Nat} {y1 : Int64} {x3 : Int32} {sy0 : Int64} {v : Int64} {S1 : fm_S} {S : fm_S} {r : Option Value × am_W} (h_a0 : fm_tg a0 = 4) (hi1 : vp_in x3 6) (hc : am_Sp d 127 [.long sy0, .long ((S.1 (a0 + 3) x3.toNatClampNeg).toInt64)] (fm_mk S) (some (.long v)) (fm_mk S1)) (nx : am_Ev (d + 1) 132 41 [some (.ref a0), some (.long y1), none, some (.int x3)] [.long v] (fm_mk S1) r) : am_Ev (d + 1) 132 31 [some (.ref a0), some (.long y1), none, some (.int x3)] [.long sy0] (fm_mk S) r := by
  have N_a0 := fm_notes h_a0
  refine fs_aloadn (j := 0) (by decide +kernel) rfl ?_
  refine fe_getR (idx := 18) (t := 4) (f := 3) (fk := 2) (fin := 1) (wp := 100) (x := a0 + 3) (by decide +kernel) (by decide +kernel) h_a0 (by decide +kernel) (fm_objrf h_a0 (by decide) (by decide +kernel) (by decide +kernel)) ?_
  refine fs_iloadn (j := 3) (by decide +kernel) rfl ?_
  refine fx_iald (n := x3.toNatClampNeg) (len := 6) (by decide +kernel) N_a0.2.2.2.2.1 N_a0.2.2.2.2.2.1 hi1 rfl ?_
  refine fs_i2l (by decide +kernel) ?_
  exact fe_callS (idx := 70) (kd := 4) (n := 2) (wp := 933) (q := (909, 0)) (as := [.long sy0, .long ((S.1 (a0 + 3) x3.toNatClampNeg).toInt64)]) (rs := []) (by decide +kernel) (by decide +kernel) (by decide +kernel) (by decide) rfl (Nat.le_of_ble_eq_true rfl) rfl hc nx
theorem b132_41 {d : Nat} {a0 : Nat} {y1 : Int64} {x3 : Int32} {sy0 : Int64} {v : Int64} {S1 : fm_S} {S : fm_S} {r : Option Value × am_W} (h_a0 : fm_tg a0 = 4) (hi1 : vp_in x3 6) (hc : am_Sp d 127 [.long sy0, .long ((S.1 (a0 + 4) x3.toNatClampNeg).toInt64)] (fm_mk S) (some (.long v)) (fm_mk S1)) (nx : am_Ev (d + 1) 132 53 [some (.ref a0), some (.long sy0), none, some (.int x3)] [.long v] (fm_mk S1) r) : am_Ev (d + 1) 132 41 [some (.ref a0), some (.long y1), none, some (.int x3)] [.long sy0] (fm_mk S) r := by
  have N_a0 := fm_notes h_a0
  refine fs_lstoren (j := 1) (L' := [some (.ref a0), some (.long sy0), none, some (.int x3)]) (by decide +kernel) (Nat.le_of_ble_eq_true rfl) rfl ?_
  refine fs_lloadn (j := 1) (by decide +kernel) rfl ?_
  refine fs_aloadn (j := 0) (by decide +kernel) rfl ?_
  refine fe_getR (idx := 21) (t := 4) (f := 4) (fk := 2) (fin := 1) (wp := 101) (x := a0 + 4) (by decide +kernel) (by decide +kernel) h_a0 (by decide +kernel) (fm_objrf h_a0 (by decide) (by decide +kernel) (by decide +kernel)) ?_
  refine fs_iloadn (j := 3) (by decide +kernel) rfl ?_
  refine fx_iald (n := x3.toNatClampNeg) (len := 6) (by decide +kernel) N_a0.2.2.2.2.2.2.1 N_a0.2.2.2.2.2.2.2.1 hi1 rfl ?_
  refine fs_i2l (by decide +kernel) ?_
  exact fe_callS (idx := 70) (kd := 4) (n := 2) (wp := 933) (q := (909, 0)) (as := [.long sy0, .long ((S.1 (a0 + 4) x3.toNatClampNeg).toInt64)]) (rs := []) (by decide +kernel) (by decide +kernel) (by decide +kernel) (by decide) rfl (Nat.le_of_ble_eq_true rfl) rfl hc nx
theorem b132_53 {d : Nat} {a0 : Nat} {y1 : Int64} {x3 : Int32} {sy0 : Int64} {v : Int64} {S1 : fm_S} {S : fm_S} {r : Option Value × am_W} (h_a0 : fm_tg a0 = 4) (hi1 : vp_in x3 6) (hc : am_Sp d 127 [.long sy0, .long ((S.1 (a0 + 5) x3.toNatClampNeg).toInt64)] (fm_mk S) (some (.long v)) (fm_mk S1)) (nx : am_Ev (d + 1) 132 63 [some (.ref a0), some (.long y1), none, some (.int x3)] [.long v] (fm_mk S1) r) : am_Ev (d + 1) 132 53 [some (.ref a0), some (.long y1), none, some (.int x3)] [.long sy0] (fm_mk S) r := by
  have N_a0 := fm_notes h_a0
  refine fs_aloadn (j := 0) (by decide +kernel) rfl ?_
  refine fe_getR (idx := 24) (t := 4) (f := 5) (fk := 2) (fin := 1) (wp := 102) (x := a0 + 5) (by decide +kernel) (by decide +kernel) h_a0 (by decide +kernel) (fm_objrf h_a0 (by decide) (by decide +kernel) (by decide +kernel)) ?_
  refine fs_iloadn (j := 3) (by decide +kernel) rfl ?_
  refine fx_iald (n := x3.toNatClampNeg) (len := 6) (by decide +kernel) N_a0.2.2.2.2.2.2.2.2.1 N_a0.2.2.2.2.2.2.2.2.2 hi1 rfl ?_
  refine fs_i2l (by decide +kernel) ?_
  exact fe_callS (idx := 70) (kd := 4) (n := 2) (wp := 933) (q := (909, 0)) (as := [.long sy0, .long ((S.1 (a0 + 5) x3.toNatClampNeg).toInt64)]) (rs := []) (by decide +kernel) (by decide +kernel) (by decide +kernel) (by decide) rfl (Nat.le_of_ble_eq_true rfl) rfl hc nx
theorem b132_63 {d : Nat} {a0 : Nat} {y1 : Int64} {x3 : Int32} {sy0 : Int64} {S : fm_S} {r : Option Value × am_W} (nx : am_Ev d 132 2 [some (.ref a0), some (.long sy0), none, some (.int (x3 + 1))] [] (fm_mk S) r) : am_Ev d 132 63 [some (.ref a0), some (.long y1), none, some (.int x3)] [.long sy0] (fm_mk S) r := by
  refine fs_lstoren (j := 1) (L' := [some (.ref a0), some (.long sy0), none, some (.int x3)]) (by decide +kernel) (Nat.le_of_ble_eq_true rfl) rfl ?_
  refine fs_iinc (j := 3) (n := 1) (v := 1) (L' := [some (.ref a0), some (.long sy0), none, some (.int (x3 + 1))]) (by decide +kernel) rfl (Nat.le_of_ble_eq_true rfl) (by decide) rfl ?_
  refine fs_goto (off := -65) (tgt := 2) (by decide +kernel) (by decide) ?_
  exact nx
theorem b132_70 {d : Nat} {a0 : Nat} {y1 : Int64} {x3 : Int32} {S : fm_S}  : am_Ev d 132 70 [some (.ref a0), some (.long y1), none, some (.int x3)] [] (fm_mk S) (some (.long y1), fm_mk S) := by
  refine fs_lloadn (j := 1) (by decide +kernel) rfl ?_
  exact fe_retL (by decide +kernel) (by decide +kernel)
end
