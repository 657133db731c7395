/-! the tables of the abstract machine: printed by wip/whole/gen01.py out of the task -/
abbrev am_C : Type := Nat × List Value
abbrev am_W : Type := List am_C
/-- a method: name, code, locals, type, the number of its class, the place of its code word -/
abbrev am_M : Type := MethodName × ByteArray × Nat × Option FieldType × Nat × Nat
def am_ms : List am_M := [
  (yX8_init, prog_1_method_1_code, 2, none, 8, 79),
  (yX7_init, prog_9_method_1_code, 2, none, 7, 87),
  (yX5_init, prog_7_method_1_code, 1, none, 5, 93),
  (yX2_init, prog_4_method_1_code, 1, none, 2, 121),
  (yX7_begin, prog_9_method_2_code, 2, none, 7, 151),
  (yX2_begin, prog_4_method_2_code, 2, none, 2, 155),
  (yX1_init, prog_3_method_1_code, 2, none, 1, 230),
  (yX0_init, prog_2_method_1_code, 1, none, 0, 236),
  (yX6_init, prog_8_method_1_code, 1, none, 6, 282),
  (yX3_init, prog_5_method_1_code, 1, none, 3, 321),
  (yX8_town, prog_1_method_2_code, 2, (some .int), 8, 365),
  (yX8_street, prog_1_method_3_code, 4, (some .int), 8, 370),
  (yX8_within, prog_1_method_44_code, 3, (some .boolean), 8, 373),
  (yX8_bad, prog_1_method_35_code, 1, (some .int), 8, 377),
  (yX8_full, prog_1_method_38_code, 1, (some .int), 8, 381),
  (yX7_addStreet, prog_9_method_4_code, 5, (some .int), 7, 385),
  (yX8_lane, prog_1_method_4_code, 3, (some .int), 8, 389),
  (yX8_isStreet, prog_1_method_39_code, 2, (some .boolean), 8, 393),
  (yX7_hasLane, prog_9_method_5_code, 3, (some .boolean), 7, 397),
  (yX8_has, prog_1_method_45_code, 2, (some .boolean), 8, 400),
  (yX8_no, prog_1_method_37_code, 1, (some .int), 8, 404),
  (yX7_addLane, prog_9_method_6_code, 3, none, 7, 408),
  (yX8_gate, prog_1_method_5_code, 4, (some .int), 8, 412),
  (yX8_isWind, prog_1_method_41_code, 1, (some .boolean), 8, 415),
  (yX8_wind, prog_1_method_6_code, 4, (some .int), 8, 419),
  (yX8_dish, prog_1_method_7_code, 4, (some .int), 8, 423),
  (yX7_addDish, prog_9_method_7_code, 5, (some .int), 7, 427),
  (yX8_type, prog_1_method_8_code, 2, (some .int), 8, 431),
  (yX6_put, prog_8_method_2_code, 2, (some .int), 6, 435),
  (yX8_clear, prog_1_method_9_code, 2, (some .int), 8, 439),
  (yX8_read, prog_1_method_10_code, 2, (some .int), 8, 443),
  (yX6_parse, prog_8_method_3_code, 2, (some .int), 6, 447),
  (yX6_take, prog_8_method_13_code, 1, none, 6, 452),
  (yX6_isLetter, prog_8_method_16_code, 1, (some .boolean), 6, 455),
  (yX6_isFigure, prog_8_method_17_code, 1, (some .boolean), 6, 458),
  (yX6_item, prog_8_method_4_code, 2, none, 6, 462),
  (yX6_word, prog_8_method_14_code, 1, (some .int), 6, 466),
  (yX6_spells, prog_8_method_15_code, 3, (some .boolean), 6, 471),
  (yX6_mayStand, prog_8_method_5_code, 2, (some .boolean), 6, 528),
  (yX6_streetItem, prog_8_method_6_code, 4, none, 6, 532),
  (yX6_number, prog_8_method_11_code, 3, (some .int), 6, 536),
  (yX6_endItem, prog_8_method_12_code, 1, (some .boolean), 6, 541),
  (yX6_laneItem, prog_8_method_7_code, 3, none, 6, 546),
  (yX6_gateItem, prog_8_method_8_code, 3, none, 6, 551),
  (yX6_windItem, prog_8_method_9_code, 3, none, 6, 555),
  (yX6_dishItem, prog_8_method_10_code, 4, none, 6, 559),
  (yX7_copy, prog_9_method_3_code, 3, none, 7, 564),
  (yX5_copy, prog_7_method_2_code, 2, none, 5, 571),
  (yX2_copy, prog_4_method_3_code, 2, none, 2, 576),
  (yX8_day, prog_1_method_11_code, 2, (some .int), 8, 582),
  (yX8_isDish, prog_1_method_40_code, 2, (some .boolean), 8, 586),
  (yX7_keepDays, prog_9_method_11_code, 3, none, 7, 590),
  (yX1_pass, prog_3_method_2_code, 6, (some .int), 1, 594),
  (yX0_empty, prog_2_method_2_code, 2, none, 0, 598),
  (yX7_windOn, prog_9_method_8_code, 2, (some .int), 7, 602),
  (⟨"java/lang/Math", "floorMod", "(II)I"⟩, prog_13_method_50_code, 3, (some .int), 11, 605),
  (yX0_fill, prog_2_method_3_code, 4, none, 0, 609),
  (yX0_fillWithSheets, prog_2_method_4_code, 9, none, 0, 613),
  (⟨"java/lang/Math", "max", "(II)I"⟩, prog_13_method_65_code, 2, (some .int), 11, 618),
  (yX0_spread, prog_2_method_5_code, 7, (some .boolean), 0, 622),
  (yX1_openingBits, prog_3_method_3_code, 5, (some .int), 1, 627),
  (yX2_isShut, prog_4_method_4_code, 2, (some .boolean), 2, 631),
  (yX1_pullFromAir, prog_3_method_4_code, 5, (some .int), 1, 635),
  (yX2_ahead, prog_4_method_6_code, 3, (some .int), 2, 639),
  (yX7_pull, prog_9_method_9_code, 6, (some .int), 7, 643),
  (yX4_pull, prog_6_method_2_code, 9, (some .int), 4, 646),
  (yX2_smellAfter, prog_4_method_7_code, 4, none, 2, 651),
  (yX8_undo, prog_1_method_12_code, 1, (some .int), 8, 656),
  (yX7_goBack, prog_9_method_12_code, 1, none, 7, 660),
  (yX8_of, prog_1_method_13_code, 3, (some .int), 8, 664),
  (yX8_badTen, prog_1_method_36_code, 1, (some .int), 8, 668),
  (yX8_smells, prog_1_method_14_code, 4, (some .int), 8, 672),
  (yX1_strength, prog_3_method_5_code, 4, (some .int), 1, 676),
  (yX8_moved, prog_1_method_15_code, 3, (some .int), 8, 680),
  (yX1_pullNow, prog_3_method_6_code, 3, (some .int), 1, 684),
  (yX8_falls, prog_1_method_16_code, 3, (some .int), 8, 688),
  (yX1_daysToFall, prog_3_method_7_code, 6, (some .int), 1, 692),
  (yX1_measure, prog_3_method_8_code, 4, none, 1, 696),
  (yX8_order, prog_1_method_17_code, 4, (some .int), 8, 700),
  (yX1_findRow, prog_3_method_9_code, 4, (some .int), 1, 704),
  (yX1_findRowOf, prog_3_method_10_code, 8, (some .boolean), 1, 708),
  (yX1_lay, prog_3_method_11_code, 7, (some .boolean), 1, 712),
  (yX1_opensLast, prog_3_method_12_code, 11, (some .boolean), 1, 716),
  (yX8_never, prog_1_method_18_code, 1, (some .int), 8, 721),
  (yX1_neverOpened, prog_3_method_13_code, 3, (some .int), 1, 725),
  (yX7_shutStreets, prog_9_method_10_code, 3, (some .int), 7, 729),
  (yX1_openedAlone, prog_3_method_14_code, 6, (some .int), 1, 734),
  (yX1_openedAloneOn, prog_3_method_15_code, 5, (some .int), 1, 738),
  (yX8_least, prog_1_method_19_code, 1, (some .int), 8, 742),
  (yX1_leastSet, prog_3_method_16_code, 7, (some .int), 1, 746),
  (yX1_openedBy, prog_3_method_17_code, 4, (some .int), 1, 750),
  (yX1_butterOf, prog_3_method_18_code, 4, (some .int), 1, 754),
  (⟨"java/lang/Integer", "bitCount", "(I)I"⟩, prog_12_method_49_code, 1, (some .int), 10, 757),
  (yX8_answer, prog_1_method_20_code, 5, (some .int), 8, 764),
  (yX1_bestSheets, prog_3_method_20_code, 7, (some .int), 1, 768),
  (yX1_opening, prog_3_method_19_code, 4, (some .int), 1, 772),
  (yX8_game, prog_1_method_21_code, 2, (some .int), 8, 778),
  (yX1_restingPairs, prog_3_method_21_code, 5, (some .int), 1, 782),
  (yX1_pair, prog_3_method_22_code, 2, (some .int), 1, 785),
  (yX1_rests, prog_3_method_23_code, 5, (some .boolean), 1, 789),
  (yX8_note, prog_1_method_22_code, 6, (some .int), 8, 793),
  (yX8_isNoted, prog_1_method_43_code, 2, (some .boolean), 8, 796),
  (yX5_add, prog_7_method_3_code, 6, (some .int), 5, 800),
  (yX8_forget, prog_1_method_23_code, 2, (some .int), 8, 804),
  (yX8_craved, prog_1_method_24_code, 2, (some .int), 8, 808),
  (yX5_cravings, prog_7_method_4_code, 5, (some .int), 5, 812),
  (yX5_allSo, prog_7_method_5_code, 6, (some .boolean), 5, 816),
  (yX4_opensAlone, prog_6_method_3_code, 5, (some .boolean), 4, 819),
  (yX8_is, prog_1_method_25_code, 4, (some .int), 8, 824),
  (yX8_tryNext, prog_1_method_26_code, 4, (some .int), 8, 828),
  (yX5_bestTrial, prog_7_method_6_code, 11, (some .int), 5, 832),
  (yX5_openers, prog_7_method_7_code, 7, (some .int), 5, 836),
  (yX8_rain, prog_1_method_27_code, 4, (some .int), 8, 843),
  (yX3_chance, prog_5_method_2_code, 10, none, 3, 847),
  (yX3_choices, prog_5_method_3_code, 5, (some .long), 3, 850),
  (yX3_power, prog_5_method_4_code, 5, (some .long), 3, 853),
  (yX3_commonPart, prog_5_method_5_code, 7, (some .long), 3, 856),
  (yX8_sieges, prog_1_method_28_code, 3, (some .int), 8, 860),
  (yX1_openAfter, prog_3_method_24_code, 7, (some .int), 1, 865),
  (yX2_openOf, prog_4_method_5_code, 4, (some .int), 2, 876),
  (yX8_part, prog_1_method_29_code, 2, (some .long), 8, 881),
  (yX8_image, prog_1_method_30_code, 2, (some .int), 8, 885),
  (yX8_isImage, prog_1_method_42_code, 1, (some .boolean), 8, 888),
  (yX8_from, prog_1_method_31_code, 2, (some .int), 8, 892),
  (yX8_status, prog_1_method_32_code, 2, (some .int), 8, 896),
  (yX8_count, prog_1_method_33_code, 2, (some .int), 8, 900),
  (yX8_digest, prog_1_method_34_code, 4, (some .long), 8, 905),
  (yX8_mix, prog_1_method_46_code, 4, (some .long), 8, 910),
  (yX7_mixStreets, prog_9_method_13_code, 4, (some .long), 7, 915),
  (yX7_mixLanes, prog_9_method_14_code, 5, (some .long), 7, 920),
  (yX8_mixAll, prog_1_method_47_code, 4, (some .long), 8, 924),
  (yX7_mixDishes, prog_9_method_15_code, 4, (some .long), 7, 928),
  (yX5_mixNotes, prog_7_method_8_code, 4, (some .long), 5, 932),
  (yX9_init, prog_11_method_1_code, 1, none, 9, 938),
  (yX9_first, prog_11_method_9_code, 2, none, 9, 942),
  (yX9_town, prog_11_method_13_code, 2, (some .int), 9, 1008),
  (yX9_street, prog_11_method_14_code, 4, (some .int), 9, 1012),
  (yX9_in, prog_11_method_2_code, 6, (some .boolean), 9, 1016),
  (yX9_bad, prog_11_method_5_code, 1, (some .int), 9, 1021),
  (yX9_full, prog_11_method_8_code, 1, (some .int), 9, 1025),
  (yX9_addStreet, prog_11_method_10_code, 5, none, 9, 1028),
  (yX9_lane, prog_11_method_17_code, 3, (some .int), 9, 1032),
  (yX9_isStreet, prog_11_method_15_code, 2, (some .boolean), 9, 1036),
  (yX9_no, prog_11_method_7_code, 1, (some .int), 9, 1040),
  (yX9_addLane, prog_11_method_12_code, 3, none, 9, 1043),
  (yX9_gate, prog_11_method_18_code, 4, (some .int), 9, 1047),
  (yX9_wind, prog_11_method_19_code, 4, (some .int), 9, 1052),
  (yX9_dish, prog_11_method_20_code, 4, (some .int), 9, 1056),
  (yX9_addDish, prog_11_method_11_code, 5, none, 9, 1060),
  (yX9_type, prog_11_method_21_code, 2, (some .int), 9, 1064),
  (yX9_clear, prog_11_method_22_code, 2, (some .int), 9, 1069),
  (yX9_read, prog_11_method_32_code, 5, (some .int), 9, 1073),
  (yX9_word, prog_11_method_29_code, 7, (some .int), 9, 1077),
  (yX9_skip, prog_11_method_24_code, 1, none, 9, 1081),
  (yX9_byteAt, prog_11_method_23_code, 2, (some .int), 9, 1085),
  (yX9_letterOf, prog_11_method_28_code, 8, (some .int), 9, 1090),
  (yX9_fails, prog_11_method_25_code, 2, (some .boolean), 9, 1101),
  (yX9_item, prog_11_method_31_code, 2, (some .boolean), 9, 1105),
  (yX9_ends, prog_11_method_27_code, 1, (some .boolean), 9, 1109),
  (yX9_number, prog_11_method_26_code, 7, (some .boolean), 9, 1113),
  (yX9_laneItem, prog_11_method_30_code, 2, (some .boolean), 9, 1120),
  (yX9_day, prog_11_method_40_code, 3, (some .int), 9, 1124),
  (yX9_isDish, prog_11_method_16_code, 2, (some .boolean), 9, 1128),
  (yX9_past, prog_11_method_39_code, 6, none, 9, 1131),
  (yX9_goDay, prog_11_method_38_code, 6, (some .int), 9, 1135),
  (yX9_opening, prog_11_method_37_code, 7, (some .int), 9, 1139),
  (yX9_windOf, prog_11_method_34_code, 2, (some .int), 9, 1143),
  (yX9_spread, prog_11_method_33_code, 11, none, 9, 1147),
  (yX9_movedIn, prog_11_method_36_code, 6, (some .int), 9, 1151),
  (yX9_movedBy, prog_11_method_35_code, 9, (some .int), 9, 1154),
  (yX9_has, prog_11_method_3_code, 2, (some .boolean), 9, 1157),
  (yX9_undo, prog_11_method_41_code, 1, (some .int), 9, 1161),
  (yX9_of, prog_11_method_42_code, 3, (some .int), 9, 1165),
  (yX9_bad10, prog_11_method_6_code, 1, (some .int), 9, 1169),
  (yX9_smells, prog_11_method_43_code, 4, (some .int), 9, 1173),
  (yX9_moved, prog_11_method_44_code, 3, (some .int), 9, 1177),
  (yX9_falls, prog_11_method_45_code, 4, (some .int), 9, 1181),
  (yX9_order, prog_11_method_48_code, 9, (some .int), 9, 1185),
  (yX9_butterOf, prog_11_method_47_code, 8, (some .int), 9, 1189),
  (yX9_dishIn, prog_11_method_46_code, 6, (some .int), 9, 1193),
  (yX9_bits, prog_11_method_4_code, 3, (some .int), 9, 1196),
  (yX9_never, prog_11_method_51_code, 5, (some .int), 9, 1200),
  (yX9_opensIn, prog_11_method_50_code, 6, (some .boolean), 9, 1204),
  (yX9_opensOn, prog_11_method_49_code, 4, (some .boolean), 9, 1208),
  (yX9_least, prog_11_method_52_code, 8, (some .int), 9, 1212),
  (yX9_answer, prog_11_method_53_code, 8, (some .int), 9, 1216),
  (yX9_game, prog_11_method_54_code, 7, (some .int), 9, 1220),
  (yX9_note, prog_11_method_55_code, 7, (some .int), 9, 1224),
  (yX9_forget, prog_11_method_56_code, 2, (some .int), 9, 1230),
  (yX9_craved, prog_11_method_58_code, 2, (some .int), 9, 1234),
  (yX9_cravings, prog_11_method_57_code, 8, (some .int), 9, 1238),
  (yX9_is, prog_11_method_59_code, 4, (some .int), 9, 1242),
  (yX9_tryNext, prog_11_method_60_code, 11, (some .int), 9, 1246),
  (yX9_rain, prog_11_method_61_code, 11, (some .int), 9, 1250),
  (yX9_sieges, prog_11_method_63_code, 6, (some .int), 9, 1256),
  (yX9_openMany, prog_11_method_62_code, 3, (some .int), 9, 1266),
  (yX9_part, prog_11_method_64_code, 2, (some .long), 9, 1270),
  (yX9_image, prog_11_method_65_code, 3, (some .int), 9, 1274),
  (yX9_from, prog_11_method_66_code, 3, (some .int), 9, 1278),
  (yX9_status, prog_11_method_67_code, 2, (some .int), 9, 1282),
  (yX9_count, prog_11_method_69_code, 2, (some .int), 9, 1286),
  (yX9_countOf, prog_11_method_68_code, 2, (some .int), 9, 1291),
  (yX9_digest, prog_11_method_70_code, 4, (some .long), 9, 1295)]
def am_m (k : Nat) : am_M := am_ms.getD k (⟨"", "", ""⟩, ⟨#[]⟩, 0, none, 0, 0)
def am_y (k : Nat) : MethodName := (am_m k).1
def am_code (k : Nat) : ByteArray := (am_m k).2.1
def am_mx (k : Nat) : Nat := (am_m k).2.2.1
def am_rt (k : Nat) : Option FieldType := (am_m k).2.2.2.1
def am_kl (k : Nat) : Nat := (am_m k).2.2.2.2.1
def am_N : Nat := 203
/-- the classes by number: name, the place of its word initialized -/
def am_cs : List (String × Nat) := [(RX0, 63), (RX1, 62), (RX2, 61), (RX3, 65), (RX4, 73), (RX5, 60), (RX6, 64), (RX7, 59), (RX8, 58), (RX9, 66), ("java/lang/Integer", 74), ("java/lang/Math", 72)]
def am_R (c : Nat) : String := (am_cs.getD c ("", 0)).1
/-- calls: class, entry, kind (0 static, 1 virtual, 2 <init>, 3 <init> of a nest mate, 4 static of a nest mate), method, arguments, places of the words -/
abbrev am_I : Type := Nat × Nat × Nat × Nat × Nat × Nat × Nat × Nat
def am_is : List am_I := [
  (0, 18, 1, 57, 5, 610, 611, 612),
  (0, 22, 1, 53, 0, 614, 596, 597),
  (0, 34, 4, 12, 3, 615, 372, 0),
  (0, 44, 0, 58, 2, 616, 617, 0),
  (0, 50, 1, 59, 1, 619, 621, 17),
  (0, 57, 4, 19, 2, 623, 399, 0),
  (1, 17, 3, 7, 0, 234, 235, 0),
  (1, 24, 3, 3, 0, 247, 120, 0),
  (1, 45, 1, 53, 0, 595, 596, 597),
  (1, 52, 1, 54, 1, 599, 600, 601),
  (1, 58, 1, 56, 3, 606, 607, 608),
  (1, 65, 1, 60, 2, 624, 626, 18),
  (1, 72, 4, 19, 2, 647, 399, 0),
  (1, 82, 1, 66, 3, 648, 649, 650),
  (1, 86, 1, 61, 1, 628, 629, 630),
  (1, 90, 1, 62, 3, 632, 634, 19),
  (1, 94, 1, 63, 2, 636, 637, 638),
  (1, 97, 1, 64, 5, 640, 641, 642),
  (1, 104, 1, 77, 2, 693, 695, 21),
  (1, 114, 1, 80, 3, 705, 707, 22),
  (1, 118, 1, 81, 2, 709, 711, 23),
  (1, 121, 1, 82, 2, 713, 715, 24),
  (1, 139, 1, 85, 0, 726, 727, 728),
  (1, 143, 1, 86, 2, 731, 733, 25),
  (1, 146, 1, 87, 2, 735, 737, 26),
  (1, 149, 1, 90, 1, 747, 749, 27),
  (1, 152, 1, 91, 1, 751, 753, 28),
  (1, 155, 0, 92, 1, 755, 756, 0),
  (1, 160, 1, 57, 5, 773, 611, 612),
  (1, 164, 1, 95, 3, 769, 770, 771),
  (1, 168, 0, 98, 2, 783, 784, 0),
  (1, 171, 1, 99, 2, 786, 788, 29),
  (1, 174, 1, 48, 1, 866, 574, 575),
  (1, 188, 1, 52, 2, 872, 592, 593),
  (1, 191, 1, 119, 1, 873, 874, 875),
  (2, 31, 1, 61, 1, 877, 629, 630),
  (2, 35, 1, 63, 2, 652, 637, 638),
  (3, 16, 0, 114, 2, 848, 849, 0),
  (3, 20, 0, 115, 2, 851, 852, 0),
  (3, 23, 0, 116, 2, 854, 855, 0),
  (4, 11, 0, 65, 6, 820, 645, 0),
  (5, 37, 1, 106, 3, 813, 815, 30),
  (5, 41, 0, 107, 5, 817, 818, 0),
  (5, 47, 1, 105, 2, 833, 810, 811),
  (5, 51, 0, 111, 5, 834, 835, 0),
  (5, 55, 0, 92, 1, 838, 756, 0),
  (5, 61, 0, 58, 2, 839, 617, 0),
  (5, 66, 4, 19, 2, 837, 399, 0),
  (5, 70, 4, 127, 2, 933, 909, 0),
  (6, 11, 2, 1, 0, 285, 86, 0),
  (6, 26, 1, 4, 0, 448, 149, 150),
  (6, 38, 1, 32, 0, 449, 451, 4),
  (6, 47, 1, 35, 0, 459, 461, 5),
  (6, 50, 1, 36, 0, 463, 465, 6),
  (6, 54, 1, 38, 1, 525, 527, 8),
  (6, 58, 1, 39, 0, 529, 531, 9),
  (6, 61, 1, 42, 0, 543, 545, 12),
  (6, 64, 1, 43, 0, 548, 550, 13),
  (6, 67, 1, 44, 0, 552, 554, 14),
  (6, 70, 1, 45, 0, 556, 558, 15),
  (6, 73, 1, 41, 0, 538, 540, 11),
  (6, 83, 1, 40, 2, 533, 535, 10),
  (6, 87, 1, 15, 3, 542, 383, 384),
  (6, 91, 1, 21, 2, 547, 406, 407),
  (6, 101, 1, 26, 3, 560, 425, 426),
  (6, 107, 4, 12, 3, 537, 372, 0),
  (6, 111, 0, 33, 1, 453, 454, 0),
  (6, 114, 0, 34, 1, 456, 457, 0),
  (6, 119, 1, 37, 1, 468, 470, 7),
  (7, 41, 3, 2, 0, 91, 92, 0),
  (7, 48, 3, 3, 0, 119, 120, 0),
  (7, 57, 1, 4, 0, 148, 149, 150),
  (7, 73, 1, 5, 0, 152, 153, 154),
  (7, 80, 1, 47, 1, 568, 569, 570),
  (7, 84, 1, 48, 1, 573, 574, 575),
  (7, 87, 4, 19, 2, 398, 399, 0),
  (7, 91, 0, 55, 2, 603, 604, 0),
  (7, 97, 0, 65, 6, 644, 645, 0),
  (7, 103, 1, 61, 1, 730, 629, 630),
  (7, 107, 4, 127, 2, 916, 909, 0),
  (7, 120, 1, 18, 2, 921, 395, 396),
  (8, 9, 2, 1, 0, 85, 86, 0),
  (8, 18, 2, 6, 1, 228, 229, 0),
  (8, 27, 3, 8, 0, 280, 281, 0),
  (8, 34, 3, 9, 0, 319, 320, 0),
  (8, 51, 1, 4, 0, 366, 149, 150),
  (8, 54, 0, 12, 3, 371, 372, 0),
  (8, 58, 1, 13, 0, 374, 376, 0),
  (8, 62, 1, 14, 0, 378, 380, 1),
  (8, 65, 1, 15, 3, 382, 383, 384),
  (8, 69, 1, 17, 1, 390, 392, 2),
  (8, 73, 1, 18, 2, 394, 395, 396),
  (8, 77, 1, 20, 0, 401, 403, 3),
  (8, 80, 1, 21, 2, 405, 406, 407),
  (8, 84, 0, 23, 1, 413, 414, 0),
  (8, 97, 1, 26, 3, 424, 425, 426),
  (8, 103, 1, 28, 1, 432, 433, 434),
  (8, 107, 1, 31, 0, 444, 445, 446),
  (8, 113, 1, 46, 1, 561, 562, 563),
  (8, 119, 1, 50, 1, 583, 585, 16),
  (8, 122, 1, 51, 0, 587, 588, 589),
  (8, 129, 1, 52, 2, 591, 592, 593),
  (8, 136, 1, 68, 0, 657, 658, 659),
  (8, 144, 1, 70, 0, 665, 667, 20),
  (8, 165, 1, 72, 3, 673, 674, 675),
  (8, 168, 1, 74, 2, 681, 682, 683),
  (8, 172, 1, 76, 2, 689, 690, 691),
  (8, 175, 1, 79, 1, 701, 702, 703),
  (8, 184, 1, 84, 0, 722, 723, 724),
  (8, 187, 1, 89, 0, 743, 744, 745),
  (8, 190, 1, 94, 2, 765, 766, 767),
  (8, 193, 1, 95, 3, 774, 770, 771),
  (8, 196, 1, 97, 1, 779, 780, 781),
  (8, 199, 0, 101, 2, 794, 795, 0),
  (8, 211, 1, 102, 5, 797, 798, 799),
  (8, 215, 1, 105, 2, 809, 810, 811),
  (8, 218, 1, 110, 4, 829, 830, 831),
  (8, 222, 1, 113, 3, 844, 845, 846),
  (8, 227, 1, 118, 2, 862, 863, 864),
  (8, 237, 0, 122, 1, 886, 887, 0),
  (8, 249, 1, 119, 1, 901, 874, 875),
  (8, 254, 1, 125, 1, 907, 898, 899),
  (8, 257, 0, 127, 2, 908, 909, 0),
  (8, 261, 1, 128, 1, 912, 913, 914),
  (8, 265, 1, 129, 1, 917, 918, 919),
  (8, 268, 0, 130, 2, 922, 923, 0),
  (8, 272, 1, 131, 1, 925, 926, 927),
  (8, 275, 1, 132, 1, 929, 930, 931),
  (9, 51, 0, 134, 1, 940, 941, 0),
  (9, 67, 0, 137, 3, 1014, 1015, 0),
  (9, 73, 1, 138, 0, 1018, 1020, 31),
  (9, 77, 1, 139, 0, 1022, 1024, 32),
  (9, 80, 0, 140, 4, 1026, 1027, 0),
  (9, 84, 1, 142, 1, 1033, 1035, 33),
  (9, 88, 1, 143, 0, 1037, 1039, 34),
  (9, 91, 0, 144, 3, 1041, 1042, 0),
  (9, 99, 0, 148, 4, 1058, 1059, 0),
  (9, 110, 1, 154, 1, 1082, 1084, 37),
  (9, 117, 1, 153, 0, 1078, 1080, 36),
  (9, 126, 1, 156, 1, 1098, 1100, 38),
  (9, 147, 0, 155, 2, 1088, 1089, 0),
  (9, 151, 1, 159, 3, 1110, 1112, 41),
  (9, 155, 1, 158, 0, 1106, 1108, 40),
  (9, 159, 1, 160, 0, 1117, 1119, 42),
  (9, 162, 1, 152, 0, 1074, 1076, 35),
  (9, 165, 1, 157, 1, 1102, 1104, 39),
  (9, 168, 0, 169, 6, 1152, 1153, 0),
  (9, 172, 1, 162, 1, 1125, 1127, 43),
  (9, 175, 1, 166, 1, 1140, 1142, 46),
  (9, 178, 1, 167, 4, 1144, 1146, 47),
  (9, 182, 1, 168, 4, 1148, 1150, 48),
  (9, 186, 1, 165, 3, 1136, 1138, 45),
  (9, 190, 0, 170, 2, 1155, 1156, 0),
  (9, 194, 0, 163, 4, 1129, 1130, 0),
  (9, 198, 1, 164, 1, 1132, 1134, 44),
  (9, 201, 1, 173, 0, 1166, 1168, 49),
  (9, 204, 1, 179, 3, 1190, 1192, 51),
  (9, 207, 0, 180, 1, 1194, 1195, 0),
  (9, 210, 1, 178, 3, 1186, 1188, 50),
  (9, 213, 1, 183, 3, 1205, 1207, 53),
  (9, 216, 1, 182, 3, 1201, 1203, 52),
  (9, 223, 1, 190, 2, 1235, 1237, 54),
  (9, 245, 1, 195, 0, 1263, 1265, 55),
  (9, 250, 1, 201, 1, 1288, 1290, 56)]
/-- fields: class, entry, kind of object, place, sort (0 int, 1 long, 2 reference), final, place of the word -/
abbrev am_F : Type := Nat × Nat × Nat × Nat × Nat × Nat × Nat
def am_fs : List am_F := [
  (0, 9, 0, 0, 2, 1, 238),
  (0, 15, 0, 1, 2, 1, 240),
  (0, 25, 6, 5, 2, 1, 171),
  (0, 30, 6, 0, 0, 0, 159),
  (0, 38, 6, 2, 2, 1, 164),
  (0, 41, 6, 9, 2, 1, 184),
  (0, 54, 6, 4, 2, 1, 169),
  (1, 9, 1, 0, 2, 1, 248),
  (1, 18, 1, 3, 2, 1, 253),
  (1, 25, 1, 4, 2, 1, 254),
  (1, 29, 1, 5, 2, 1, 255),
  (1, 32, 1, 6, 2, 1, 256),
  (1, 35, 1, 7, 2, 1, 257),
  (1, 38, 1, 8, 2, 1, 258),
  (1, 41, 1, 2, 2, 1, 252),
  (1, 48, 2, 0, 0, 0, 124),
  (1, 62, 6, 8, 2, 1, 182),
  (1, 69, 6, 0, 0, 0, 158),
  (1, 76, 2, 1, 2, 1, 127),
  (1, 79, 0, 0, 2, 1, 239),
  (1, 101, 6, 12, 2, 1, 190),
  (1, 108, 1, 1, 0, 0, 250),
  (1, 111, 6, 7, 0, 0, 180),
  (1, 124, 6, 10, 2, 1, 186),
  (1, 133, 2, 2, 2, 1, 131),
  (1, 136, 2, 3, 2, 1, 135),
  (2, 9, 2, 1, 2, 1, 126),
  (2, 15, 2, 2, 2, 1, 130),
  (2, 18, 2, 3, 2, 1, 134),
  (2, 21, 2, 0, 0, 0, 123),
  (3, 7, 3, 0, 1, 0, 323),
  (3, 13, 3, 1, 1, 0, 325),
  (5, 9, 4, 1, 2, 1, 98),
  (5, 15, 4, 2, 2, 1, 99),
  (5, 18, 4, 3, 2, 1, 100),
  (5, 21, 4, 4, 2, 1, 101),
  (5, 24, 4, 5, 2, 1, 102),
  (5, 27, 4, 0, 0, 0, 95),
  (6, 12, 5, 2, 2, 1, 290),
  (6, 18, 5, 3, 2, 1, 292),
  (6, 22, 5, 0, 0, 0, 286),
  (6, 29, 5, 1, 0, 0, 288),
  (6, 32, 5, 5, 0, 0, 294),
  (6, 35, 5, 4, 0, 0, 293),
  (6, 41, 5, 7, 0, 0, 296),
  (6, 44, 5, 6, 0, 0, 295),
  (6, 77, 6, 0, 0, 0, 160),
  (6, 80, 6, 7, 0, 0, 178),
  (6, 95, 6, 5, 2, 1, 173),
  (6, 98, 6, 6, 2, 1, 176),
  (6, 104, 5, 8, 0, 0, 297),
  (7, 9, 6, 1, 2, 1, 161),
  (7, 15, 6, 2, 2, 1, 163),
  (7, 18, 6, 3, 2, 1, 166),
  (7, 21, 6, 4, 2, 1, 168),
  (7, 24, 6, 5, 2, 1, 170),
  (7, 27, 6, 6, 2, 1, 174),
  (7, 30, 6, 8, 2, 1, 181),
  (7, 33, 6, 9, 2, 1, 183),
  (7, 36, 6, 10, 2, 1, 185),
  (7, 42, 6, 11, 2, 1, 187),
  (7, 49, 6, 12, 2, 1, 189),
  (7, 53, 6, 13, 2, 1, 192),
  (7, 60, 6, 0, 0, 0, 156),
  (7, 64, 6, 7, 0, 0, 177),
  (7, 67, 4, 0, 0, 0, 96),
  (7, 70, 6, 14, 0, 0, 193),
  (7, 111, 2, 1, 2, 1, 128),
  (7, 114, 2, 2, 2, 1, 132),
  (7, 117, 2, 3, 2, 1, 136),
  (8, 10, 7, 0, 2, 1, 333),
  (8, 21, 7, 1, 2, 1, 334),
  (8, 28, 7, 2, 2, 1, 335),
  (8, 35, 7, 3, 2, 1, 336),
  (8, 39, 7, 4, 2, 1, 337),
  (8, 43, 7, 5, 2, 1, 338),
  (8, 47, 6, 0, 0, 0, 157),
  (8, 87, 6, 5, 2, 1, 172),
  (8, 91, 6, 6, 2, 1, 175),
  (8, 94, 6, 7, 0, 0, 179),
  (8, 100, 5, 0, 0, 0, 287),
  (8, 110, 5, 2, 2, 1, 291),
  (8, 116, 5, 1, 0, 0, 289),
  (8, 125, 6, 12, 2, 1, 191),
  (8, 133, 6, 14, 0, 0, 194),
  (8, 139, 2, 0, 0, 0, 125),
  (8, 147, 6, 1, 2, 1, 162),
  (8, 150, 6, 2, 2, 1, 165),
  (8, 153, 6, 3, 2, 1, 167),
  (8, 156, 2, 1, 2, 1, 129),
  (8, 159, 2, 2, 2, 1, 133),
  (8, 162, 2, 3, 2, 1, 137),
  (8, 178, 1, 1, 0, 0, 251),
  (8, 181, 1, 0, 2, 1, 249),
  (8, 202, 6, 11, 2, 1, 188),
  (8, 206, 4, 0, 0, 0, 97),
  (8, 230, 3, 0, 1, 0, 324),
  (8, 234, 3, 1, 1, 0, 326),
  (8, 240, 7, 6, 0, 0, 339),
  (8, 243, 7, 7, 0, 0, 340),
  (8, 246, 7, 8, 0, 0, 341),
  (9, 7, 8, 0, 2, 1, 943),
  (9, 13, 8, 1, 2, 1, 944),
  (9, 16, 8, 2, 2, 1, 945),
  (9, 19, 8, 3, 2, 1, 946),
  (9, 22, 8, 4, 2, 1, 947),
  (9, 25, 8, 13, 2, 1, 956),
  (9, 28, 8, 14, 2, 1, 957),
  (9, 31, 8, 15, 2, 1, 958),
  (9, 34, 8, 16, 2, 1, 959),
  (9, 37, 8, 17, 2, 1, 960),
  (9, 40, 8, 18, 2, 1, 961),
  (9, 43, 8, 19, 2, 1, 962),
  (9, 47, 8, 7, 1, 0, 950),
  (9, 55, 8, 8, 0, 0, 951),
  (9, 59, 8, 9, 0, 0, 952),
  (9, 62, 8, 10, 0, 0, 953),
  (9, 104, 8, 5, 0, 0, 948),
  (9, 107, 8, 11, 0, 0, 954),
  (9, 114, 8, 12, 0, 0, 955),
  (9, 230, 8, 6, 1, 0, 949)]
/-- kinds of objects: the class number, name, fields, how many, types, the places of their words, the place of instantiable -/
abbrev am_K : Type := Nat × String × u_T × Nat × (Nat → FieldType) × List Nat × Nat
def am_ks : List am_K := [
  (0, RX0, TX0, 2, tyX0, [241, 243], 233),
  (1, RX1, TX1, 9, tyX1, [259, 261, 263, 265, 267, 269, 271, 273, 275], 227),
  (2, RX2, TX2, 4, tyX2, [138, 140, 142, 144], 118),
  (3, RX3, TX3, 2, tyX3, [327, 329], 318),
  (5, RX5, TX5, 6, tyX5, [103, 105, 107, 109, 111, 113], 90),
  (6, RX6, TX6, 9, tyX6, [298, 300, 302, 304, 306, 308, 310, 312, 314], 279),
  (7, RX7, TX7, 15, tyX7, [195, 197, 199, 201, 203, 205, 207, 209, 211, 213, 215, 217, 219, 221, 223], 84),
  (8, RX8, TX8, 9, tyX8, [342, 344, 346, 348, 350, 352, 354, 356, 358], 76),
  (9, RX9, TX9, 20, tyX9, [963, 965, 967, 969, 971, 973, 975, 977, 979, 981, 983, 985, 987, 989, 991, 993, 995, 997, 999, 1001], 935)]
/-- classes named: class, entry, kind of object, place of the word -/
def am_ns : List (Nat × Nat × Nat × Nat) := [(1, 15, 0, 232), (1, 22, 2, 246), (6, 9, 6, 284), (7, 39, 4, 89), (7, 46, 2, 117), (8, 7, 6, 83), (8, 16, 1, 226), (8, 25, 5, 278), (8, 32, 3, 317)]
def am_ci : List (Nat × Nat × Int32 × Nat) := [(10, 265, 1431655765, 758), (10, 266, 858993459, 759), (10, 267, 252645135, 760), (8, 226, 999999, 861)]
def am_cl : List (Nat × Nat × Int64 × Nat) := [(1, 178, 1103515245, 867), (1, 180, 12345, 868), (1, 182, 2147483648, 869), (1, 184, 65536, 870), (1, 186, 7, 871), (8, 252, 1069, 906), (8, 278, 31, 911), (9, 65, 5, 1013), (9, 71, 9, 1017), (9, 95, 3, 1048), (9, 97, 30, 1057), (9, 102, 127, 1065), (9, 143, 97, 1086), (9, 145, 122, 1087), (9, 129, 20152314, 1091), (9, 131, 192018050520, 1092), (9, 133, 12011405, 1093), (9, 135, 7012005, 1094), (9, 137, 23091404, 1095), (9, 139, 4091908, 1096), (9, 141, 100, 1097), (9, 120, 48, 1114), (9, 122, 57, 1115), (9, 124, 2, 1116), (9, 219, 60, 1225), (9, 221, 99, 1226), (9, 226, 10, 1251), (9, 228, 8, 1252), (9, 233, 999999, 1257), (9, 235, 1103515245, 1258), (9, 237, 12345, 1259), (9, 239, 2147483648, 1260), (9, 241, 65536, 1261), (9, 243, 7, 1262), (9, 248, 6, 1287), (9, 253, 1069, 1296), (9, 255, 31, 1297)]
def am_ct : List (Nat × Nat × Nat × String × Nat) := [(6, 117, 0, "town", 467), (6, 123, 1, "street", 520), (6, 125, 2, "lane", 521), (6, 127, 3, "gate", 522), (6, 129, 4, "wind", 523), (6, 131, 5, "dish", 524)]
def am_ac : List (Nat × Nat × Nat) := [(7, 74, 565), (5, 31, 572), (2, 25, 577), (1, 127, 717)]
def am_oi : List (Nat × Nat × Nat) := [(8, 1, 80), (7, 3, 88), (5, 3, 94), (2, 3, 122), (1, 3, 231), (0, 3, 237), (6, 3, 283), (3, 1, 322), (9, 1, 939)]
def am_ex : List (Nat × Nat × Nat × Nat) := [(6, 133, 0, 472), (6, 137, 1, 482)]
def am_pcopy : Nat × Nat × Nat := (567, 566, 71)
def am_pobj : Nat × Nat := (81, 82)
def am_parr : List Nat := [116, 1004, 361]
def am_povr : List Nat := [147, 332] -- ['Jvm.ClassFile.FieldType.object "KitchenSiege$Days"', 'Jvm.ClassFile.FieldType.object "KitchenSiege$Town"']
/-! what the tables' words say of the tables above: by the kernel -/
def am_lk {α : Type} : List (Nat × Nat × α) → Nat → Nat → Option α
  | [], _, _ => none
  | (a, b, x) :: t, c, i => if a = c ∧ b = i then some x else am_lk t c i
theorem am_lk_mem {α : Type} {c i : Nat} {x : α} : ∀ {l : List (Nat × Nat × α)}, am_lk l c i = some x → (c, i, x) ∈ l
  | [], h => by cases h
  | (a, b, y) :: t, h => by
    unfold am_lk at h
    split at h
    next e => obtain ⟨rfl, rfl⟩ := e; cases h; exact List.mem_cons_self
    next => exact List.mem_cons_of_mem _ (am_lk_mem h)
def am_wd (p : Nat) : Option Cond := lw_tbl[p]?
def am_ini (c : Nat) : Nat := (am_cs.getD c ("", 0)).2
def am_okM (k : Nat) : Bool :=
  decide ((am_y k).cls = am_R (am_kl k)) && decide (am_wd (am_ini (am_kl k)) = some (.initialized (am_R (am_kl k)))) && (plainName (am_y k).cls || decide (k = 55 ∨ k = 58))
    && decide ((am_y k).cls ≠ "java/lang/invoke/MethodHandle") && decide ((am_y k).cls ≠ "java/lang/invoke/VarHandle") && decide (am_rt k = none ∨ am_rt k = some .int ∨ am_rt k = some .long ∨ am_rt k = some .boolean) && decide (am_mx k ≤ 16) && decide (0 < am_mx k)
theorem am_okM_all : (List.range am_N).all am_okM = true := by decide +kernel
theorem am_pF : (NativeRow.find? natives "java/lang/Math" "floorMod" "(II)I").isNone = true := by decide +kernel
theorem am_pX : (NativeRow.find? natives "java/lang/Math" "max" "(II)I").isNone = true := by decide +kernel
theorem am_pl {k : Nat} (h : (plainName (am_y k).cls || decide (k = 55 ∨ k = 58)) = true) : plainFor (am_y k) = true := by
  rcases Bool.or_eq_true _ _ |>.mp h with h | h
  · exact plainFor_of_name h
  · rcases of_decide_eq_true h with rfl | rfl
    · have e : am_y 55 = ⟨"java/lang/Math", "floorMod", "(II)I"⟩ := by decide +kernel
      rw [e]; unfold plainFor; rw [Bool.or_eq_true]; exact Or.inr am_pF
    · have e : am_y 58 = ⟨"java/lang/Math", "max", "(II)I"⟩ := by decide +kernel
      rw [e]; unfold plainFor; rw [Bool.or_eq_true]; exact Or.inr am_pX
def am_okI (q : am_I) : Bool :=
  (if q.2.2.1 < 3 then decide (am_wd q.2.2.2.2.2.1 = some (.methodLink (am_R q.1) q.2.1 (am_y q.2.2.2.1))) else decide (am_wd q.2.2.2.2.2.1 = some (.methodLinkNest (am_R q.1) q.2.1 (am_y q.2.2.2.1) RX8)))
    && (if q.2.2.1 = 0 ∨ q.2.2.1 = 4 then decide (am_wd q.2.2.2.2.2.2.1 = some (.static (am_y q.2.2.2.1))) else decide (am_wd q.2.2.2.2.2.2.1 = some (.instanceMethod (am_y q.2.2.2.1))))
    && (if q.2.2.1 = 1 then decide (am_wd q.2.2.2.2.2.2.2 = some (.selects (am_y q.2.2.2.1).cls (am_y q.2.2.2.1) (am_y q.2.2.2.1))) else true)
    && (if q.2.2.1 = 2 ∨ q.2.2.1 = 3 then decide ((am_y q.2.2.2.1).name = "<init>") && decide (am_rt q.2.2.2.1 = none) else true)
    && decide (q.2.2.2.1 < am_N) && decide ((parseMethodDescriptor (am_y q.2.2.2.1).desc).map (fun d => d.parameters.length) = some q.2.2.2.2.1) && decide (q.2.2.1 ≤ 4)
theorem am_okI_all : am_is.all am_okI = true := by decide +kernel
abbrev am_K0 : am_K := (0, "", fun _ => ("", "", "", false), 0, fun _ => .int, [], 0)
def am_k (t : Nat) : am_K := am_ks.getD t am_K0
def am_okF (q : am_F) : Bool :=
  decide (q.2.2.2.1 < (am_k q.2.2.1).2.2.2.1) && decide (((am_k q.2.2.1).2.2.1 q.2.2.2.1).1 = (am_k q.2.2.1).2.1) && decide (am_wd q.2.2.2.2.2.2 = some (.fieldLink (am_R q.1) q.2.1 (am_k q.2.2.1).2.1 ((am_k q.2.2.1).2.2.1 q.2.2.2.1).2.1 ((am_k q.2.2.1).2.2.1 q.2.2.2.1).2.2.1)) && decide (((am_k q.2.2.1).2.2.1 q.2.2.2.1).2.2.2 = decide (q.2.2.2.2.2.1 = 1))
    && (if q.2.2.2.2.1 = 0 then decide (parseFieldDescriptor ((am_k q.2.2.1).2.2.1 q.2.2.2.1).2.2.1 = some .int) else if q.2.2.2.2.1 = 1 then decide (parseFieldDescriptor ((am_k q.2.2.1).2.2.1 q.2.2.2.1).2.2.1 = some .long) else match parseFieldDescriptor ((am_k q.2.2.1).2.2.1 q.2.2.2.1).2.2.1 with
        | some (.object _) => true
        | some (.array _) => true
        | _ => false) && decide (q.2.2.1 < 9)
theorem am_okF_all : am_fs.all am_okF = true := by decide +kernel
def am_okK (t : Nat) : Bool :=
  decide ((am_k t).2.1 = am_R (am_k t).1) && decide ((am_k t).2.2.2.1 ≤ (am_k t).2.2.2.2.2.1.length) && (List.range (am_k t).2.2.2.1).all (fun j => decide (am_wd ((am_k t).2.2.2.2.2.1.getD j 0) = some (u_lay (am_k t).2.1 (am_k t).2.2.1 j))) && decide (am_wd (am_k t).2.2.2.2.2.2 = some (.instantiable (am_k t).2.1 (am_k t).2.2.2.1)) && decide (am_wd (am_ini (am_k t).1) = some (.initialized (am_k t).2.1)) && decide (t < 9)
theorem am_okK_all : (List.range 9).all am_okK = true := by decide +kernel
theorem am_ks_cl : ∀ t, t < 9 → vwCl[t]? = some ((am_k t).2.1, (am_k t).2.2.1, (am_k t).2.2.2.1) := by
  intro t h
  match t, h with
  | 0, _ => rfl
  | 1, _ => rfl
  | 2, _ => rfl
  | 3, _ => rfl
  | 4, _ => rfl
  | 5, _ => rfl
  | 6, _ => rfl
  | 7, _ => rfl
  | 8, _ => rfl
theorem am_ks_ty : ∀ t, t < 9 → ∀ j, j < (am_k t).2.2.2.1 → parseFieldDescriptor ((am_k t).2.2.1 j).2.2.1 = some ((am_k t).2.2.2.2.1 j) := by
  intro t h
  match t, h with
  | 0, _ => exact tyX0_ok
  | 1, _ => exact tyX1_ok
  | 2, _ => exact tyX2_ok
  | 3, _ => exact tyX3_ok
  | 4, _ => exact tyX5_ok
  | 5, _ => exact tyX6_ok
  | 6, _ => exact tyX7_ok
  | 7, _ => exact tyX8_ok
  | 8, _ => exact tyX9_ok
theorem am_ks_nm : ∀ t, t < 9 → ∀ a, a < (am_k t).2.2.2.1 → ∀ b, b < (am_k t).2.2.2.1 → a ≠ b → ((am_k t).2.2.1 a).2.1 ≠ ((am_k t).2.2.1 b).2.1 := by
  intro t h
  match t, h with
  | 0, _ => exact nmX0
  | 1, _ => exact nmX1
  | 2, _ => exact nmX2
  | 3, _ => exact nmX3
  | 4, _ => exact nmX5
  | 5, _ => exact nmX6
  | 6, _ => exact nmX7
  | 7, _ => exact nmX8
  | 8, _ => exact nmX9
theorem am_okn_all : (am_ns.all fun q => decide (am_wd q.2.2.2 = some (.classLink (am_R q.1) q.2.1 (am_k q.2.2.1).2.1)) && decide (q.2.2.1 < 9)) = true := by decide +kernel
theorem am_okci_all : (am_ci.all fun q => decide (am_wd q.2.2.2 = some (.constant (am_R q.1) q.2.1 q.2.2.1))) = true := by decide +kernel
theorem am_okcl_all : (am_cl.all fun q => decide (am_wd q.2.2.2 = some (.constantLong (am_R q.1) q.2.1 q.2.2.1))) = true := by decide +kernel
theorem am_okct_all : (am_ct.all fun q => decide (am_wd q.2.2.2.2 = some (.stringRef (am_R q.1) q.2.1 q.2.2.2.1))) = true := by decide +kernel
theorem am_okac_all : (am_ac.all fun q => decide (am_wd q.2.2 = some (.methodLink (am_R q.1) q.2.1 arraycopyName))) = true := by decide +kernel
theorem am_okoi_all : (am_oi.all fun q => decide (am_wd q.2.2 = some (.methodLink (am_R q.1) q.2.1 objectInit))) = true := by decide +kernel
theorem am_okp : am_wd 567 = some (.native arraycopyName) ∧ am_wd 566 = some (.static arraycopyName) ∧ am_wd 71 = some (.initialized "java/lang/System") ∧ am_wd 81 = some (.instanceMethod objectInit) ∧ am_wd 82 = some (.code objectInit ⟨#[0xb1]⟩ 1 none) ∧ am_wd 116 = some (.arrayClass .int) ∧ am_wd 1004 = some (.arrayClass .long) ∧ am_wd 361 = some (.arrayClass .boolean) ∧ am_wd 147 = some (.arrayOver (.object RX2)) ∧ am_wd 332 = some (.arrayOver (.object RX7)) := by decide +kernel
/-- the words that live through a call -/
def am_gw : List Cond := lw_tbl.filter goodWord
theorem am_gw_in {p : Nat} {w : Cond} (h : am_wd p = some w) (hg : goodWord w = true) : w ∈ am_gw := List.mem_filter.mpr ⟨List.mem_of_getElem? h, hg⟩
theorem am_gw_good {ws : List Cond} (h : ∀ w ∈ ws, w ∈ am_gw) : GoodIn am_gw ws := fun w hw => ⟨h w hw, good_of_word (List.mem_filter.mp (h w hw)).2⟩
