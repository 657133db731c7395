/-! the tables of the abstract machine: printed by wip/whole/gen01.py out of the task -/
abbrev am_C : Type := Nat × List Value
abbrev am_W : Type := List am_C
/-- a method: name, code, locals, type, the number of its class, the place of its code word -/
abbrev am_M : Type := MethodName × ByteArray × Nat × Option FieldType × Nat × Nat
def am_ms : List am_M := [
  (yX8_init, prog_1_method_1_code, 2, none, 8, 79),
  (yX7_init, prog_9_method_1_code, 2, none, 7, 87),
  (yX5_init, prog_7_method_1_code, 1, none, 5, 93),
  (yX2_init, prog_4_method_1_code, 1, none, 2, 121),
  (yX7_begin, prog_9_method_2_code, 2, none, 7, 151),
  (yX2_begin, prog_4_method_2_code, 2, none, 2, 155),
  (yX1_init, prog_3_method_1_code, 2, none, 1, 229),
  (yX0_init, prog_2_method_1_code, 1, none, 0, 235),
  (yX6_init, prog_8_method_1_code, 1, none, 6, 281),
  (yX3_init, prog_5_method_1_code, 1, none, 3, 320),
  (yX8_town, prog_1_method_2_code, 2, (some .int), 8, 364),
  (yX8_street, prog_1_method_3_code, 5, (some .int), 8, 369),
  (yX8_within, prog_1_method_44_code, 3, (some .boolean), 8, 372),
  (yX8_bad, prog_1_method_35_code, 1, (some .int), 8, 376),
  (yX7_addStreet, prog_9_method_4_code, 5, (some .int), 7, 380),
  (yX8_full, prog_1_method_38_code, 1, (some .int), 8, 384),
  (yX8_lane, prog_1_method_4_code, 3, (some .int), 8, 388),
  (yX8_isStreet, prog_1_method_39_code, 2, (some .boolean), 8, 392),
  (yX7_hasLane, prog_9_method_5_code, 3, (some .boolean), 7, 396),
  (yX8_has, prog_1_method_45_code, 2, (some .boolean), 8, 399),
  (yX8_no, prog_1_method_37_code, 1, (some .int), 8, 403),
  (yX7_addLane, prog_9_method_6_code, 3, none, 7, 407),
  (yX8_gate, prog_1_method_5_code, 4, (some .int), 8, 411),
  (yX8_isWind, prog_1_method_41_code, 1, (some .boolean), 8, 414),
  (yX8_wind, prog_1_method_6_code, 4, (some .int), 8, 418),
  (yX8_dish, prog_1_method_7_code, 5, (some .int), 8, 422),
  (yX7_addDish, prog_9_method_7_code, 5, (some .int), 7, 426),
  (yX8_type, prog_1_method_8_code, 3, (some .int), 8, 430),
  (yX6_put, prog_8_method_2_code, 2, (some .int), 6, 434),
  (yX8_clear, prog_1_method_9_code, 2, (some .int), 8, 438),
  (yX8_read, prog_1_method_10_code, 2, (some .int), 8, 442),
  (yX6_parse, prog_8_method_3_code, 2, (some .int), 6, 446),
  (yX6_take, prog_8_method_13_code, 1, none, 6, 451),
  (yX6_isLetter, prog_8_method_16_code, 1, (some .boolean), 6, 454),
  (yX6_isFigure, prog_8_method_17_code, 1, (some .boolean), 6, 457),
  (yX6_item, prog_8_method_4_code, 2, none, 6, 461),
  (yX6_word, prog_8_method_14_code, 1, (some .int), 6, 465),
  (yX6_spells, prog_8_method_15_code, 3, (some .boolean), 6, 470),
  (yX6_mayStand, prog_8_method_5_code, 2, (some .boolean), 6, 527),
  (yX6_streetItem, prog_8_method_6_code, 4, none, 6, 531),
  (yX6_number, prog_8_method_11_code, 3, (some .int), 6, 535),
  (yX6_endItem, prog_8_method_12_code, 1, (some .boolean), 6, 540),
  (yX6_laneItem, prog_8_method_7_code, 3, none, 6, 545),
  (yX6_gateItem, prog_8_method_8_code, 3, none, 6, 550),
  (yX6_windItem, prog_8_method_9_code, 3, none, 6, 554),
  (yX6_dishItem, prog_8_method_10_code, 4, none, 6, 558),
  (yX7_copy, prog_9_method_3_code, 3, none, 7, 563),
  (yX5_copy, prog_7_method_2_code, 2, none, 5, 570),
  (yX2_copy, prog_4_method_3_code, 2, none, 2, 575),
  (yX8_day, prog_1_method_11_code, 2, (some .int), 8, 581),
  (yX8_isDish, prog_1_method_40_code, 2, (some .boolean), 8, 585),
  (yX7_keepDays, prog_9_method_12_code, 3, none, 7, 589),
  (yX1_pass, prog_3_method_2_code, 6, (some .int), 1, 593),
  (yX0_empty, prog_2_method_2_code, 2, none, 0, 597),
  (yX7_windOn, prog_9_method_8_code, 2, (some .int), 7, 601),
  (⟨"java/lang/Math", "floorMod", "(II)I"⟩, prog_13_method_50_code, 3, (some .int), 11, 604),
  (yX0_fill, prog_2_method_3_code, 4, none, 0, 608),
  (yX0_fillWithSheets, prog_2_method_4_code, 9, none, 0, 612),
  (yX7_gateOf, prog_9_method_9_code, 3, (some .int), 7, 617),
  (⟨"java/lang/Math", "max", "(II)I"⟩, prog_13_method_65_code, 2, (some .int), 11, 620),
  (yX0_spread, prog_2_method_5_code, 7, (some .boolean), 0, 624),
  (yX1_openingBits, prog_3_method_3_code, 5, (some .int), 1, 629),
  (yX2_isShut, prog_4_method_4_code, 2, (some .boolean), 2, 633),
  (yX1_pullFromAir, prog_3_method_4_code, 5, (some .int), 1, 637),
  (yX2_ahead, prog_4_method_6_code, 3, (some .int), 2, 641),
  (yX7_pull, prog_9_method_10_code, 6, (some .int), 7, 645),
  (yX4_pull, prog_6_method_2_code, 9, (some .int), 4, 648),
  (yX2_smellAfter, prog_4_method_7_code, 4, none, 2, 653),
  (yX8_undo, prog_1_method_12_code, 1, (some .int), 8, 658),
  (yX7_goBack, prog_9_method_13_code, 1, (some .boolean), 7, 662),
  (yX8_of, prog_1_method_13_code, 3, (some .int), 8, 666),
  (yX8_badTen, prog_1_method_36_code, 1, (some .int), 8, 670),
  (yX8_smells, prog_1_method_14_code, 4, (some .int), 8, 674),
  (yX1_strength, prog_3_method_5_code, 4, (some .int), 1, 678),
  (yX8_moved, prog_1_method_15_code, 3, (some .int), 8, 682),
  (yX1_pullNow, prog_3_method_6_code, 3, (some .int), 1, 686),
  (yX8_falls, prog_1_method_16_code, 3, (some .int), 8, 690),
  (yX1_daysToFall, prog_3_method_7_code, 6, (some .int), 1, 694),
  (yX1_measure, prog_3_method_8_code, 4, none, 1, 698),
  (yX8_order, prog_1_method_17_code, 4, (some .int), 8, 702),
  (yX1_findRow, prog_3_method_9_code, 4, (some .int), 1, 706),
  (yX1_findRowOf, prog_3_method_10_code, 8, (some .boolean), 1, 710),
  (yX1_lay, prog_3_method_11_code, 7, (some .boolean), 1, 714),
  (yX1_opensLast, prog_3_method_12_code, 11, (some .boolean), 1, 718),
  (yX8_never, prog_1_method_18_code, 1, (some .int), 8, 723),
  (yX1_neverOpened, prog_3_method_13_code, 3, (some .int), 1, 727),
  (yX7_shutStreets, prog_9_method_11_code, 3, (some .int), 7, 731),
  (yX1_openedAlone, prog_3_method_14_code, 6, (some .int), 1, 736),
  (yX1_openedAloneOn, prog_3_method_15_code, 5, (some .int), 1, 740),
  (yX8_least, prog_1_method_19_code, 1, (some .int), 8, 744),
  (yX1_leastSet, prog_3_method_16_code, 7, (some .int), 1, 748),
  (yX1_openedBy, prog_3_method_17_code, 4, (some .int), 1, 752),
  (yX1_butterOf, prog_3_method_18_code, 4, (some .int), 1, 756),
  (⟨"java/lang/Integer", "bitCount", "(I)I"⟩, prog_12_method_49_code, 1, (some .int), 10, 759),
  (yX8_answer, prog_1_method_20_code, 5, (some .int), 8, 766),
  (yX1_bestSheets, prog_3_method_20_code, 7, (some .int), 1, 770),
  (yX1_opening, prog_3_method_19_code, 4, (some .int), 1, 774),
  (yX8_game, prog_1_method_21_code, 2, (some .int), 8, 780),
  (yX1_restingPairs, prog_3_method_21_code, 5, (some .int), 1, 784),
  (yX1_pair, prog_3_method_22_code, 2, (some .int), 1, 787),
  (yX1_rests, prog_3_method_23_code, 5, (some .boolean), 1, 791),
  (yX8_note, prog_1_method_22_code, 7, (some .int), 8, 795),
  (yX8_isNoted, prog_1_method_43_code, 2, (some .boolean), 8, 798),
  (yX5_add, prog_7_method_3_code, 6, (some .int), 5, 802),
  (yX8_forget, prog_1_method_23_code, 2, (some .int), 8, 806),
  (yX8_craved, prog_1_method_24_code, 2, (some .int), 8, 810),
  (yX5_cravings, prog_7_method_4_code, 5, (some .int), 5, 814),
  (yX5_allSo, prog_7_method_5_code, 6, (some .boolean), 5, 818),
  (yX4_opensAlone, prog_6_method_3_code, 5, (some .boolean), 4, 821),
  (yX8_is, prog_1_method_25_code, 4, (some .int), 8, 826),
  (yX8_tryNext, prog_1_method_26_code, 4, (some .int), 8, 830),
  (yX5_bestTrial, prog_7_method_6_code, 11, (some .int), 5, 834),
  (yX5_openers, prog_7_method_7_code, 7, (some .int), 5, 838),
  (yX8_rain, prog_1_method_27_code, 4, (some .int), 8, 845),
  (yX3_chance, prog_5_method_2_code, 10, none, 3, 849),
  (yX3_choices, prog_5_method_3_code, 5, (some .long), 3, 852),
  (yX3_power, prog_5_method_4_code, 5, (some .long), 3, 855),
  (yX3_commonPart, prog_5_method_5_code, 7, (some .long), 3, 858),
  (yX8_sieges, prog_1_method_28_code, 3, (some .int), 8, 862),
  (yX1_openAfter, prog_3_method_24_code, 7, (some .int), 1, 867),
  (yX2_openOf, prog_4_method_5_code, 4, (some .int), 2, 878),
  (yX8_part, prog_1_method_29_code, 2, (some .long), 8, 883),
  (yX8_image, prog_1_method_30_code, 2, (some .int), 8, 887),
  (yX8_isImage, prog_1_method_42_code, 1, (some .boolean), 8, 890),
  (yX8_from, prog_1_method_31_code, 2, (some .int), 8, 894),
  (yX8_status, prog_1_method_32_code, 2, (some .int), 8, 898),
  (yX8_count, prog_1_method_33_code, 2, (some .int), 8, 902),
  (yX8_digest, prog_1_method_34_code, 4, (some .long), 8, 907),
  (yX8_mix, prog_1_method_46_code, 4, (some .long), 8, 912),
  (yX7_mixStreets, prog_9_method_14_code, 4, (some .long), 7, 917),
  (yX7_mixLanes, prog_9_method_15_code, 5, (some .long), 7, 922),
  (yX8_mixAll, prog_1_method_47_code, 4, (some .long), 8, 926),
  (yX7_mixDishes, prog_9_method_16_code, 4, (some .long), 7, 930),
  (yX5_mixNotes, prog_7_method_8_code, 4, (some .long), 5, 934),
  (yX9_init, prog_11_method_1_code, 1, none, 9, 940),
  (yX9_first, prog_11_method_9_code, 2, none, 9, 944),
  (yX9_town, prog_11_method_13_code, 2, (some .int), 9, 1010),
  (yX9_street, prog_11_method_14_code, 4, (some .int), 9, 1014),
  (yX9_in, prog_11_method_2_code, 6, (some .boolean), 9, 1018),
  (yX9_bad, prog_11_method_5_code, 1, (some .int), 9, 1023),
  (yX9_full, prog_11_method_8_code, 1, (some .int), 9, 1027),
  (yX9_addStreet, prog_11_method_10_code, 5, none, 9, 1030),
  (yX9_lane, prog_11_method_17_code, 3, (some .int), 9, 1034),
  (yX9_isStreet, prog_11_method_15_code, 2, (some .boolean), 9, 1038),
  (yX9_no, prog_11_method_7_code, 1, (some .int), 9, 1042),
  (yX9_addLane, prog_11_method_12_code, 3, none, 9, 1045),
  (yX9_gate, prog_11_method_18_code, 4, (some .int), 9, 1049),
  (yX9_wind, prog_11_method_19_code, 4, (some .int), 9, 1054),
  (yX9_dish, prog_11_method_20_code, 4, (some .int), 9, 1058),
  (yX9_addDish, prog_11_method_11_code, 5, none, 9, 1062),
  (yX9_type, prog_11_method_21_code, 2, (some .int), 9, 1066),
  (yX9_clear, prog_11_method_22_code, 2, (some .int), 9, 1071),
  (yX9_read, prog_11_method_32_code, 5, (some .int), 9, 1075),
  (yX9_word, prog_11_method_29_code, 7, (some .int), 9, 1079),
  (yX9_skip, prog_11_method_24_code, 1, none, 9, 1083),
  (yX9_byteAt, prog_11_method_23_code, 2, (some .int), 9, 1087),
  (yX9_letterOf, prog_11_method_28_code, 8, (some .int), 9, 1092),
  (yX9_fails, prog_11_method_25_code, 2, (some .boolean), 9, 1103),
  (yX9_item, prog_11_method_31_code, 2, (some .boolean), 9, 1107),
  (yX9_ends, prog_11_method_27_code, 1, (some .boolean), 9, 1111),
  (yX9_number, prog_11_method_26_code, 7, (some .boolean), 9, 1115),
  (yX9_laneItem, prog_11_method_30_code, 2, (some .boolean), 9, 1122),
  (yX9_day, prog_11_method_40_code, 3, (some .int), 9, 1126),
  (yX9_isDish, prog_11_method_16_code, 2, (some .boolean), 9, 1130),
  (yX9_past, prog_11_method_39_code, 6, none, 9, 1133),
  (yX9_goDay, prog_11_method_38_code, 6, (some .int), 9, 1137),
  (yX9_opening, prog_11_method_37_code, 7, (some .int), 9, 1141),
  (yX9_windOf, prog_11_method_34_code, 2, (some .int), 9, 1145),
  (yX9_spread, prog_11_method_33_code, 11, none, 9, 1149),
  (yX9_movedIn, prog_11_method_36_code, 6, (some .int), 9, 1153),
  (yX9_movedBy, prog_11_method_35_code, 9, (some .int), 9, 1156),
  (yX9_has, prog_11_method_3_code, 2, (some .boolean), 9, 1159),
  (yX9_undo, prog_11_method_41_code, 1, (some .int), 9, 1163),
  (yX9_of, prog_11_method_42_code, 3, (some .int), 9, 1167),
  (yX9_bad10, prog_11_method_6_code, 1, (some .int), 9, 1171),
  (yX9_smells, prog_11_method_43_code, 4, (some .int), 9, 1175),
  (yX9_moved, prog_11_method_44_code, 3, (some .int), 9, 1179),
  (yX9_falls, prog_11_method_45_code, 4, (some .int), 9, 1183),
  (yX9_order, prog_11_method_48_code, 9, (some .int), 9, 1187),
  (yX9_butterOf, prog_11_method_47_code, 8, (some .int), 9, 1191),
  (yX9_dishIn, prog_11_method_46_code, 6, (some .int), 9, 1195),
  (yX9_bits, prog_11_method_4_code, 3, (some .int), 9, 1198),
  (yX9_never, prog_11_method_51_code, 5, (some .int), 9, 1202),
  (yX9_opensIn, prog_11_method_50_code, 6, (some .boolean), 9, 1206),
  (yX9_opensOn, prog_11_method_49_code, 4, (some .boolean), 9, 1210),
  (yX9_least, prog_11_method_52_code, 8, (some .int), 9, 1214),
  (yX9_answer, prog_11_method_53_code, 8, (some .int), 9, 1218),
  (yX9_game, prog_11_method_54_code, 7, (some .int), 9, 1222),
  (yX9_note, prog_11_method_55_code, 7, (some .int), 9, 1226),
  (yX9_forget, prog_11_method_56_code, 2, (some .int), 9, 1232),
  (yX9_craved, prog_11_method_58_code, 2, (some .int), 9, 1236),
  (yX9_cravings, prog_11_method_57_code, 8, (some .int), 9, 1240),
  (yX9_is, prog_11_method_59_code, 4, (some .int), 9, 1244),
  (yX9_tryNext, prog_11_method_60_code, 11, (some .int), 9, 1248),
  (yX9_rain, prog_11_method_61_code, 11, (some .int), 9, 1252),
  (yX9_sieges, prog_11_method_63_code, 6, (some .int), 9, 1258),
  (yX9_openMany, prog_11_method_62_code, 3, (some .int), 9, 1268),
  (yX9_part, prog_11_method_64_code, 2, (some .long), 9, 1272),
  (yX9_image, prog_11_method_65_code, 3, (some .int), 9, 1276),
  (yX9_from, prog_11_method_66_code, 3, (some .int), 9, 1280),
  (yX9_status, prog_11_method_67_code, 2, (some .int), 9, 1284),
  (yX9_count, prog_11_method_69_code, 2, (some .int), 9, 1288),
  (yX9_countOf, prog_11_method_68_code, 2, (some .int), 9, 1293),
  (yX9_digest, prog_11_method_70_code, 4, (some .long), 9, 1297)]
def am_m (k : Nat) : am_M := am_ms.getD k (⟨"", "", ""⟩, ⟨#[]⟩, 0, none, 0, 0)
def am_y (k : Nat) : MethodName := (am_m k).1
def am_code (k : Nat) : ByteArray := (am_m k).2.1
def am_mx (k : Nat) : Nat := (am_m k).2.2.1
def am_rt (k : Nat) : Option FieldType := (am_m k).2.2.2.1
def am_kl (k : Nat) : Nat := (am_m k).2.2.2.2.1
def am_N : Nat := 204
/-- the classes by number: name, the place of its word initialized -/
def am_cs : List (String × Nat) := [(RX0, 63), (RX1, 62), (RX2, 61), (RX3, 65), (RX4, 73), (RX5, 60), (RX6, 64), (RX7, 59), (RX8, 58), (RX9, 66), ("java/lang/Integer", 74), ("java/lang/Math", 72)]
def am_R (c : Nat) : String := (am_cs.getD c ("", 0)).1
/-- calls: class, entry, kind (0 static, 1 virtual, 2 <init>, 3 <init> of a nest mate, 4 static of a nest mate), method, arguments, places of the words -/
abbrev am_I : Type := Nat × Nat × Nat × Nat × Nat × Nat × Nat × Nat
def am_is : List am_I := [
  (0, 18, 1, 57, 5, 609, 610, 611),
  (0, 22, 1, 53, 0, 613, 595, 596),
  (0, 25, 1, 58, 1, 614, 615, 616),
  (0, 37, 0, 59, 2, 618, 619, 0),
  (0, 43, 1, 60, 1, 621, 623, 17),
  (0, 54, 4, 19, 2, 625, 398, 0),
  (1, 17, 3, 7, 0, 233, 234, 0),
  (1, 24, 3, 3, 0, 246, 120, 0),
  (1, 45, 1, 53, 0, 594, 595, 596),
  (1, 52, 1, 54, 1, 598, 599, 600),
  (1, 58, 1, 56, 3, 605, 606, 607),
  (1, 65, 1, 61, 2, 626, 628, 18),
  (1, 72, 4, 19, 2, 649, 398, 0),
  (1, 82, 1, 67, 3, 650, 651, 652),
  (1, 86, 1, 62, 1, 630, 631, 632),
  (1, 90, 1, 63, 3, 634, 636, 19),
  (1, 94, 1, 64, 2, 638, 639, 640),
  (1, 97, 1, 65, 5, 642, 643, 644),
  (1, 104, 1, 78, 2, 695, 697, 21),
  (1, 114, 1, 81, 3, 707, 709, 22),
  (1, 118, 1, 82, 2, 711, 713, 23),
  (1, 121, 1, 83, 2, 715, 717, 24),
  (1, 139, 1, 86, 0, 728, 729, 730),
  (1, 143, 1, 87, 2, 733, 735, 25),
  (1, 146, 1, 88, 2, 737, 739, 26),
  (1, 149, 1, 91, 1, 749, 751, 27),
  (1, 152, 1, 92, 1, 753, 755, 28),
  (1, 155, 0, 93, 1, 757, 758, 0),
  (1, 160, 1, 57, 5, 775, 610, 611),
  (1, 164, 1, 96, 3, 771, 772, 773),
  (1, 168, 0, 99, 2, 785, 786, 0),
  (1, 171, 1, 100, 2, 788, 790, 29),
  (1, 174, 1, 48, 1, 868, 573, 574),
  (1, 188, 1, 52, 2, 874, 591, 592),
  (1, 191, 1, 120, 1, 875, 876, 877),
  (2, 31, 1, 62, 1, 879, 631, 632),
  (2, 35, 1, 64, 2, 654, 639, 640),
  (3, 16, 0, 115, 2, 850, 851, 0),
  (3, 20, 0, 116, 2, 853, 854, 0),
  (3, 23, 0, 117, 2, 856, 857, 0),
  (4, 11, 0, 66, 6, 822, 647, 0),
  (5, 37, 1, 107, 3, 815, 817, 30),
  (5, 41, 0, 108, 5, 819, 820, 0),
  (5, 47, 1, 106, 2, 835, 812, 813),
  (5, 51, 0, 112, 5, 836, 837, 0),
  (5, 55, 0, 93, 1, 840, 758, 0),
  (5, 61, 0, 59, 2, 841, 619, 0),
  (5, 66, 4, 19, 2, 839, 398, 0),
  (5, 70, 4, 128, 2, 935, 911, 0),
  (6, 11, 2, 1, 0, 284, 86, 0),
  (6, 26, 1, 4, 0, 447, 149, 150),
  (6, 38, 1, 32, 0, 448, 450, 4),
  (6, 47, 1, 35, 0, 458, 460, 5),
  (6, 50, 1, 36, 0, 462, 464, 6),
  (6, 54, 1, 38, 1, 524, 526, 8),
  (6, 58, 1, 39, 0, 528, 530, 9),
  (6, 61, 1, 42, 0, 542, 544, 12),
  (6, 64, 1, 43, 0, 547, 549, 13),
  (6, 67, 1, 44, 0, 551, 553, 14),
  (6, 70, 1, 45, 0, 555, 557, 15),
  (6, 73, 1, 41, 0, 537, 539, 11),
  (6, 83, 1, 40, 2, 532, 534, 10),
  (6, 87, 1, 14, 3, 541, 378, 379),
  (6, 91, 1, 21, 2, 546, 405, 406),
  (6, 101, 1, 26, 3, 559, 424, 425),
  (6, 107, 4, 12, 3, 536, 371, 0),
  (6, 111, 0, 33, 1, 452, 453, 0),
  (6, 114, 0, 34, 1, 455, 456, 0),
  (6, 119, 1, 37, 1, 467, 469, 7),
  (7, 41, 3, 2, 0, 91, 92, 0),
  (7, 48, 3, 3, 0, 119, 120, 0),
  (7, 57, 1, 4, 0, 148, 149, 150),
  (7, 73, 1, 5, 0, 152, 153, 154),
  (7, 80, 1, 47, 1, 567, 568, 569),
  (7, 84, 1, 48, 1, 572, 573, 574),
  (7, 87, 4, 19, 2, 397, 398, 0),
  (7, 91, 0, 55, 2, 602, 603, 0),
  (7, 97, 0, 66, 6, 646, 647, 0),
  (7, 103, 1, 62, 1, 732, 631, 632),
  (7, 107, 4, 128, 2, 918, 911, 0),
  (7, 120, 1, 18, 2, 923, 394, 395),
  (8, 9, 2, 1, 0, 85, 86, 0),
  (8, 18, 2, 6, 1, 227, 228, 0),
  (8, 27, 3, 8, 0, 279, 280, 0),
  (8, 34, 3, 9, 0, 318, 319, 0),
  (8, 51, 1, 4, 0, 365, 149, 150),
  (8, 54, 0, 12, 3, 370, 371, 0),
  (8, 58, 1, 13, 0, 373, 375, 0),
  (8, 62, 1, 14, 3, 377, 378, 379),
  (8, 66, 1, 15, 0, 381, 383, 1),
  (8, 69, 1, 17, 1, 389, 391, 2),
  (8, 73, 1, 18, 2, 393, 394, 395),
  (8, 77, 1, 20, 0, 400, 402, 3),
  (8, 80, 1, 21, 2, 404, 405, 406),
  (8, 84, 0, 23, 1, 412, 413, 0),
  (8, 94, 1, 26, 3, 423, 424, 425),
  (8, 97, 1, 28, 1, 431, 432, 433),
  (8, 104, 1, 31, 0, 443, 444, 445),
  (8, 110, 1, 46, 1, 560, 561, 562),
  (8, 116, 1, 50, 1, 582, 584, 16),
  (8, 119, 1, 51, 0, 586, 587, 588),
  (8, 126, 1, 52, 2, 590, 591, 592),
  (8, 130, 1, 69, 0, 659, 660, 661),
  (8, 139, 1, 71, 0, 667, 669, 20),
  (8, 160, 1, 73, 3, 675, 676, 677),
  (8, 163, 1, 75, 2, 683, 684, 685),
  (8, 167, 1, 77, 2, 691, 692, 693),
  (8, 170, 1, 80, 1, 703, 704, 705),
  (8, 179, 1, 85, 0, 724, 725, 726),
  (8, 182, 1, 90, 0, 745, 746, 747),
  (8, 185, 1, 95, 2, 767, 768, 769),
  (8, 188, 1, 96, 3, 776, 772, 773),
  (8, 191, 1, 98, 1, 781, 782, 783),
  (8, 194, 0, 102, 2, 796, 797, 0),
  (8, 201, 1, 103, 5, 799, 800, 801),
  (8, 210, 1, 106, 2, 811, 812, 813),
  (8, 213, 1, 111, 4, 831, 832, 833),
  (8, 217, 1, 114, 3, 846, 847, 848),
  (8, 222, 1, 119, 2, 864, 865, 866),
  (8, 232, 0, 123, 1, 888, 889, 0),
  (8, 247, 1, 120, 1, 903, 876, 877),
  (8, 255, 1, 126, 1, 909, 900, 901),
  (8, 258, 0, 128, 2, 910, 911, 0),
  (8, 262, 1, 129, 1, 914, 915, 916),
  (8, 266, 1, 130, 1, 919, 920, 921),
  (8, 269, 0, 131, 2, 924, 925, 0),
  (8, 273, 1, 132, 1, 927, 928, 929),
  (8, 276, 1, 133, 1, 931, 932, 933),
  (9, 51, 0, 135, 1, 942, 943, 0),
  (9, 67, 0, 138, 3, 1016, 1017, 0),
  (9, 73, 1, 139, 0, 1020, 1022, 31),
  (9, 77, 1, 140, 0, 1024, 1026, 32),
  (9, 80, 0, 141, 4, 1028, 1029, 0),
  (9, 84, 1, 143, 1, 1035, 1037, 33),
  (9, 88, 1, 144, 0, 1039, 1041, 34),
  (9, 91, 0, 145, 3, 1043, 1044, 0),
  (9, 99, 0, 149, 4, 1060, 1061, 0),
  (9, 110, 1, 155, 1, 1084, 1086, 37),
  (9, 117, 1, 154, 0, 1080, 1082, 36),
  (9, 126, 1, 157, 1, 1100, 1102, 38),
  (9, 147, 0, 156, 2, 1090, 1091, 0),
  (9, 151, 1, 160, 3, 1112, 1114, 41),
  (9, 155, 1, 159, 0, 1108, 1110, 40),
  (9, 159, 1, 161, 0, 1119, 1121, 42),
  (9, 162, 1, 153, 0, 1076, 1078, 35),
  (9, 165, 1, 158, 1, 1104, 1106, 39),
  (9, 168, 0, 170, 6, 1154, 1155, 0),
  (9, 172, 1, 163, 1, 1127, 1129, 43),
  (9, 175, 1, 167, 1, 1142, 1144, 46),
  (9, 178, 1, 168, 4, 1146, 1148, 47),
  (9, 182, 1, 169, 4, 1150, 1152, 48),
  (9, 186, 1, 166, 3, 1138, 1140, 45),
  (9, 190, 0, 171, 2, 1157, 1158, 0),
  (9, 194, 0, 164, 4, 1131, 1132, 0),
  (9, 198, 1, 165, 1, 1134, 1136, 44),
  (9, 201, 1, 174, 0, 1168, 1170, 49),
  (9, 204, 1, 180, 3, 1192, 1194, 51),
  (9, 207, 0, 181, 1, 1196, 1197, 0),
  (9, 210, 1, 179, 3, 1188, 1190, 50),
  (9, 213, 1, 184, 3, 1207, 1209, 53),
  (9, 216, 1, 183, 3, 1203, 1205, 52),
  (9, 223, 1, 191, 2, 1237, 1239, 54),
  (9, 245, 1, 196, 0, 1265, 1267, 55),
  (9, 250, 1, 202, 1, 1290, 1292, 56)]
/-- fields: class, entry, kind of object, place, sort (0 int, 1 long, 2 reference), final, place of the word -/
abbrev am_F : Type := Nat × Nat × Nat × Nat × Nat × Nat × Nat
def am_fs : List am_F := [
  (0, 9, 0, 0, 2, 1, 237),
  (0, 15, 0, 1, 2, 1, 239),
  (0, 31, 6, 2, 2, 1, 164),
  (0, 34, 6, 9, 2, 1, 183),
  (0, 47, 6, 0, 0, 0, 159),
  (0, 51, 6, 4, 2, 1, 169),
  (1, 9, 1, 0, 2, 1, 247),
  (1, 18, 1, 3, 2, 1, 252),
  (1, 25, 1, 4, 2, 1, 253),
  (1, 29, 1, 5, 2, 1, 254),
  (1, 32, 1, 6, 2, 1, 255),
  (1, 35, 1, 7, 2, 1, 256),
  (1, 38, 1, 8, 2, 1, 257),
  (1, 41, 1, 2, 2, 1, 251),
  (1, 48, 2, 0, 0, 0, 124),
  (1, 62, 6, 8, 2, 1, 181),
  (1, 69, 6, 0, 0, 0, 158),
  (1, 76, 2, 1, 2, 1, 127),
  (1, 79, 0, 0, 2, 1, 238),
  (1, 101, 6, 12, 2, 1, 189),
  (1, 108, 1, 1, 0, 0, 249),
  (1, 111, 6, 7, 0, 0, 178),
  (1, 124, 6, 10, 2, 1, 185),
  (1, 133, 2, 2, 2, 1, 131),
  (1, 136, 2, 3, 2, 1, 135),
  (2, 9, 2, 1, 2, 1, 126),
  (2, 15, 2, 2, 2, 1, 130),
  (2, 18, 2, 3, 2, 1, 134),
  (2, 21, 2, 0, 0, 0, 123),
  (3, 7, 3, 0, 1, 0, 322),
  (3, 13, 3, 1, 1, 0, 324),
  (5, 9, 4, 1, 2, 1, 98),
  (5, 15, 4, 2, 2, 1, 99),
  (5, 18, 4, 3, 2, 1, 100),
  (5, 21, 4, 4, 2, 1, 101),
  (5, 24, 4, 5, 2, 1, 102),
  (5, 27, 4, 0, 0, 0, 95),
  (6, 12, 5, 2, 2, 1, 289),
  (6, 18, 5, 3, 2, 1, 291),
  (6, 22, 5, 0, 0, 0, 285),
  (6, 29, 5, 1, 0, 0, 287),
  (6, 32, 5, 5, 0, 0, 293),
  (6, 35, 5, 4, 0, 0, 292),
  (6, 41, 5, 7, 0, 0, 295),
  (6, 44, 5, 6, 0, 0, 294),
  (6, 77, 6, 0, 0, 0, 160),
  (6, 80, 6, 7, 0, 0, 177),
  (6, 95, 6, 5, 2, 1, 172),
  (6, 98, 6, 6, 2, 1, 175),
  (6, 104, 5, 8, 0, 0, 296),
  (7, 9, 6, 1, 2, 1, 161),
  (7, 15, 6, 2, 2, 1, 163),
  (7, 18, 6, 3, 2, 1, 166),
  (7, 21, 6, 4, 2, 1, 168),
  (7, 24, 6, 5, 2, 1, 170),
  (7, 27, 6, 6, 2, 1, 173),
  (7, 30, 6, 8, 2, 1, 180),
  (7, 33, 6, 9, 2, 1, 182),
  (7, 36, 6, 10, 2, 1, 184),
  (7, 42, 6, 11, 2, 1, 186),
  (7, 49, 6, 12, 2, 1, 188),
  (7, 53, 6, 13, 2, 1, 191),
  (7, 60, 6, 0, 0, 0, 156),
  (7, 64, 6, 7, 0, 0, 176),
  (7, 67, 4, 0, 0, 0, 96),
  (7, 70, 6, 14, 0, 0, 192),
  (7, 111, 2, 1, 2, 1, 129),
  (7, 114, 2, 2, 2, 1, 133),
  (7, 117, 2, 3, 2, 1, 137),
  (8, 10, 7, 0, 2, 1, 332),
  (8, 21, 7, 1, 2, 1, 333),
  (8, 28, 7, 2, 2, 1, 334),
  (8, 35, 7, 3, 2, 1, 335),
  (8, 39, 7, 4, 2, 1, 336),
  (8, 43, 7, 5, 2, 1, 337),
  (8, 47, 6, 0, 0, 0, 157),
  (8, 87, 6, 5, 2, 1, 171),
  (8, 91, 6, 6, 2, 1, 174),
  (8, 101, 5, 0, 0, 0, 286),
  (8, 107, 5, 2, 2, 1, 290),
  (8, 113, 5, 1, 0, 0, 288),
  (8, 122, 6, 12, 2, 1, 190),
  (8, 134, 2, 0, 0, 0, 125),
  (8, 142, 6, 1, 2, 1, 162),
  (8, 145, 6, 2, 2, 1, 165),
  (8, 148, 6, 3, 2, 1, 167),
  (8, 151, 2, 1, 2, 1, 128),
  (8, 154, 2, 2, 2, 1, 132),
  (8, 157, 2, 3, 2, 1, 136),
  (8, 173, 1, 1, 0, 0, 250),
  (8, 176, 1, 0, 2, 1, 248),
  (8, 197, 6, 11, 2, 1, 187),
  (8, 207, 4, 0, 0, 0, 97),
  (8, 225, 3, 0, 1, 0, 323),
  (8, 229, 3, 1, 1, 0, 325),
  (8, 235, 7, 6, 0, 0, 338),
  (8, 238, 7, 7, 0, 0, 339),
  (8, 241, 7, 8, 0, 0, 340),
  (8, 244, 6, 7, 0, 0, 179),
  (8, 250, 6, 14, 0, 0, 193),
  (9, 7, 8, 0, 2, 1, 945),
  (9, 13, 8, 1, 2, 1, 946),
  (9, 16, 8, 2, 2, 1, 947),
  (9, 19, 8, 3, 2, 1, 948),
  (9, 22, 8, 4, 2, 1, 949),
  (9, 25, 8, 13, 2, 1, 958),
  (9, 28, 8, 14, 2, 1, 959),
  (9, 31, 8, 15, 2, 1, 960),
  (9, 34, 8, 16, 2, 1, 961),
  (9, 37, 8, 17, 2, 1, 962),
  (9, 40, 8, 18, 2, 1, 963),
  (9, 43, 8, 19, 2, 1, 964),
  (9, 47, 8, 7, 1, 0, 952),
  (9, 55, 8, 8, 0, 0, 953),
  (9, 59, 8, 9, 0, 0, 954),
  (9, 62, 8, 10, 0, 0, 955),
  (9, 104, 8, 5, 0, 0, 950),
  (9, 107, 8, 11, 0, 0, 956),
  (9, 114, 8, 12, 0, 0, 957),
  (9, 230, 8, 6, 1, 0, 951)]
/-- kinds of objects: the class number, name, fields, how many, types, the places of their words, the place of instantiable -/
abbrev am_K : Type := Nat × String × u_T × Nat × (Nat → FieldType) × List Nat × Nat
def am_ks : List am_K := [
  (0, RX0, TX0, 2, tyX0, [240, 242], 232),
  (1, RX1, TX1, 9, tyX1, [258, 260, 262, 264, 266, 268, 270, 272, 274], 226),
  (2, RX2, TX2, 4, tyX2, [138, 140, 142, 144], 118),
  (3, RX3, TX3, 2, tyX3, [326, 328], 317),
  (5, RX5, TX5, 6, tyX5, [103, 105, 107, 109, 111, 113], 90),
  (6, RX6, TX6, 9, tyX6, [297, 299, 301, 303, 305, 307, 309, 311, 313], 278),
  (7, RX7, TX7, 15, tyX7, [194, 196, 198, 200, 202, 204, 206, 208, 210, 212, 214, 216, 218, 220, 222], 84),
  (8, RX8, TX8, 9, tyX8, [341, 343, 345, 347, 349, 351, 353, 355, 357], 76),
  (9, RX9, TX9, 20, tyX9, [965, 967, 969, 971, 973, 975, 977, 979, 981, 983, 985, 987, 989, 991, 993, 995, 997, 999, 1001, 1003], 937)]
/-- classes named: class, entry, kind of object, place of the word -/
def am_ns : List (Nat × Nat × Nat × Nat) := [(1, 15, 0, 231), (1, 22, 2, 245), (6, 9, 6, 283), (7, 39, 4, 89), (7, 46, 2, 117), (8, 7, 6, 83), (8, 16, 1, 225), (8, 25, 5, 277), (8, 32, 3, 316)]
def am_ci : List (Nat × Nat × Int32 × Nat) := [(10, 265, 1431655765, 760), (10, 266, 858993459, 761), (10, 267, 252645135, 762), (8, 221, 999999, 863)]
def am_cl : List (Nat × Nat × Int64 × Nat) := [(1, 178, 1103515245, 869), (1, 180, 12345, 870), (1, 182, 2147483648, 871), (1, 184, 65536, 872), (1, 186, 7, 873), (8, 253, 1069, 908), (8, 279, 31, 913), (9, 65, 5, 1015), (9, 71, 9, 1019), (9, 95, 3, 1050), (9, 97, 30, 1059), (9, 102, 127, 1067), (9, 143, 97, 1088), (9, 145, 122, 1089), (9, 129, 20152314, 1093), (9, 131, 192018050520, 1094), (9, 133, 12011405, 1095), (9, 135, 7012005, 1096), (9, 137, 23091404, 1097), (9, 139, 4091908, 1098), (9, 141, 100, 1099), (9, 120, 48, 1116), (9, 122, 57, 1117), (9, 124, 2, 1118), (9, 219, 60, 1227), (9, 221, 99, 1228), (9, 226, 10, 1253), (9, 228, 8, 1254), (9, 233, 999999, 1259), (9, 235, 1103515245, 1260), (9, 237, 12345, 1261), (9, 239, 2147483648, 1262), (9, 241, 65536, 1263), (9, 243, 7, 1264), (9, 248, 6, 1289), (9, 253, 1069, 1298), (9, 255, 31, 1299)]
def am_ct : List (Nat × Nat × Nat × String × Nat) := [(6, 117, 0, "town", 466), (6, 123, 1, "street", 519), (6, 125, 2, "lane", 520), (6, 127, 3, "gate", 521), (6, 129, 4, "wind", 522), (6, 131, 5, "dish", 523)]
def am_ac : List (Nat × Nat × Nat) := [(7, 74, 564), (5, 31, 571), (2, 25, 576), (1, 127, 719)]
def am_oi : List (Nat × Nat × Nat) := [(8, 1, 80), (7, 3, 88), (5, 3, 94), (2, 3, 122), (1, 3, 230), (0, 3, 236), (6, 3, 282), (3, 1, 321), (9, 1, 941)]
def am_ex : List (Nat × Nat × Nat × Nat) := [(6, 133, 0, 471), (6, 137, 1, 481)]
def am_pcopy : Nat × Nat × Nat := (566, 565, 71)
def am_pobj : Nat × Nat := (81, 82)
def am_parr : List Nat := [116, 1006, 360]
def am_povr : List Nat := [147, 331] -- ['Jvm.ClassFile.FieldType.object "KitchenSiege$Days"', 'Jvm.ClassFile.FieldType.object "KitchenSiege$Town"']
/-! what the tables' words say of the tables above: by the kernel -/
def am_lk {α : Type} : List (Nat × Nat × α) → Nat → Nat → Option α
  | [], _, _ => none
  | (a, b, x) :: t, c, i => if a = c ∧ b = i then some x else am_lk t c i
theorem am_lk_mem {α : Type} {c i : Nat} {x : α} : ∀ {l : List (Nat × Nat × α)}, am_lk l c i = some x → (c, i, x) ∈ l
  | [], h => by cases h
  | (a, b, y) :: t, h => by
    unfold am_lk at h
    split at h
    next e => obtain ⟨rfl, rfl⟩ := e; cases h; exact List.mem_cons_self
    next => exact List.mem_cons_of_mem _ (am_lk_mem h)
def am_wd (p : Nat) : Option Cond := lw_tbl[p]?
def am_ini (c : Nat) : Nat := (am_cs.getD c ("", 0)).2
def am_okM (k : Nat) : Bool :=
  decide ((am_y k).cls = am_R (am_kl k)) && decide (am_wd (am_ini (am_kl k)) = some (.initialized (am_R (am_kl k)))) && (plainName (am_y k).cls || decide (k = 55 ∨ k = 59))
    && decide ((am_y k).cls ≠ "java/lang/invoke/MethodHandle") && decide ((am_y k).cls ≠ "java/lang/invoke/VarHandle") && decide (am_rt k = none ∨ am_rt k = some .int ∨ am_rt k = some .long ∨ am_rt k = some .boolean) && decide (am_mx k ≤ 16) && decide (0 < am_mx k)
theorem am_okM_all : (List.range am_N).all am_okM = true := by decide +kernel
theorem am_pF : (NativeRow.find? natives "java/lang/Math" "floorMod" "(II)I").isNone = true := by decide +kernel
theorem am_pX : (NativeRow.find? natives "java/lang/Math" "max" "(II)I").isNone = true := by decide +kernel
theorem am_pl {k : Nat} (h : (plainName (am_y k).cls || decide (k = 55 ∨ k = 59)) = true) : plainFor (am_y k) = true := by
  rcases Bool.or_eq_true _ _ |>.mp h with h | h
  · exact plainFor_of_name h
  · rcases of_decide_eq_true h with rfl | rfl
    · have e : am_y 55 = ⟨"java/lang/Math", "floorMod", "(II)I"⟩ := by decide +kernel
      rw [e]; unfold plainFor; rw [Bool.or_eq_true]; exact Or.inr am_pF
    · have e : am_y 59 = ⟨"java/lang/Math", "max", "(II)I"⟩ := by decide +kernel
      rw [e]; unfold plainFor; rw [Bool.or_eq_true]; exact Or.inr am_pX
def am_okI (q : am_I) : Bool :=
  (if q.2.2.1 < 3 then decide (am_wd q.2.2.2.2.2.1 = some (.methodLink (am_R q.1) q.2.1 (am_y q.2.2.2.1))) else decide (am_wd q.2.2.2.2.2.1 = some (.methodLinkNest (am_R q.1) q.2.1 (am_y q.2.2.2.1) RX8)))
    && (if q.2.2.1 = 0 ∨ q.2.2.1 = 4 then decide (am_wd q.2.2.2.2.2.2.1 = some (.static (am_y q.2.2.2.1))) else decide (am_wd q.2.2.2.2.2.2.1 = some (.instanceMethod (am_y q.2.2.2.1))))
    && (if q.2.2.1 = 1 then decide (am_wd q.2.2.2.2.2.2.2 = some (.selects (am_y q.2.2.2.1).cls (am_y q.2.2.2.1) (am_y q.2.2.2.1))) else true)
    && (if q.2.2.1 = 2 ∨ q.2.2.1 = 3 then decide ((am_y q.2.2.2.1).name = "<init>") && decide (am_rt q.2.2.2.1 = none) else true)
    && decide (q.2.2.2.1 < am_N) && decide ((parseMethodDescriptor (am_y q.2.2.2.1).desc).map (fun d => d.parameters.length) = some q.2.2.2.2.1) && decide (q.2.2.1 ≤ 4)
theorem am_okI_all : am_is.all am_okI = true := by decide +kernel
abbrev am_K0 : am_K := (0, "", fun _ => ("", "", "", false), 0, fun _ => .int, [], 0)
def am_k (t : Nat) : am_K := am_ks.getD t am_K0
def am_okF (q : am_F) : Bool :=
  decide (q.2.2.2.1 < (am_k q.2.2.1).2.2.2.1) && decide (((am_k q.2.2.1).2.2.1 q.2.2.2.1).1 = (am_k q.2.2.1).2.1) && decide (am_wd q.2.2.2.2.2.2 = some (.fieldLink (am_R q.1) q.2.1 (am_k q.2.2.1).2.1 ((am_k q.2.2.1).2.2.1 q.2.2.2.1).2.1 ((am_k q.2.2.1).2.2.1 q.2.2.2.1).2.2.1)) && decide (((am_k q.2.2.1).2.2.1 q.2.2.2.1).2.2.2 = decide (q.2.2.2.2.2.1 = 1))
    && (if q.2.2.2.2.1 = 0 then decide (parseFieldDescriptor ((am_k q.2.2.1).2.2.1 q.2.2.2.1).2.2.1 = some .int) else if q.2.2.2.2.1 = 1 then decide (parseFieldDescriptor ((am_k q.2.2.1).2.2.1 q.2.2.2.1).2.2.1 = some .long) else match parseFieldDescriptor ((am_k q.2.2.1).2.2.1 q.2.2.2.1).2.2.1 with
        | some (.object _) => true
        | some (.array _) => true
        | _ => false) && decide (q.2.2.1 < 9)
theorem am_okF_all : am_fs.all am_okF = true := by decide +kernel
def am_okK (t : Nat) : Bool :=
  decide ((am_k t).2.1 = am_R (am_k t).1) && decide ((am_k t).2.2.2.1 ≤ (am_k t).2.2.2.2.2.1.length) && (List.range (am_k t).2.2.2.1).all (fun j => decide (am_wd ((am_k t).2.2.2.2.2.1.getD j 0) = some (u_lay (am_k t).2.1 (am_k t).2.2.1 j))) && decide (am_wd (am_k t).2.2.2.2.2.2 = some (.instantiable (am_k t).2.1 (am_k t).2.2.2.1)) && decide (am_wd (am_ini (am_k t).1) = some (.initialized (am_k t).2.1)) && decide (t < 9)
theorem am_okK_all : (List.range 9).all am_okK = true := by decide +kernel
theorem am_ks_cl : ∀ t, t < 9 → vwCl[t]? = some ((am_k t).2.1, (am_k t).2.2.1, (am_k t).2.2.2.1) := by
  intro t h
  match t, h with
  | 0, _ => rfl
  | 1, _ => rfl
  | 2, _ => rfl
  | 3, _ => rfl
  | 4, _ => rfl
  | 5, _ => rfl
  | 6, _ => rfl
  | 7, _ => rfl
  | 8, _ => rfl
theorem am_ks_ty : ∀ t, t < 9 → ∀ j, j < (am_k t).2.2.2.1 → parseFieldDescriptor ((am_k t).2.2.1 j).2.2.1 = some ((am_k t).2.2.2.2.1 j) := by
  intro t h
  match t, h with
  | 0, _ => exact tyX0_ok
  | 1, _ => exact tyX1_ok
  | 2, _ => exact tyX2_ok
  | 3, _ => exact tyX3_ok
  | 4, _ => exact tyX5_ok
  | 5, _ => exact tyX6_ok
  | 6, _ => exact tyX7_ok
  | 7, _ => exact tyX8_ok
  | 8, _ => exact tyX9_ok
theorem am_ks_nm : ∀ t, t < 9 → ∀ a, a < (am_k t).2.2.2.1 → ∀ b, b < (am_k t).2.2.2.1 → a ≠ b → ((am_k t).2.2.1 a).2.1 ≠ ((am_k t).2.2.1 b).2.1 := by
  intro t h
  match t, h with
  | 0, _ => exact nmX0
  | 1, _ => exact nmX1
  | 2, _ => exact nmX2
  | 3, _ => exact nmX3
  | 4, _ => exact nmX5
  | 5, _ => exact nmX6
  | 6, _ => exact nmX7
  | 7, _ => exact nmX8
  | 8, _ => exact nmX9
theorem am_okn_all : (am_ns.all fun q => decide (am_wd q.2.2.2 = some (.classLink (am_R q.1) q.2.1 (am_k q.2.2.1).2.1)) && decide (q.2.2.1 < 9)) = true := by decide +kernel
theorem am_okci_all : (am_ci.all fun q => decide (am_wd q.2.2.2 = some (.constant (am_R q.1) q.2.1 q.2.2.1))) = true := by decide +kernel
theorem am_okcl_all : (am_cl.all fun q => decide (am_wd q.2.2.2 = some (.constantLong (am_R q.1) q.2.1 q.2.2.1))) = true := by decide +kernel
theorem am_okct_all : (am_ct.all fun q => decide (am_wd q.2.2.2.2 = some (.stringRef (am_R q.1) q.2.1 q.2.2.2.1))) = true := by decide +kernel
theorem am_okac_all : (am_ac.all fun q => decide (am_wd q.2.2 = some (.methodLink (am_R q.1) q.2.1 arraycopyName))) = true := by decide +kernel
theorem am_okoi_all : (am_oi.all fun q => decide (am_wd q.2.2 = some (.methodLink (am_R q.1) q.2.1 objectInit))) = true := by decide +kernel
theorem am_okp : am_wd 566 = some (.native arraycopyName) ∧ am_wd 565 = some (.static arraycopyName) ∧ am_wd 71 = some (.initialized "java/lang/System") ∧ am_wd 81 = some (.instanceMethod objectInit) ∧ am_wd 82 = some (.code objectInit ⟨#[0xb1]⟩ 1 none) ∧ am_wd 116 = some (.arrayClass .int) ∧ am_wd 1006 = some (.arrayClass .long) ∧ am_wd 360 = some (.arrayClass .boolean) ∧ am_wd 147 = some (.arrayOver (.object RX2)) ∧ am_wd 331 = some (.arrayOver (.object RX7)) := by decide +kernel
/-- the words that live through a call -/
def am_gw : List Cond := lw_tbl.filter goodWord
theorem am_gw_in {p : Nat} {w : Cond} (h : am_wd p = some w) (hg : goodWord w = true) : w ∈ am_gw := List.mem_filter.mpr ⟨List.mem_of_getElem? h, hg⟩
theorem am_gw_good {ws : List Cond} (h : ∀ w ∈ ws, w ∈ am_gw) : GoodIn am_gw ws := fun w hw => ⟨h w hw, good_of_word (List.mem_filter.mp (h w hw)).2⟩
