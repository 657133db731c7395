/-! the law's instructions and calls -/
abbrev law_a (pc j : Nat) : Prop := decode code pc = .ok (.aload_n 0, 1) ∧ decode code (pc + 1) = .ok (.iload_n 3, 1) ∧ decode code (pc + 2) = .ok (.iconst ((j : Int) + 1), 1) ∧ decode code (pc + 3) = .ok (.iadd, 1) ∧ decode code (pc + 4) = .ok (.iaload, 1)
abbrev law_C (pc n ix im : Nat) : Prop := decode code pc = .ok (.aload_n 1, 1) ∧ (∀ j, j < n → law_a (pc + 1 + 5 * j) j) ∧ decode code (pc + 1 + 5 * n) = .ok (.invokevirtual ix, 3) ∧ decode code (pc + 1 + 5 * n + 3) = .ok (.aload_n 2, 1) ∧ (∀ j, j < n → law_a (pc + 1 + 5 * n + 3 + 1 + 5 * j) j) ∧ decode code (pc + 1 + 5 * n + 3 + 1 + 5 * n) = .ok (.invokevirtual im, 3)
def law_ab (pc j : Nat) : Bool := decide (decode code pc = .ok (.aload_n 0, 1)) && (decide (decode code (pc + 1) = .ok (.iload_n 3, 1)) && (decide (decode code (pc + 2) = .ok (.iconst ((j : Int) + 1), 1)) && (decide (decode code (pc + 3) = .ok (.iadd, 1)) && decide (decode code (pc + 4) = .ok (.iaload, 1)))))
theorem law_ab_of {pc j : Nat} (h : law_ab pc j = true) : law_a pc j := by
  simp only [law_ab, Bool.and_eq_true, decide_eq_true_eq] at h
  exact h
def law_Cb (pc n ix im : Nat) : Bool := decide (decode code pc = .ok (.aload_n 1, 1)) && ((List.range n).all (fun j => law_ab (pc + 1 + 5 * j) j) && (decide (decode code (pc + 1 + 5 * n) = .ok (.invokevirtual ix, 3)) && (decide (decode code (pc + 1 + 5 * n + 3) = .ok (.aload_n 2, 1)) && ((List.range n).all (fun j => law_ab (pc + 1 + 5 * n + 3 + 1 + 5 * j) j) && decide (decode code (pc + 1 + 5 * n + 3 + 1 + 5 * n) = .ok (.invokevirtual im, 3))))))
theorem law_Cb_of {pc n ix im : Nat} (h : law_Cb pc n ix im = true) : law_C pc n ix im := by
  simp only [law_Cb, Bool.and_eq_true, decide_eq_true_eq, List.all_eq_true, List.mem_range] at h
  obtain ⟨h1, h2, h3, h4, h5, h6⟩ := h
  exact ⟨h1, fun j hj => law_ab_of (h2 j hj), h3, h4, fun j hj => law_ab_of (h5 j hj), h6⟩
def law_W (ix k n t : Nat) : Prop := Cond.methodLink RL ix (am_y k) ∈ am_gw ∧ Cond.instanceMethod (am_y k) ∈ am_gw ∧ Cond.selects (am_y k).cls (am_y k) (am_y k) ∈ am_gw ∧ k < am_N ∧ (parseMethodDescriptor (am_y k).desc).map (fun d => d.parameters.length) = some n ∧ (am_k t).2.1 = (am_y k).cls ∧ t < 9
theorem law_C_180 : law_C 180 0 13 17 := law_Cb_of (by decide +kernel)
theorem law_t_180 : decode code (180 + 1 + 5 * 0 + 3 + 1 + 5 * 0 + 3) = .ok (.if_icmp .eq 913, 3) := by decide +kernel
theorem law_w_13 : law_W 13 k_X_town 0 7 := ⟨am_gw_in (p := 361) (by decide +kernel) rfl, am_gw_in (p := 362) (by decide +kernel) rfl, am_gw_in (p := 363) (by decide +kernel) rfl, by decide, by decide +kernel, by decide +kernel, by decide⟩
theorem law_w_17 : law_W 17 k_M_town 0 8 := ⟨am_gw_in (p := 1007) (by decide +kernel) rfl, am_gw_in (p := 1008) (by decide +kernel) rfl, am_gw_in (p := 1009) (by decide +kernel) rfl, by decide, by decide +kernel, by decide +kernel, by decide⟩
theorem law_C_193 : law_C 193 3 18 22 := law_Cb_of (by decide +kernel)
theorem law_t_193 : decode code (193 + 1 + 5 * 3 + 3 + 1 + 5 * 3 + 3) = .ok (.if_icmp .eq 870, 3) := by decide +kernel
theorem law_w_18 : law_W 18 k_X_street 3 7 := ⟨am_gw_in (p := 366) (by decide +kernel) rfl, am_gw_in (p := 367) (by decide +kernel) rfl, am_gw_in (p := 368) (by decide +kernel) rfl, by decide, by decide +kernel, by decide +kernel, by decide⟩
theorem law_w_22 : law_W 22 k_M_street 3 8 := ⟨am_gw_in (p := 1011) (by decide +kernel) rfl, am_gw_in (p := 1012) (by decide +kernel) rfl, am_gw_in (p := 1013) (by decide +kernel) rfl, by decide, by decide +kernel, by decide +kernel, by decide⟩
theorem law_C_236 : law_C 236 2 23 27 := law_Cb_of (by decide +kernel)
theorem law_t_236 : decode code (236 + 1 + 5 * 2 + 3 + 1 + 5 * 2 + 3) = .ok (.if_icmp .eq 837, 3) := by decide +kernel
theorem law_w_23 : law_W 23 k_X_lane 2 7 := ⟨am_gw_in (p := 385) (by decide +kernel) rfl, am_gw_in (p := 386) (by decide +kernel) rfl, am_gw_in (p := 387) (by decide +kernel) rfl, by decide, by decide +kernel, by decide +kernel, by decide⟩
theorem law_w_27 : law_W 27 k_M_lane 2 8 := ⟨am_gw_in (p := 1031) (by decide +kernel) rfl, am_gw_in (p := 1032) (by decide +kernel) rfl, am_gw_in (p := 1033) (by decide +kernel) rfl, by decide, by decide +kernel, by decide +kernel, by decide⟩
theorem law_C_269 : law_C 269 2 28 31 := law_Cb_of (by decide +kernel)
theorem law_t_269 : decode code (269 + 1 + 5 * 2 + 3 + 1 + 5 * 2 + 3) = .ok (.if_icmp .eq 804, 3) := by decide +kernel
theorem law_w_28 : law_W 28 k_X_gate 2 7 := ⟨am_gw_in (p := 408) (by decide +kernel) rfl, am_gw_in (p := 409) (by decide +kernel) rfl, am_gw_in (p := 410) (by decide +kernel) rfl, by decide, by decide +kernel, by decide +kernel, by decide⟩
theorem law_w_31 : law_W 31 k_M_gate 2 8 := ⟨am_gw_in (p := 1046) (by decide +kernel) rfl, am_gw_in (p := 1047) (by decide +kernel) rfl, am_gw_in (p := 1048) (by decide +kernel) rfl, by decide, by decide +kernel, by decide +kernel, by decide⟩
theorem law_C_302 : law_C 302 2 32 35 := law_Cb_of (by decide +kernel)
theorem law_t_302 : decode code (302 + 1 + 5 * 2 + 3 + 1 + 5 * 2 + 3) = .ok (.if_icmp .eq 771, 3) := by decide +kernel
theorem law_w_32 : law_W 32 k_X_wind 2 7 := ⟨am_gw_in (p := 415) (by decide +kernel) rfl, am_gw_in (p := 416) (by decide +kernel) rfl, am_gw_in (p := 417) (by decide +kernel) rfl, by decide, by decide +kernel, by decide +kernel, by decide⟩
theorem law_w_35 : law_W 35 k_M_wind 2 8 := ⟨am_gw_in (p := 1051) (by decide +kernel) rfl, am_gw_in (p := 1052) (by decide +kernel) rfl, am_gw_in (p := 1053) (by decide +kernel) rfl, by decide, by decide +kernel, by decide +kernel, by decide⟩
theorem law_C_335 : law_C 335 3 36 39 := law_Cb_of (by decide +kernel)
theorem law_t_335 : decode code (335 + 1 + 5 * 3 + 3 + 1 + 5 * 3 + 3) = .ok (.if_icmp .eq 728, 3) := by decide +kernel
theorem law_w_36 : law_W 36 k_X_dish 3 7 := ⟨am_gw_in (p := 419) (by decide +kernel) rfl, am_gw_in (p := 420) (by decide +kernel) rfl, am_gw_in (p := 421) (by decide +kernel) rfl, by decide, by decide +kernel, by decide +kernel, by decide⟩
theorem law_w_39 : law_W 39 k_M_dish 3 8 := ⟨am_gw_in (p := 1055) (by decide +kernel) rfl, am_gw_in (p := 1056) (by decide +kernel) rfl, am_gw_in (p := 1057) (by decide +kernel) rfl, by decide, by decide +kernel, by decide +kernel, by decide⟩
theorem law_C_378 : law_C 378 1 40 44 := law_Cb_of (by decide +kernel)
theorem law_t_378 : decode code (378 + 1 + 5 * 1 + 3 + 1 + 5 * 1 + 3) = .ok (.if_icmp .eq 705, 3) := by decide +kernel
theorem law_w_40 : law_W 40 k_X_type 1 7 := ⟨am_gw_in (p := 427) (by decide +kernel) rfl, am_gw_in (p := 428) (by decide +kernel) rfl, am_gw_in (p := 429) (by decide +kernel) rfl, by decide, by decide +kernel, by decide +kernel, by decide⟩
theorem law_w_44 : law_W 44 k_M_type 1 8 := ⟨am_gw_in (p := 1063) (by decide +kernel) rfl, am_gw_in (p := 1064) (by decide +kernel) rfl, am_gw_in (p := 1065) (by decide +kernel) rfl, by decide, by decide +kernel, by decide +kernel, by decide⟩
theorem law_C_401 : law_C 401 0 45 48 := law_Cb_of (by decide +kernel)
theorem law_t_401 : decode code (401 + 1 + 5 * 0 + 3 + 1 + 5 * 0 + 3) = .ok (.if_icmp .eq 692, 3) := by decide +kernel
theorem law_w_45 : law_W 45 k_X_clear 0 7 := ⟨am_gw_in (p := 435) (by decide +kernel) rfl, am_gw_in (p := 436) (by decide +kernel) rfl, am_gw_in (p := 437) (by decide +kernel) rfl, by decide, by decide +kernel, by decide +kernel, by decide⟩
theorem law_w_48 : law_W 48 k_M_clear 0 8 := ⟨am_gw_in (p := 1068) (by decide +kernel) rfl, am_gw_in (p := 1069) (by decide +kernel) rfl, am_gw_in (p := 1070) (by decide +kernel) rfl, by decide, by decide +kernel, by decide +kernel, by decide⟩
theorem law_C_414 : law_C 414 0 49 52 := law_Cb_of (by decide +kernel)
theorem law_t_414 : decode code (414 + 1 + 5 * 0 + 3 + 1 + 5 * 0 + 3) = .ok (.if_icmp .eq 679, 3) := by decide +kernel
theorem law_w_49 : law_W 49 k_X_read 0 7 := ⟨am_gw_in (p := 439) (by decide +kernel) rfl, am_gw_in (p := 440) (by decide +kernel) rfl, am_gw_in (p := 441) (by decide +kernel) rfl, by decide, by decide +kernel, by decide +kernel, by decide⟩
theorem law_w_52 : law_W 52 k_M_read 0 8 := ⟨am_gw_in (p := 1072) (by decide +kernel) rfl, am_gw_in (p := 1073) (by decide +kernel) rfl, am_gw_in (p := 1074) (by decide +kernel) rfl, by decide, by decide +kernel, by decide +kernel, by decide⟩
theorem law_C_427 : law_C 427 1 53 56 := law_Cb_of (by decide +kernel)
theorem law_t_427 : decode code (427 + 1 + 5 * 1 + 3 + 1 + 5 * 1 + 3) = .ok (.if_icmp .eq 656, 3) := by decide +kernel
theorem law_w_53 : law_W 53 k_X_day 1 7 := ⟨am_gw_in (p := 578) (by decide +kernel) rfl, am_gw_in (p := 579) (by decide +kernel) rfl, am_gw_in (p := 580) (by decide +kernel) rfl, by decide, by decide +kernel, by decide +kernel, by decide⟩
theorem law_w_56 : law_W 56 k_M_day 1 8 := ⟨am_gw_in (p := 1123) (by decide +kernel) rfl, am_gw_in (p := 1124) (by decide +kernel) rfl, am_gw_in (p := 1125) (by decide +kernel) rfl, by decide, by decide +kernel, by decide +kernel, by decide⟩
theorem law_C_450 : law_C 450 0 57 60 := law_Cb_of (by decide +kernel)
theorem law_t_450 : decode code (450 + 1 + 5 * 0 + 3 + 1 + 5 * 0 + 3) = .ok (.if_icmp .eq 643, 3) := by decide +kernel
theorem law_w_57 : law_W 57 k_X_undo 0 7 := ⟨am_gw_in (p := 655) (by decide +kernel) rfl, am_gw_in (p := 656) (by decide +kernel) rfl, am_gw_in (p := 657) (by decide +kernel) rfl, by decide, by decide +kernel, by decide +kernel, by decide⟩
theorem law_w_60 : law_W 60 k_M_undo 0 8 := ⟨am_gw_in (p := 1160) (by decide +kernel) rfl, am_gw_in (p := 1161) (by decide +kernel) rfl, am_gw_in (p := 1162) (by decide +kernel) rfl, by decide, by decide +kernel, by decide +kernel, by decide⟩
theorem law_C_463 : law_C 463 2 61 64 := law_Cb_of (by decide +kernel)
theorem law_t_463 : decode code (463 + 1 + 5 * 2 + 3 + 1 + 5 * 2 + 3) = .ok (.if_icmp .eq 610, 3) := by decide +kernel
theorem law_w_61 : law_W 61 k_X_of 2 7 := ⟨am_gw_in (p := 663) (by decide +kernel) rfl, am_gw_in (p := 664) (by decide +kernel) rfl, am_gw_in (p := 665) (by decide +kernel) rfl, by decide, by decide +kernel, by decide +kernel, by decide⟩
theorem law_w_64 : law_W 64 k_M_of 2 8 := ⟨am_gw_in (p := 1164) (by decide +kernel) rfl, am_gw_in (p := 1165) (by decide +kernel) rfl, am_gw_in (p := 1166) (by decide +kernel) rfl, by decide, by decide +kernel, by decide +kernel, by decide⟩
theorem law_C_496 : law_C 496 3 65 68 := law_Cb_of (by decide +kernel)
theorem law_t_496 : decode code (496 + 1 + 5 * 3 + 3 + 1 + 5 * 3 + 3) = .ok (.if_icmp .eq 567, 3) := by decide +kernel
theorem law_w_65 : law_W 65 k_X_smells 3 7 := ⟨am_gw_in (p := 671) (by decide +kernel) rfl, am_gw_in (p := 672) (by decide +kernel) rfl, am_gw_in (p := 673) (by decide +kernel) rfl, by decide, by decide +kernel, by decide +kernel, by decide⟩
theorem law_w_68 : law_W 68 k_M_smells 3 8 := ⟨am_gw_in (p := 1172) (by decide +kernel) rfl, am_gw_in (p := 1173) (by decide +kernel) rfl, am_gw_in (p := 1174) (by decide +kernel) rfl, by decide, by decide +kernel, by decide +kernel, by decide⟩
theorem law_C_539 : law_C 539 2 69 72 := law_Cb_of (by decide +kernel)
theorem law_t_539 : decode code (539 + 1 + 5 * 2 + 3 + 1 + 5 * 2 + 3) = .ok (.if_icmp .eq 534, 3) := by decide +kernel
theorem law_w_69 : law_W 69 k_X_moved 2 7 := ⟨am_gw_in (p := 679) (by decide +kernel) rfl, am_gw_in (p := 680) (by decide +kernel) rfl, am_gw_in (p := 681) (by decide +kernel) rfl, by decide, by decide +kernel, by decide +kernel, by decide⟩
theorem law_w_72 : law_W 72 k_M_moved 2 8 := ⟨am_gw_in (p := 1176) (by decide +kernel) rfl, am_gw_in (p := 1177) (by decide +kernel) rfl, am_gw_in (p := 1178) (by decide +kernel) rfl, by decide, by decide +kernel, by decide +kernel, by decide⟩
theorem law_C_572 : law_C 572 2 73 76 := law_Cb_of (by decide +kernel)
theorem law_t_572 : decode code (572 + 1 + 5 * 2 + 3 + 1 + 5 * 2 + 3) = .ok (.if_icmp .eq 501, 3) := by decide +kernel
theorem law_w_73 : law_W 73 k_X_falls 2 7 := ⟨am_gw_in (p := 687) (by decide +kernel) rfl, am_gw_in (p := 688) (by decide +kernel) rfl, am_gw_in (p := 689) (by decide +kernel) rfl, by decide, by decide +kernel, by decide +kernel, by decide⟩
theorem law_w_76 : law_W 76 k_M_falls 2 8 := ⟨am_gw_in (p := 1180) (by decide +kernel) rfl, am_gw_in (p := 1181) (by decide +kernel) rfl, am_gw_in (p := 1182) (by decide +kernel) rfl, by decide, by decide +kernel, by decide +kernel, by decide⟩
theorem law_C_605 : law_C 605 2 77 80 := law_Cb_of (by decide +kernel)
theorem law_t_605 : decode code (605 + 1 + 5 * 2 + 3 + 1 + 5 * 2 + 3) = .ok (.if_icmp .eq 468, 3) := by decide +kernel
theorem law_w_77 : law_W 77 k_X_order 2 7 := ⟨am_gw_in (p := 699) (by decide +kernel) rfl, am_gw_in (p := 700) (by decide +kernel) rfl, am_gw_in (p := 701) (by decide +kernel) rfl, by decide, by decide +kernel, by decide +kernel, by decide⟩
theorem law_w_80 : law_W 80 k_M_order 2 8 := ⟨am_gw_in (p := 1184) (by decide +kernel) rfl, am_gw_in (p := 1185) (by decide +kernel) rfl, am_gw_in (p := 1186) (by decide +kernel) rfl, by decide, by decide +kernel, by decide +kernel, by decide⟩
theorem law_C_638 : law_C 638 0 81 84 := law_Cb_of (by decide +kernel)
theorem law_t_638 : decode code (638 + 1 + 5 * 0 + 3 + 1 + 5 * 0 + 3) = .ok (.if_icmp .eq 455, 3) := by decide +kernel
theorem law_w_81 : law_W 81 k_X_never 0 7 := ⟨am_gw_in (p := 720) (by decide +kernel) rfl, am_gw_in (p := 721) (by decide +kernel) rfl, am_gw_in (p := 722) (by decide +kernel) rfl, by decide, by decide +kernel, by decide +kernel, by decide⟩
theorem law_w_84 : law_W 84 k_M_never 0 8 := ⟨am_gw_in (p := 1199) (by decide +kernel) rfl, am_gw_in (p := 1200) (by decide +kernel) rfl, am_gw_in (p := 1201) (by decide +kernel) rfl, by decide, by decide +kernel, by decide +kernel, by decide⟩
theorem law_C_651 : law_C 651 0 85 88 := law_Cb_of (by decide +kernel)
theorem law_t_651 : decode code (651 + 1 + 5 * 0 + 3 + 1 + 5 * 0 + 3) = .ok (.if_icmp .eq 442, 3) := by decide +kernel
theorem law_w_85 : law_W 85 k_X_least 0 7 := ⟨am_gw_in (p := 741) (by decide +kernel) rfl, am_gw_in (p := 742) (by decide +kernel) rfl, am_gw_in (p := 743) (by decide +kernel) rfl, by decide, by decide +kernel, by decide +kernel, by decide⟩
theorem law_w_88 : law_W 88 k_M_least 0 8 := ⟨am_gw_in (p := 1211) (by decide +kernel) rfl, am_gw_in (p := 1212) (by decide +kernel) rfl, am_gw_in (p := 1213) (by decide +kernel) rfl, by decide, by decide +kernel, by decide +kernel, by decide⟩
theorem law_C_664 : law_C 664 3 89 92 := law_Cb_of (by decide +kernel)
theorem law_t_664 : decode code (664 + 1 + 5 * 3 + 3 + 1 + 5 * 3 + 3) = .ok (.if_icmp .eq 399, 3) := by decide +kernel
theorem law_w_89 : law_W 89 k_X_answer 3 7 := ⟨am_gw_in (p := 763) (by decide +kernel) rfl, am_gw_in (p := 764) (by decide +kernel) rfl, am_gw_in (p := 765) (by decide +kernel) rfl, by decide, by decide +kernel, by decide +kernel, by decide⟩
theorem law_w_92 : law_W 92 k_M_answer 3 8 := ⟨am_gw_in (p := 1215) (by decide +kernel) rfl, am_gw_in (p := 1216) (by decide +kernel) rfl, am_gw_in (p := 1217) (by decide +kernel) rfl, by decide, by decide +kernel, by decide +kernel, by decide⟩
theorem law_C_707 : law_C 707 1 93 96 := law_Cb_of (by decide +kernel)
theorem law_t_707 : decode code (707 + 1 + 5 * 1 + 3 + 1 + 5 * 1 + 3) = .ok (.if_icmp .eq 376, 3) := by decide +kernel
theorem law_w_93 : law_W 93 k_X_game 1 7 := ⟨am_gw_in (p := 777) (by decide +kernel) rfl, am_gw_in (p := 778) (by decide +kernel) rfl, am_gw_in (p := 779) (by decide +kernel) rfl, by decide, by decide +kernel, by decide +kernel, by decide⟩
theorem law_w_96 : law_W 96 k_M_game 1 8 := ⟨am_gw_in (p := 1219) (by decide +kernel) rfl, am_gw_in (p := 1220) (by decide +kernel) rfl, am_gw_in (p := 1221) (by decide +kernel) rfl, by decide, by decide +kernel, by decide +kernel, by decide⟩
theorem law_C_730 : law_C 730 5 97 101 := law_Cb_of (by decide +kernel)
theorem law_t_730 : decode code (730 + 1 + 5 * 5 + 3 + 1 + 5 * 5 + 3) = .ok (.if_icmp .eq 313, 3) := by decide +kernel
theorem law_w_97 : law_W 97 k_X_note 5 7 := ⟨am_gw_in (p := 792) (by decide +kernel) rfl, am_gw_in (p := 793) (by decide +kernel) rfl, am_gw_in (p := 794) (by decide +kernel) rfl, by decide, by decide +kernel, by decide +kernel, by decide⟩
theorem law_w_101 : law_W 101 k_M_note 5 8 := ⟨am_gw_in (p := 1223) (by decide +kernel) rfl, am_gw_in (p := 1224) (by decide +kernel) rfl, am_gw_in (p := 1225) (by decide +kernel) rfl, by decide, by decide +kernel, by decide +kernel, by decide⟩
theorem law_C_793 : law_C 793 0 102 105 := law_Cb_of (by decide +kernel)
theorem law_t_793 : decode code (793 + 1 + 5 * 0 + 3 + 1 + 5 * 0 + 3) = .ok (.if_icmp .eq 300, 3) := by decide +kernel
theorem law_w_102 : law_W 102 k_X_forget 0 7 := ⟨am_gw_in (p := 803) (by decide +kernel) rfl, am_gw_in (p := 804) (by decide +kernel) rfl, am_gw_in (p := 805) (by decide +kernel) rfl, by decide, by decide +kernel, by decide +kernel, by decide⟩
theorem law_w_105 : law_W 105 k_M_forget 0 8 := ⟨am_gw_in (p := 1229) (by decide +kernel) rfl, am_gw_in (p := 1230) (by decide +kernel) rfl, am_gw_in (p := 1231) (by decide +kernel) rfl, by decide, by decide +kernel, by decide +kernel, by decide⟩
theorem law_C_806 : law_C 806 1 106 109 := law_Cb_of (by decide +kernel)
theorem law_t_806 : decode code (806 + 1 + 5 * 1 + 3 + 1 + 5 * 1 + 3) = .ok (.if_icmp .eq 277, 3) := by decide +kernel
theorem law_w_106 : law_W 106 k_X_craved 1 7 := ⟨am_gw_in (p := 807) (by decide +kernel) rfl, am_gw_in (p := 808) (by decide +kernel) rfl, am_gw_in (p := 809) (by decide +kernel) rfl, by decide, by decide +kernel, by decide +kernel, by decide⟩
theorem law_w_109 : law_W 109 k_M_craved 1 8 := ⟨am_gw_in (p := 1233) (by decide +kernel) rfl, am_gw_in (p := 1234) (by decide +kernel) rfl, am_gw_in (p := 1235) (by decide +kernel) rfl, by decide, by decide +kernel, by decide +kernel, by decide⟩
theorem law_C_829 : law_C 829 1 110 113 := law_Cb_of (by decide +kernel)
theorem law_t_829 : decode code (829 + 1 + 5 * 1 + 3 + 1 + 5 * 1 + 3) = .ok (.if_icmp .eq 254, 3) := by decide +kernel
theorem law_w_110 : law_W 110 k_X_is 1 7 := ⟨am_gw_in (p := 823) (by decide +kernel) rfl, am_gw_in (p := 824) (by decide +kernel) rfl, am_gw_in (p := 825) (by decide +kernel) rfl, by decide, by decide +kernel, by decide +kernel, by decide⟩
theorem law_w_113 : law_W 113 k_M_is 1 8 := ⟨am_gw_in (p := 1241) (by decide +kernel) rfl, am_gw_in (p := 1242) (by decide +kernel) rfl, am_gw_in (p := 1243) (by decide +kernel) rfl, by decide, by decide +kernel, by decide +kernel, by decide⟩
theorem law_C_852 : law_C 852 3 114 117 := law_Cb_of (by decide +kernel)
theorem law_t_852 : decode code (852 + 1 + 5 * 3 + 3 + 1 + 5 * 3 + 3) = .ok (.if_icmp .eq 211, 3) := by decide +kernel
theorem law_w_114 : law_W 114 k_X_tryNext 3 7 := ⟨am_gw_in (p := 827) (by decide +kernel) rfl, am_gw_in (p := 828) (by decide +kernel) rfl, am_gw_in (p := 829) (by decide +kernel) rfl, by decide, by decide +kernel, by decide +kernel, by decide⟩
theorem law_w_117 : law_W 117 k_M_tryNext 3 8 := ⟨am_gw_in (p := 1245) (by decide +kernel) rfl, am_gw_in (p := 1246) (by decide +kernel) rfl, am_gw_in (p := 1247) (by decide +kernel) rfl, by decide, by decide +kernel, by decide +kernel, by decide⟩
theorem law_C_895 : law_C 895 3 118 121 := law_Cb_of (by decide +kernel)
theorem law_t_895 : decode code (895 + 1 + 5 * 3 + 3 + 1 + 5 * 3 + 3) = .ok (.if_icmp .eq 168, 3) := by decide +kernel
theorem law_w_118 : law_W 118 k_X_rain 3 7 := ⟨am_gw_in (p := 842) (by decide +kernel) rfl, am_gw_in (p := 843) (by decide +kernel) rfl, am_gw_in (p := 844) (by decide +kernel) rfl, by decide, by decide +kernel, by decide +kernel, by decide⟩
theorem law_w_121 : law_W 121 k_M_rain 3 8 := ⟨am_gw_in (p := 1249) (by decide +kernel) rfl, am_gw_in (p := 1250) (by decide +kernel) rfl, am_gw_in (p := 1251) (by decide +kernel) rfl, by decide, by decide +kernel, by decide +kernel, by decide⟩
theorem law_C_938 : law_C 938 2 122 125 := law_Cb_of (by decide +kernel)
theorem law_t_938 : decode code (938 + 1 + 5 * 2 + 3 + 1 + 5 * 2 + 3) = .ok (.if_icmp .eq 135, 3) := by decide +kernel
theorem law_w_122 : law_W 122 k_X_sieges 2 7 := ⟨am_gw_in (p := 859) (by decide +kernel) rfl, am_gw_in (p := 860) (by decide +kernel) rfl, am_gw_in (p := 861) (by decide +kernel) rfl, by decide, by decide +kernel, by decide +kernel, by decide⟩
theorem law_w_125 : law_W 125 k_M_sieges 2 8 := ⟨am_gw_in (p := 1255) (by decide +kernel) rfl, am_gw_in (p := 1256) (by decide +kernel) rfl, am_gw_in (p := 1257) (by decide +kernel) rfl, by decide, by decide +kernel, by decide +kernel, by decide⟩
theorem law_C_971 : law_C 971 1 126 130 := law_Cb_of (by decide +kernel)
theorem law_t_971 : decode code (971 + 1 + 5 * 1 + 3 + 1 + 5 * 1 + 3) = .ok (.lcmp, 1) := by decide +kernel
theorem law_u_971 : decode code (971 + 1 + 5 * 1 + 3 + 1 + 5 * 1 + 3 + 1) = .ok (.ifCond .eq 111, 3) := by decide +kernel
theorem law_w_126 : law_W 126 k_X_part 1 7 := ⟨am_gw_in (p := 880) (by decide +kernel) rfl, am_gw_in (p := 881) (by decide +kernel) rfl, am_gw_in (p := 882) (by decide +kernel) rfl, by decide, by decide +kernel, by decide +kernel, by decide⟩
theorem law_w_130 : law_W 130 k_M_part 1 8 := ⟨am_gw_in (p := 1269) (by decide +kernel) rfl, am_gw_in (p := 1270) (by decide +kernel) rfl, am_gw_in (p := 1271) (by decide +kernel) rfl, by decide, by decide +kernel, by decide +kernel, by decide⟩
theorem law_C_995 : law_C 995 1 131 134 := law_Cb_of (by decide +kernel)
theorem law_t_995 : decode code (995 + 1 + 5 * 1 + 3 + 1 + 5 * 1 + 3) = .ok (.if_icmp .eq 88, 3) := by decide +kernel
theorem law_w_131 : law_W 131 k_X_image 1 7 := ⟨am_gw_in (p := 884) (by decide +kernel) rfl, am_gw_in (p := 885) (by decide +kernel) rfl, am_gw_in (p := 886) (by decide +kernel) rfl, by decide, by decide +kernel, by decide +kernel, by decide⟩
theorem law_w_134 : law_W 134 k_M_image 1 8 := ⟨am_gw_in (p := 1273) (by decide +kernel) rfl, am_gw_in (p := 1274) (by decide +kernel) rfl, am_gw_in (p := 1275) (by decide +kernel) rfl, by decide, by decide +kernel, by decide +kernel, by decide⟩
theorem law_C_1018 : law_C 1018 1 135 138 := law_Cb_of (by decide +kernel)
theorem law_t_1018 : decode code (1018 + 1 + 5 * 1 + 3 + 1 + 5 * 1 + 3) = .ok (.if_icmp .eq 65, 3) := by decide +kernel
theorem law_w_135 : law_W 135 k_X_from 1 7 := ⟨am_gw_in (p := 891) (by decide +kernel) rfl, am_gw_in (p := 892) (by decide +kernel) rfl, am_gw_in (p := 893) (by decide +kernel) rfl, by decide, by decide +kernel, by decide +kernel, by decide⟩
theorem law_w_138 : law_W 138 k_M_from 1 8 := ⟨am_gw_in (p := 1277) (by decide +kernel) rfl, am_gw_in (p := 1278) (by decide +kernel) rfl, am_gw_in (p := 1279) (by decide +kernel) rfl, by decide, by decide +kernel, by decide +kernel, by decide⟩
theorem law_C_1041 : law_C 1041 1 139 142 := law_Cb_of (by decide +kernel)
theorem law_t_1041 : decode code (1041 + 1 + 5 * 1 + 3 + 1 + 5 * 1 + 3) = .ok (.if_icmp .eq 42, 3) := by decide +kernel
theorem law_w_139 : law_W 139 k_X_status 1 7 := ⟨am_gw_in (p := 895) (by decide +kernel) rfl, am_gw_in (p := 896) (by decide +kernel) rfl, am_gw_in (p := 897) (by decide +kernel) rfl, by decide, by decide +kernel, by decide +kernel, by decide⟩
theorem law_w_142 : law_W 142 k_M_status 1 8 := ⟨am_gw_in (p := 1281) (by decide +kernel) rfl, am_gw_in (p := 1282) (by decide +kernel) rfl, am_gw_in (p := 1283) (by decide +kernel) rfl, by decide, by decide +kernel, by decide +kernel, by decide⟩
theorem law_C_1064 : law_C 1064 1 143 146 := law_Cb_of (by decide +kernel)
theorem law_t_1064 : decode code (1064 + 1 + 5 * 1 + 3 + 1 + 5 * 1 + 3) = .ok (.if_icmp .eq 19, 3) := by decide +kernel
theorem law_w_143 : law_W 143 k_X_count 1 7 := ⟨am_gw_in (p := 899) (by decide +kernel) rfl, am_gw_in (p := 900) (by decide +kernel) rfl, am_gw_in (p := 901) (by decide +kernel) rfl, by decide, by decide +kernel, by decide +kernel, by decide⟩
theorem law_w_146 : law_W 146 k_M_count 1 8 := ⟨am_gw_in (p := 1285) (by decide +kernel) rfl, am_gw_in (p := 1286) (by decide +kernel) rfl, am_gw_in (p := 1287) (by decide +kernel) rfl, by decide, by decide +kernel, by decide +kernel, by decide⟩
theorem law_C_1087 : law_C 1087 0 147 151 := law_Cb_of (by decide +kernel)
theorem law_t_1087 : decode code (1087 + 1 + 5 * 0 + 3 + 1 + 5 * 0 + 3) = .ok (.lcmp, 1) := by decide +kernel
theorem law_u_1087 : decode code (1087 + 1 + 5 * 0 + 3 + 1 + 5 * 0 + 3 + 1) = .ok (.ifCond .eq 5, 3) := by decide +kernel
theorem law_w_147 : law_W 147 k_X_digest 0 7 := ⟨am_gw_in (p := 904) (by decide +kernel) rfl, am_gw_in (p := 905) (by decide +kernel) rfl, am_gw_in (p := 906) (by decide +kernel) rfl, by decide, by decide +kernel, by decide +kernel, by decide⟩
theorem law_w_151 : law_W 151 k_M_digest 0 8 := ⟨am_gw_in (p := 1294) (by decide +kernel) rfl, am_gw_in (p := 1295) (by decide +kernel) rfl, am_gw_in (p := 1296) (by decide +kernel) rfl, by decide, by decide +kernel, by decide +kernel, by decide⟩
theorem dL_law_0 : decode cL_law 0 = .ok (.new 7, 3) := by decide +kernel
theorem dL_law_3 : decode cL_law 3 = .ok (.dup, 1) := by decide +kernel
theorem dL_law_4 : decode cL_law 4 = .ok (.invokespecial 9, 3) := by decide +kernel
theorem dL_law_7 : decode cL_law 7 = .ok (.astore_n 1, 1) := by decide +kernel
theorem dL_law_8 : decode cL_law 8 = .ok (.new 10, 3) := by decide +kernel
theorem dL_law_11 : decode cL_law 11 = .ok (.dup, 1) := by decide +kernel
theorem dL_law_12 : decode cL_law 12 = .ok (.invokespecial 12, 3) := by decide +kernel
theorem dL_law_15 : decode cL_law 15 = .ok (.astore_n 2, 1) := by decide +kernel
theorem dL_law_16 : decode cL_law 16 = .ok (.iconst 0, 1) := by decide +kernel
theorem dL_law_17 : decode cL_law 17 = .ok (.istore_n 3, 1) := by decide +kernel
theorem dL_law_18 : decode cL_law 18 = .ok (.iload_n 3, 1) := by decide +kernel
theorem dL_law_19 : decode cL_law 19 = .ok (.aload_n 0, 1) := by decide +kernel
theorem dL_law_20 : decode cL_law 20 = .ok (.arraylength, 1) := by decide +kernel
theorem dL_law_21 : decode cL_law 21 = .ok (.bipush 6, 2) := by decide +kernel
theorem dL_law_23 : decode cL_law 23 = .ok (.isub, 1) := by decide +kernel
theorem dL_law_24 : decode cL_law 24 = .ok (.if_icmp .gt 1083, 3) := by decide +kernel
theorem dL_law_27 : decode cL_law 27 = .ok (.aload_n 0, 1) := by decide +kernel
theorem dL_law_28 : decode cL_law 28 = .ok (.iload_n 3, 1) := by decide +kernel
theorem dL_law_29 : decode cL_law 29 = .ok (.iaload, 1) := by decide +kernel
theorem dL_law_30 : decode cL_law 30 = .ok (.bipush 63, 2) := by decide +kernel
theorem dL_law_32 : decode cL_law 32 = .ok (.iand, 1) := by decide +kernel
theorem dL_law_33 : decode cL_law 33 = .ok (.tableswitch 1068 0 32 #[147, 160, 203, 236, 269, 302, 345, 368, 381, 394, 417, 430, 463, 506, 539, 572, 605, 618, 631, 674, 697, 760, 773, 796, 819, 862, 905, 938, 962, 985, 1008, 1031, 1054], 147) := by decide +kernel
theorem dL_law_1101 : decode cL_law 1101 = .ok (.iinc 3 6, 3) := by decide +kernel
theorem dL_law_1104 : decode cL_law 1104 = .ok (.goto (-1086), 3) := by decide +kernel
theorem dL_law_1107 : decode cL_law 1107 = .ok (.iconst 1, 1) := by decide +kernel
theorem dL_law_1108 : decode cL_law 1108 = .ok (.ireturn, 1) := by decide +kernel
def LF (p : Program) (s : State) (m : MethodId) (c : Code) (b L : Nat) (xs : Nat → Int32) (adK adV : Nat → Nat) (D : va_G) (dA : Nat → ClassId) : Prop :=
  p.tables.exec = Jvm.exec ∧ c.code = code ∧ c.maxLocals = 4 ∧ s.vm.findClass RL = some m.cls ∧ (∀ w ∈ am_gw, w.before #[Value.ref b] s = true) ∧ am_Kx D dA adK s ∧ JX adK adV s.heap.size s ∧ va_X b L xs s s.heap ∧ b < s.heap.size
def LWd (s : State) (D : va_G) (dA : Nat → ClassId) (adK : Nat → Nat) (w : am_W) (H : Heap) (locs : List Loc) : Prop :=
  va_P D vwCl (am_rz dA s.heap.size adK 0 w) H ∧ H.size = s.heap.size + w.length ∧ va_S (fun q => s.heap.size ≤ q) s.heap H locs
def law_as (xs : Nat → Int32) (i n : Nat) : List Value := (List.range n).map fun j => Value.int (xs (i + 1 + j))
theorem law_as_s (xs : Nat → Int32) (i n : Nat) : (law_as xs i (n + 1)).reverse = Value.int (xs (i + 1 + n)) :: (law_as xs i n).reverse := by
  unfold law_as
  rw [List.range_succ, List.map_append, List.reverse_append]
  rfl
theorem law_as_m (B : Nat) (sa : Nat → Nat) (xs : Nat → Int32) (i n : Nat) : (law_as xs i n).map (am_sh B sa) = law_as xs i n := by
  unfold law_as
  rw [List.map_map]
  rfl
theorem law_as_len (xs : Nat → Int32) (i n : Nat) : (law_as xs i n).length = n := by
  unfold law_as
  rw [List.length_map, List.length_range]
theorem fm_len (S : fm_S) : (fm_mk S).length = fm_n := by
  unfold fm_mk
  rw [List.length_map, List.length_range]
theorem fm_sz (S S' : fm_S) : am_sz (fm_mk S) = am_sz (fm_mk S') := by
  unfold am_sz fm_mk
  rw [List.map_map, List.map_map]
  congr 2
  funext a
  show (fm_vs S a).length = (fm_vs S' a).length
  rw [fm_vs_len, fm_vs_len]
section LAW
variable {p : Program} {l : Launch} {e : Env} {s : State} {m : MethodId} {below : List Frame} {meth : Method} {c : Code} {H : Heap} {locs : List Loc} {cells slots : Nat} {Q : State → Prop}
variable {pc b L : Nat} {xs : Nat → Int32} {ls : Array Slot} {adK adV : Nat → Nat} {D : va_G} {dA : Nat → ClassId} {rest st0 : List Value} {w w' : am_W} {v : Option Value}
theorem law_base {k na mc ms : Nat} (hts : ∀ w ∈ am_gw, w.before #[Value.ref b] s = true) (hk : k < am_N) (har : (parseMethodDescriptor (am_y k).desc).map (fun d => d.parameters.length) = some na) :
    ((am_rm 11 mc ms).cells = mc ∧ (am_rm 11 mc ms).slots = ms ∧ (am_rm 11 mc ms).frames + 1 ≤ room_1.frames ∧ 8 + (am_mx k + 11) + (am_rm 11 mc ms).locals ≤ room_1.locals ∧ (∀ w ∈ (Cond.code (am_y k) (am_code k) (am_mx k) (am_rt k) :: am_gw), ∀ (a' : Array Value) (U : State), s.WarmedH U.vm → w.before a' U = true) ∧ Cond.code (am_y k) (am_code k) (am_mx k) (am_rt k) ∈ (Cond.code (am_y k) (am_code k) (am_mx k) (am_rt k) :: am_gw)) ∧
      (Cond.code (am_y k) (am_code k) (am_mx k) (am_rt k)).before #[Value.ref b] s = true ∧ (Cond.initialized (am_y k).cls).before #[Value.ref b] s = true ∧ ((am_y k).cls ≠ "java/lang/invoke/MethodHandle" ∧ (am_y k).cls ≠ "java/lang/invoke/VarHandle") ∧ (∀ sig, parseMethodDescriptor (am_y k).desc = some sig → na = sig.parameters.length) := by
  obtain ⟨h1, h2, h3, -, h5, h6, -⟩ := am_okM_of hk
  have hcode := am_gw_in h1 rfl
  refine ⟨⟨rfl, rfl, by show 11 + 1 ≤ 12; omega, by show 8 + (am_mx k + 11) + 35 * 11 ≤ 424; omega, pay_in hts fun w hw => ?_, List.mem_cons_self⟩, hts _ hcode, hts _ (by rw [h2]; exact am_gw_in h3 rfl), h5, fun sig h => ?_⟩
  · rcases List.mem_cons.mp hw with rfl | hw
    · exact ⟨hcode, good_of_word rfl⟩
    · exact ⟨hw, good_of_word (List.mem_filter.mp hw).2⟩
  · rw [h] at har
    exact (Option.some.inj har).symm
theorem law_go {mc ms : Nat} {A : Array Value} (hr : va_Run p l e room_1 s m #[Value.ref b] below meth c H locs cells slots mc ms (F0 m pc ls st0) rest (am_Q D dA s.heap.size adK v w' A) (fun q => s.heap.size ≤ q)) (hS : va_S (fun q => s.heap.size ≤ q) s.heap H locs)
    (kk : ∀ H' locs', LWd s D dA adK w' H' locs' → W p l e room_1 s m #[Value.ref b] below meth c H' locs' (cells + mc) (slots + ms) Q (F0 m (pc + 3) ls ((v.map (am_sh s.heap.size adK)).toList ++ rest))) : W p l e room_1 s m #[Value.ref b] below meth c H locs cells slots Q (F0 m pc ls st0) := by
  refine am_call (y := 0) hr fun v2 st t Lc e0 hLc hq => ?_
  obtain ⟨q1, q2, q3, q4, q5⟩ := hq
  cases q1
  rw [e0] at q4 q5
  exact kk t.heap (locs ++ Lc) ⟨q2, q3, ⟨Nat.le_trans hS.1 q4, fun q g1 g2 => (q5 q (Nat.lt_of_lt_of_le g1 hS.1) g2).trans (hS.2.1 q g1 g2), fun q hq => (List.mem_append.mp hq).elim (hS.2.2 q) (hLc q)⟩⟩
theorem law_V {k t a n idx : Nat} {as vs : List Value} (F : LF p s m c b L xs adK adV D dA) (W0 : law_W idx k n t) (hsz : ls.size = 4) (hw : LWd s D dA adK w H locs) (hsp : am_Sp 11 k (.ref a :: as) w v w') (hlen : w.length = w'.length) (hz : am_sz w = am_sz w') (ha : w[a]? = some (t, vs)) (hn : as.length = n)
    (hst : st0 = (as.map (am_sh s.heap.size adK)).reverse ++ Value.ref (s.heap.size + a) :: rest) (hr : (rest.map fun v => v.category).sum ≤ 8) (hd : decode code pc = .ok (.invokevirtual idx, 3)) (hc : cells ≤ 600000 ∧ slots ≤ 7302250)
    (kk : ∀ H' locs', LWd s D dA adK w' H' locs' → W p l e room_1 s m #[Value.ref b] below meth c H' locs' cells slots Q (F0 m (pc + 3) ls ((v.map (am_sh s.heap.size adK)).toList ++ rest))) : W p l e room_1 s m #[Value.ref b] below meth c H locs cells slots Q (F0 m pc ls st0) := by
  obtain ⟨hx, hb, hml, hown, hts, hK, hJ, hX, hbl⟩ := F
  obtain ⟨w1, w2, w3, hk, har, hcl, ht⟩ := W0
  obtain ⟨hP, hs2, hS⟩ := hw
  obtain ⟨b1, b2, b3, b4, b5⟩ := law_base (mc := 0) (ms := 0) hts hk har
  have hM := am_Sp.met (l := l) (D := D) (dA := dA) (JX_XM (adK := adK) (adV := adV) (B := s.heap.size)) (JX_XE l) hsp (mc := 0) (ms := 0) hlen hz
  have he := am_get dA (B := s.heap.size) (sa := adK) ha
  rw [am_E_obj ht] at he
  have hrec := va_recv hK.1 hP (am_ks_cl _ ht) he
  refine law_go (va_runV (b := s.heap.size + a) (C := (am_y k).cls) (As := as.map (am_sh s.heap.size adK)) ⟨hx, hb, hml, hown, hts⟩ hM ⟨⟨b1.1, b1.2.1, b1.2.2.1, b1.2.2.2.1, b1.2.2.2.2.1, b1.2.2.2.2.2, b2, b3, b4, b5, hts _ w1⟩, hts _ w2, hts _ w3⟩
    ⟨am_blind JX_XM, by rw [← hcl]; exact hrec, fun U hU hW => ⟨rfl, hK.warm hW, JX_XM s U hW (by rw [hU]; exact hS.1) (fun q q1 q2 => by rw [hU]; exact hS.2.1 q q1 q2) hJ, by rw [hU]; exact hP, by rw [hU]; exact hs2⟩⟩ rfl (by rw [List.length_map]; exact hn) hsz hst (lv_room hr) hd hc) hS kk
theorem law_I {k a idx mc ms : Nat} (F : LF p s m c b L xs adK adV D dA) (w1 : Cond.methodLink RL idx (am_y k) ∈ am_gw) (w2 : Cond.instanceMethod (am_y k) ∈ am_gw) (hk : k < am_N) (hrt : am_rt k = none) (hnm : (am_y k).name = "<init>") (har : (parseMethodDescriptor (am_y k).desc).map (fun d => d.parameters.length) = some 0)
    (hsz : ls.size = 4) (hw : LWd s D dA adK w H locs) (hsp : am_Sp 11 k [.ref a] w none w') (hlen : w.length + mc = w'.length) (hz : am_sz w + ms = am_sz w')
    (hst : st0 = Value.ref (s.heap.size + a) :: rest) (hr : (rest.map fun v => v.category).sum ≤ 8) (hd : decode code pc = .ok (.invokespecial idx, 3)) (hc : cells + mc ≤ 600000 ∧ slots + ms ≤ 7302250)
    (kk : ∀ H' locs', LWd s D dA adK w' H' locs' → W p l e room_1 s m #[Value.ref b] below meth c H' locs' (cells + mc) (slots + ms) Q (F0 m (pc + 3) ls rest)) : W p l e room_1 s m #[Value.ref b] below meth c H locs cells slots Q (F0 m pc ls st0) := by
  obtain ⟨hx, hb, hml, hown, hts, hK, hJ, hX, hbl⟩ := F
  obtain ⟨hP, hs2, hS⟩ := hw
  obtain ⟨b1, b2, b3, b4, b5⟩ := law_base (mc := mc) (ms := ms) hts hk har
  have hM := am_Sp.met (l := l) (D := D) (dA := dA) (JX_XM (adK := adK) (adV := adV) (B := s.heap.size)) (JX_XE l) hsp hlen hz
  rw [hrt] at b1 b2 hM
  exact law_go (v := none) (va_runI (b := s.heap.size + a) (As := []) ⟨hx, hb, hml, hown, hts⟩ hM ⟨⟨b1.1, b1.2.1, b1.2.2.1, b1.2.2.2.1, b1.2.2.2.2.1, b1.2.2.2.2.2, b2, b3, b4, b5, hts _ w1⟩, hnm, hts _ w2⟩
    ⟨am_blind JX_XM, fun U hU hW => ⟨rfl, hK.warm hW, JX_XM s U hW (by rw [hU]; exact hS.1) (fun q q1 q2 => by rw [hU]; exact hS.2.1 q q1 q2) hJ, by rw [hU]; exact hP, by rw [hU]; exact hs2⟩⟩ rfl rfl hsz hst (lv_room hr) hd hc) hS kk
/-- a new object of class t -/
theorem law_N {t idx : Nat} (F : LF p s m c b L xs adK adV D dA) (ht : t < 9) (w1 : Cond.classLink RL idx (am_k t).2.1 ∈ am_gw) (hw : LWd s D dA adK w H locs) (hd : decode code pc = .ok (.new idx, 3)) (hc : cells + 1 ≤ 600000 ∧ slots + (am_k t).2.2.2.1 ≤ 7302250)
    (kk : ∀ H', LWd s D dA adK (w ++ [(t, am_df t)]) H' locs → W p l e room_1 s m #[Value.ref b] below meth c H' locs (cells + 1) (slots + (am_k t).2.2.2.1) Q (F0 m (pc + 3) ls (.ref (s.heap.size + w.length) :: rest))) : W p l e room_1 s m #[Value.ref b] below meth c H locs cells slots Q (F0 m pc ls rest) := by
  obtain ⟨hx, hb, hml, hown, hts, hK, hJ, hX, hbl⟩ := F
  obtain ⟨hP, hs2, hS⟩ := hw
  obtain ⟨-, -, hin2, hin3⟩ := am_ks_of ht
  have hKn := hK.1.1 t _ (am_ks_cl _ ht)
  refine W.newcK hx hb hown (hts _ w1) (hts _ (am_gw_in hin2 rfl)) (hts _ (am_gw_in hin3 rfl)) rfl hd hc.1 hc.2 hKn.2.1 hs2 fun H1 kC hkC e1 z1 o1 => ?_
  refine kk H1 ⟨am_new hP hs2 ?_ (fun x hx => o1 x (by omega)), by rw [z1, List.length_append]; simp; omega, am_newS hS (by omega) (fun x hx => o1 x (by omega))⟩
  rw [am_E_obj ht]
  exact ⟨_, am_ks_cl _ ht, (u_born _ hts (am_ks_in ht) hKn hkC e1 (am_ks_ty _ ht)).to (am_df_sh s.heap.size adK)⟩
theorem law_arg {i j : Nat} {lv : List (Nat × Value)} (F : LF p s m c b L xs adK adV D dA) (hS : va_S (fun q => s.heap.size ≤ q) s.heap H locs) (h : law_a pc j) (hl : lv_has ls 4 lv) (h0 : lv[0]? = some (0, .ref b)) (h3 : lv[3]? = some (3, .int (nI i))) (hi : i + 1 + j < L) (hL : L < 4000)
    (kk : W p l e room_1 s m #[Value.ref b] below meth c H locs cells slots Q (F0 m (pc + 5) ls (.int (xs (i + 1 + j)) :: rest))) : W p l e room_1 s m #[Value.ref b] below meth c H locs cells slots Q (F0 m pc ls rest) := by
  obtain ⟨hx, hb, hml, hown, hts, hK, hJ, hX, hbl⟩ := F
  obtain ⟨a1, a2, a3, a4, a5⟩ := h
  refine lv_aload_n hx hb a1 rfl (lv_at hl 0 h0) ?_
  refine lv_iload_n hx hb a2 rfl (lv_at hl 3 h3) ?_
  refine lv_iconst (v := nI (j + 1)) hx hb a3 ?_ ?_
  · show Int32.ofInt ((j : Int) + 1) = Int32.ofNat (j + 1)
    rfl
  refine lv_iadd hx hb a4 ?_
  rw [nI_add, show i + (j + 1) = i + 1 + j by omega]
  refine va_sld hx hb hX hbl (Nat.not_le.mpr hbl) hS (vp_in_nI hi (by omega)) a5 ?_
  rw [nI_clamp (by omega)]
  exact kk
theorem law_push {i : Nat} {lv : List (Nat × Value)} (F : LF p s m c b L xs adK adV D dA) (hS : va_S (fun q => s.heap.size ≤ q) s.heap H locs) (hl : lv_has ls 4 lv) (h0 : lv[0]? = some (0, .ref b)) (h3 : lv[3]? = some (3, .int (nI i))) (hL : L < 4000) :
    ∀ n, (∀ j, j < n → law_a (pc + 5 * j) j) → i + n < L → W p l e room_1 s m #[Value.ref b] below meth c H locs cells slots Q (F0 m (pc + 5 * n) ls ((law_as xs i n).reverse ++ rest)) → W p l e room_1 s m #[Value.ref b] below meth c H locs cells slots Q (F0 m pc ls rest)
  | 0, _, _, kk => kk
  | n + 1, h, hi, kk => by
    refine law_push F hS hl h0 h3 hL n (fun j hj => h j (Nat.lt_succ_of_lt hj)) (by omega) ?_
    refine law_arg (j := n) F hS (h n (Nat.lt_succ_self n)) hl h0 h3 (by omega) hL ?_
    rw [law_as_s] at kk
    exact kk
abbrev law_lv (b B i : Nat) : List (Nat × Value) := [(0, .ref b), (1, .ref B), (2, .ref (B + 231)), (3, .int (nI i))]
theorem law_two {α : Type} {ev : α → Option Value} {n ix im kX kM i N : Nat} {S : fm_S} (F : LF p s m c b L xs adK adV D dA) (C : law_C pc n ix im) (WX : law_W ix kX n 7) (WM : law_W im kM n 8) (hl : lv_has ls 4 (law_lv b s.heap.size i)) (hi : i + n < L) (hL : L < 4000)
    (hcat : ∀ x, (ev x).isSome = true ∧ ∀ y, ev x = some y → am_sh s.heap.size adK y = y ∧ y.category ≤ 2)
    (hp : pair ev kX kM (.ref 0 :: law_as xs i n) (.ref 231 :: law_as xs i n) S N) (hw : LWd s D dA adK (fm_mk S) H locs) (hc : cells ≤ 600000 ∧ slots ≤ 7302250)
    (kk : ∀ x S' H' locs', Inv S' (N + 1) → LWd s D dA adK (fm_mk S') H' locs' → W p l e room_1 s m #[Value.ref b] below meth c H' locs' cells slots Q (F0 m (pc + 1 + 5 * n + 3 + 1 + 5 * n + 3) ls ((ev x).toList ++ (ev x).toList))) : W p l e room_1 s m #[Value.ref b] below meth c H locs cells slots Q (F0 m pc ls []) := by
  obtain ⟨c1, c2, c3, c4, c5, c6⟩ := C
  have F' := F
  obtain ⟨hx, hb, hml, hown, hts, hK, hJ, hX, hbl⟩ := F'
  obtain ⟨x, S1, s1, y, S2, s2, rfl, hI⟩ := hp
  have ex : (ev x).map (am_sh s.heap.size adK) = ev x := by
    have h := (hcat x).2
    revert h
    rcases ev x with _ | y
    · exact fun _ => rfl
    · exact fun h => congrArg some (h y rfl).1
  have t7 : fm_tg 0 = 7 := by decide +kernel
  have t8 : fm_tg 231 = 8 := by decide +kernel
  refine lv_aload_n hx hb c1 rfl (lv_at hl 1 rfl) ?_
  refine law_push F hw.2.2 hl rfl rfl hL n c2 hi ?_
  refine law_V (a := 0) (rest := []) (as := law_as xs i n) (v := ev x) (w' := fm_mk S1) F WX hl.1 hw s1 (by rw [fm_len, fm_len]) (fm_sz _ _) (by rw [fm_get S (by rw [t7]; decide), t7]) (law_as_len _ _ _) (by rw [law_as_m]; rfl) (by decide) c3 hc fun H1 locs1 hw1 => ?_
  rw [ex, List.append_nil]
  refine lv_aload_n hx hb c4 rfl (lv_at hl 2 rfl) ?_
  refine law_push F hw1.2.2 hl rfl rfl hL n c5 hi ?_
  refine law_V (a := 231) (rest := (ev x).toList) (as := law_as xs i n) (v := ev x) (w' := fm_mk S2) F WM hl.1 hw1 s2 (by rw [fm_len, fm_len]) (fm_sz _ _) (by rw [fm_get S1 (by rw [t8]; decide), t8]) (law_as_len _ _ _) (by rw [law_as_m]) ?_ c6 hc fun H2 locs2 hw2 => ?_
  · have h := (hcat x).2
    revert h
    rcases ev x with _ | y
    · exact fun _ => by decide
    · intro h
      have := (h y rfl).2
      show y.category + 0 ≤ 8
      omega
  rw [ex]
  exact kk x S2 H2 locs2 hI hw2
theorem law_pairI {n ix im kX kM i N : Nat} {o : Int} {S : fm_S} (F : LF p s m c b L xs adK adV D dA) (C : law_C pc n ix im) (ht : decode code (pc + 1 + 5 * n + 3 + 1 + 5 * n + 3) = .ok (.if_icmp .eq o, 3)) (ho : ((pc + 1 + 5 * n + 3 + 1 + 5 * n + 3 : Nat) : Int) + o = ((1101 : Nat) : Int)) (WX : law_W ix kX n 7) (WM : law_W im kM n 8) (hl : lv_has ls 4 (law_lv b s.heap.size i)) (hi : i + n < L) (hL : L < 4000)
    (hp : pair vI kX kM (.ref 0 :: law_as xs i n) (.ref 231 :: law_as xs i n) S N) (hw : LWd s D dA adK (fm_mk S) H locs) (hc : cells ≤ 600000 ∧ slots ≤ 7302250)
    (kk : ∀ S' H' locs', Inv S' (N + 1) → LWd s D dA adK (fm_mk S') H' locs' → W p l e room_1 s m #[Value.ref b] below meth c H' locs' cells slots Q (F0 m 1101 ls [])) : W p l e room_1 s m #[Value.ref b] below meth c H locs cells slots Q (F0 m pc ls []) :=
  law_two F C WX WM hl hi hL (fun x => ⟨rfl, fun y h => by cases h; exact ⟨rfl, by show 1 ≤ 2; omega⟩⟩) hp hw hc fun x S' H' locs' h1 h2 => lv_icmp_eq F.1 F.2.1 ht ho (fun _ => kk S' H' locs' h1 h2) fun z => absurd rfl z
theorem law_pairL {n ix im kX kM i N : Nat} {o : Int} {S : fm_S} (F : LF p s m c b L xs adK adV D dA) (C : law_C pc n ix im) (ht : decode code (pc + 1 + 5 * n + 3 + 1 + 5 * n + 3) = .ok (.lcmp, 1)) (ht2 : decode code (pc + 1 + 5 * n + 3 + 1 + 5 * n + 3 + 1) = .ok (.ifCond .eq o, 3)) (ho : ((pc + 1 + 5 * n + 3 + 1 + 5 * n + 3 + 1 : Nat) : Int) + o = ((1101 : Nat) : Int)) (WX : law_W ix kX n 7) (WM : law_W im kM n 8) (hl : lv_has ls 4 (law_lv b s.heap.size i)) (hi : i + n < L) (hL : L < 4000)
    (hp : pair vL kX kM (.ref 0 :: law_as xs i n) (.ref 231 :: law_as xs i n) S N) (hw : LWd s D dA adK (fm_mk S) H locs) (hc : cells ≤ 600000 ∧ slots ≤ 7302250)
    (kk : ∀ S' H' locs', Inv S' (N + 1) → LWd s D dA adK (fm_mk S') H' locs' → W p l e room_1 s m #[Value.ref b] below meth c H' locs' cells slots Q (F0 m 1101 ls [])) : W p l e room_1 s m #[Value.ref b] below meth c H locs cells slots Q (F0 m pc ls []) :=
  law_two F C WX WM hl hi hL (fun x => ⟨rfl, fun y h => by cases h; exact ⟨rfl, by show 2 ≤ 2; omega⟩⟩) hp hw hc fun x S' H' locs' h1 h2 => W.lcmp F.1 F.2.1 ht (lv_if_eq F.1 F.2.1 ht2 ho (fun _ => kk S' H' locs' h1 h2) fun z => absurd (by unfold lg_cmp; simp) z)
end LAW

