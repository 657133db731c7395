/-! the law's loop -/
section LAW2
theorem law_gt {L a : Nat} (hL : L < 4000) (ha : a < 4000) : (nI L - 6 < nI a) = (L < a + 6) := by
  have e : (nI L - 6).toInt = (L : Int) - 6 := pk_sub_toInt (b := 6) (by omega) (by omega)
  rw [Int32.lt_iff_toInt_lt, e, nI_toInt (by omega)]
  exact propext (by omega)
theorem law_loop {p : Program} {l : Launch} {e : Env} {s : State} {m : MethodId} {below : List Frame} {meth : Method} {c : Code} {b L : Nat} {xs : Nat → Int32} {adK adV : Nat → Nat} {D : va_G} {dA : Nat → ClassId} (hL : L ≤ 3072) (F : LF p s m c b L xs adK adV D dA) (hrt : meth.sig.returnType = ret) (hlk : meth.locks = false) :
    ∀ f N S H locs ls, L - 6 * N < f → 6 * N ≤ L → Inv S N → LWd s D dA adK (fm_mk S) H locs → lv_has ls 4 (law_lv b s.heap.size (6 * N)) → W p l e room_1 s m #[Value.ref b] below meth c H locs 244 5000 (lw_Z below #[Value.ref b] s) (F0 m 18 ls []) := by
  intro f
  induction f with
  | zero => intro N S H locs ls hf; omega
  | succ f ih =>
    intro N S H locs ls hf hNL hI hw hl
    have F' := F
    obtain ⟨hx, hb, hml, hown, hts, hK, hJ, hX, hbl⟩ := F'
    refine lv_iload_n hx hb dL_law_18 rfl (lv_at hl 3 rfl) ?_
    refine lv_aload_n hx hb dL_law_19 rfl (lv_at hl 0 rfl) ?_
    refine va_slen hx hb hX hbl (Nat.not_le.mpr hbl) hw.2.2 dL_law_20 ?_
    refine lv_bipush (v := 6) hx hb dL_law_21 (by decide) ?_
    refine lv_isub hx hb dL_law_23 ?_
    refine lv_icmp_gt hx hb dL_law_24 (tgt := 1107) rfl (fun z => ?_) fun z => ?_
    · refine W.widen (k := 600000) (n := 7302250) (by decide) (by decide) ?_
      refine va_forget hw.2.2.2.2 ?_
      refine lv_iconst (v := 1) hx hb dL_law_1107 (by decide) ?_
      exact lw_ret hx hb hrt hlk dL_law_1108
    · have z : ¬ (nI L - 6 < nI (6 * N)) := z
      rw [law_gt (by omega) (by omega)] at z
      have hN : N < 600 := by omega
      have next : ∀ S' H' locs', Inv S' (N + 1) → LWd s D dA adK (fm_mk S') H' locs' → W p l e room_1 s m #[Value.ref b] below meth c H' locs' 244 5000 (lw_Z below #[Value.ref b] s) (F0 m 1101 ls []) := fun S' H' locs' hI' hw' => by
        refine lv_iinc (k := 3) (lv' := [(3, .int (nI (6 * (N + 1)))), (0, .ref b), (1, .ref s.heap.size), (2, .ref (s.heap.size + 231))]) hx hb dL_law_1101 hl rfl ?_ (by decide) rfl fun ls' hl' => ?_
        · show nI (6 * N) + nI 6 = nI (6 * (N + 1))
          rw [nI_add]
          rfl
        refine lv_goto hx hb dL_law_1104 (tgt := 18) rfl ?_
        exact ih (N + 1) S' H' locs' ls' (by omega) (by omega) hI' hw' (lv_sub hl' [1, 2, 3, 0] rfl)
      refine lv_aload_n hx hb dL_law_27 rfl (lv_at hl 0 rfl) ?_
      refine lv_iload_n hx hb dL_law_28 rfl (lv_at hl 3 rfl) ?_
      refine va_sld hx hb hX hbl (Nat.not_le.mpr hbl) hw.2.2 (vp_in_nI (by omega) (by omega)) dL_law_29 ?_
      refine lv_bipush (v := 63) hx hb dL_law_30 (by decide) ?_
      refine lv_iand hx hb dL_law_32 ?_
      obtain ⟨j, hj, ej⟩ := pk_andE (xs (nI (6 * N)).toNatClampNeg) (m := 63) 6 (by decide)
      rw [ej]
      rcases Nat.lt_or_ge 32 j with q | q
      · refine lv_tableOut (tgt := 1101) hx hb dL_law_33 (Or.inr ?_) rfl (next S H locs (Inv_up hI hN) hw)
        rw [nI_toInt (by omega)]
        omega
      clear ej
      have hj33 : j = 0 ∨ j = 1 ∨ j = 2 ∨ j = 3 ∨ j = 4 ∨ j = 5 ∨ j = 6 ∨ j = 7 ∨ j = 8 ∨ j = 9 ∨ j = 10 ∨ j = 11 ∨ j = 12 ∨ j = 13 ∨ j = 14 ∨ j = 15 ∨ j = 16 ∨ j = 17 ∨ j = 18 ∨ j = 19 ∨ j = 20 ∨ j = 21 ∨ j = 22 ∨ j = 23 ∨ j = 24 ∨ j = 25 ∨ j = 26 ∨ j = 27 ∨ j = 28 ∨ j = 29 ∨ j = 30 ∨ j = 31 ∨ j = 32 := by omega
      rcases hj33 with rfl | rfl | rfl | rfl | rfl | rfl | rfl | rfl | rfl | rfl | rfl | rfl | rfl | rfl | rfl | rfl | rfl | rfl | rfl | rfl | rfl | rfl | rfl | rfl | rfl | rfl | rfl | rfl | rfl | rfl | rfl | rfl | rfl
      · refine lv_tableIn (off := 147) (tgt := 180) hx hb dL_law_33 (by decide) (by decide) (by decide) rfl ?_
        exact law_pairI (n := 0) F law_C_180 law_t_180 rfl law_w_13 law_w_17 hl (by omega) (by omega) (c_town hI hN) hw ⟨by decide, by decide⟩ next
      · refine lv_tableIn (off := 160) (tgt := 193) hx hb dL_law_33 (by decide) (by decide) (by decide) rfl ?_
        exact law_pairI (n := 3) F law_C_193 law_t_193 rfl law_w_18 law_w_22 hl (by omega) (by omega) (c_street (x1 := xs (6 * N + 1 + 0)) (x2 := xs (6 * N + 1 + 1)) (x3 := xs (6 * N + 1 + 2)) hI hN) hw ⟨by decide, by decide⟩ next
      · refine lv_tableIn (off := 203) (tgt := 236) hx hb dL_law_33 (by decide) (by decide) (by decide) rfl ?_
        exact law_pairI (n := 2) F law_C_236 law_t_236 rfl law_w_23 law_w_27 hl (by omega) (by omega) (c_lane (x1 := xs (6 * N + 1 + 0)) (x2 := xs (6 * N + 1 + 1)) hI hN) hw ⟨by decide, by decide⟩ next
      · refine lv_tableIn (off := 236) (tgt := 269) hx hb dL_law_33 (by decide) (by decide) (by decide) rfl ?_
        exact law_pairI (n := 2) F law_C_269 law_t_269 rfl law_w_28 law_w_31 hl (by omega) (by omega) (c_gate (x1 := xs (6 * N + 1 + 0)) (x2 := xs (6 * N + 1 + 1)) hI hN) hw ⟨by decide, by decide⟩ next
      · refine lv_tableIn (off := 269) (tgt := 302) hx hb dL_law_33 (by decide) (by decide) (by decide) rfl ?_
        exact law_pairI (n := 2) F law_C_302 law_t_302 rfl law_w_32 law_w_35 hl (by omega) (by omega) (c_wind (x1 := xs (6 * N + 1 + 0)) (x2 := xs (6 * N + 1 + 1)) hI hN) hw ⟨by decide, by decide⟩ next
      · refine lv_tableIn (off := 302) (tgt := 335) hx hb dL_law_33 (by decide) (by decide) (by decide) rfl ?_
        exact law_pairI (n := 3) F law_C_335 law_t_335 rfl law_w_36 law_w_39 hl (by omega) (by omega) (c_dish (x1 := xs (6 * N + 1 + 0)) (x2 := xs (6 * N + 1 + 1)) (x3 := xs (6 * N + 1 + 2)) hI hN) hw ⟨by decide, by decide⟩ next
      · refine lv_tableIn (off := 345) (tgt := 378) hx hb dL_law_33 (by decide) (by decide) (by decide) rfl ?_
        exact law_pairI (n := 1) F law_C_378 law_t_378 rfl law_w_40 law_w_44 hl (by omega) (by omega) (c_type (x1 := xs (6 * N + 1 + 0)) hI hN) hw ⟨by decide, by decide⟩ next
      · refine lv_tableIn (off := 368) (tgt := 401) hx hb dL_law_33 (by decide) (by decide) (by decide) rfl ?_
        exact law_pairI (n := 0) F law_C_401 law_t_401 rfl law_w_45 law_w_48 hl (by omega) (by omega) (c_clear hI hN) hw ⟨by decide, by decide⟩ next
      · refine lv_tableIn (off := 381) (tgt := 414) hx hb dL_law_33 (by decide) (by decide) (by decide) rfl ?_
        exact law_pairI (n := 0) F law_C_414 law_t_414 rfl law_w_49 law_w_52 hl (by omega) (by omega) (c_read hI hN) hw ⟨by decide, by decide⟩ next
      · refine lv_tableIn (off := 394) (tgt := 427) hx hb dL_law_33 (by decide) (by decide) (by decide) rfl ?_
        exact law_pairI (n := 1) F law_C_427 law_t_427 rfl law_w_53 law_w_56 hl (by omega) (by omega) (c_day (x1 := xs (6 * N + 1 + 0)) hI hN) hw ⟨by decide, by decide⟩ next
      · refine lv_tableIn (off := 417) (tgt := 450) hx hb dL_law_33 (by decide) (by decide) (by decide) rfl ?_
        exact law_pairI (n := 0) F law_C_450 law_t_450 rfl law_w_57 law_w_60 hl (by omega) (by omega) (c_undo hI hN) hw ⟨by decide, by decide⟩ next
      · refine lv_tableIn (off := 430) (tgt := 463) hx hb dL_law_33 (by decide) (by decide) (by decide) rfl ?_
        exact law_pairI (n := 2) F law_C_463 law_t_463 rfl law_w_61 law_w_64 hl (by omega) (by omega) (c_of (x1 := xs (6 * N + 1 + 0)) (x2 := xs (6 * N + 1 + 1)) hI hN) hw ⟨by decide, by decide⟩ next
      · refine lv_tableIn (off := 463) (tgt := 496) hx hb dL_law_33 (by decide) (by decide) (by decide) rfl ?_
        exact law_pairI (n := 3) F law_C_496 law_t_496 rfl law_w_65 law_w_68 hl (by omega) (by omega) (c_smells (x1 := xs (6 * N + 1 + 0)) (x2 := xs (6 * N + 1 + 1)) (x3 := xs (6 * N + 1 + 2)) hI hN) hw ⟨by decide, by decide⟩ next
      · refine lv_tableIn (off := 506) (tgt := 539) hx hb dL_law_33 (by decide) (by decide) (by decide) rfl ?_
        exact law_pairI (n := 2) F law_C_539 law_t_539 rfl law_w_69 law_w_72 hl (by omega) (by omega) (c_moved (x1 := xs (6 * N + 1 + 0)) (x2 := xs (6 * N + 1 + 1)) hI hN) hw ⟨by decide, by decide⟩ next
      · refine lv_tableIn (off := 539) (tgt := 572) hx hb dL_law_33 (by decide) (by decide) (by decide) rfl ?_
        exact law_pairI (n := 2) F law_C_572 law_t_572 rfl law_w_73 law_w_76 hl (by omega) (by omega) (c_falls (x1 := xs (6 * N + 1 + 0)) (x2 := xs (6 * N + 1 + 1)) hI hN) hw ⟨by decide, by decide⟩ next
      · refine lv_tableIn (off := 572) (tgt := 605) hx hb dL_law_33 (by decide) (by decide) (by decide) rfl ?_
        exact law_pairI (n := 2) F law_C_605 law_t_605 rfl law_w_77 law_w_80 hl (by omega) (by omega) (c_order (x1 := xs (6 * N + 1 + 0)) (x2 := xs (6 * N + 1 + 1)) hI hN) hw ⟨by decide, by decide⟩ next
      · refine lv_tableIn (off := 605) (tgt := 638) hx hb dL_law_33 (by decide) (by decide) (by decide) rfl ?_
        exact law_pairI (n := 0) F law_C_638 law_t_638 rfl law_w_81 law_w_84 hl (by omega) (by omega) (c_never hI hN) hw ⟨by decide, by decide⟩ next
      · refine lv_tableIn (off := 618) (tgt := 651) hx hb dL_law_33 (by decide) (by decide) (by decide) rfl ?_
        exact law_pairI (n := 0) F law_C_651 law_t_651 rfl law_w_85 law_w_88 hl (by omega) (by omega) (c_least hI hN) hw ⟨by decide, by decide⟩ next
      · refine lv_tableIn (off := 631) (tgt := 664) hx hb dL_law_33 (by decide) (by decide) (by decide) rfl ?_
        exact law_pairI (n := 3) F law_C_664 law_t_664 rfl law_w_89 law_w_92 hl (by omega) (by omega) (c_answer (x1 := xs (6 * N + 1 + 0)) (x2 := xs (6 * N + 1 + 1)) (x3 := xs (6 * N + 1 + 2)) hI hN) hw ⟨by decide, by decide⟩ next
      · refine lv_tableIn (off := 674) (tgt := 707) hx hb dL_law_33 (by decide) (by decide) (by decide) rfl ?_
        exact law_pairI (n := 1) F law_C_707 law_t_707 rfl law_w_93 law_w_96 hl (by omega) (by omega) (c_game (x1 := xs (6 * N + 1 + 0)) hI hN) hw ⟨by decide, by decide⟩ next
      · refine lv_tableIn (off := 697) (tgt := 730) hx hb dL_law_33 (by decide) (by decide) (by decide) rfl ?_
        exact law_pairI (n := 5) F law_C_730 law_t_730 rfl law_w_97 law_w_101 hl (by omega) (by omega) (c_note (x1 := xs (6 * N + 1 + 0)) (x2 := xs (6 * N + 1 + 1)) (x3 := xs (6 * N + 1 + 2)) (x4 := xs (6 * N + 1 + 3)) (x5 := xs (6 * N + 1 + 4)) hI hN) hw ⟨by decide, by decide⟩ next
      · refine lv_tableIn (off := 760) (tgt := 793) hx hb dL_law_33 (by decide) (by decide) (by decide) rfl ?_
        exact law_pairI (n := 0) F law_C_793 law_t_793 rfl law_w_102 law_w_105 hl (by omega) (by omega) (c_forget hI hN) hw ⟨by decide, by decide⟩ next
      · refine lv_tableIn (off := 773) (tgt := 806) hx hb dL_law_33 (by decide) (by decide) (by decide) rfl ?_
        exact law_pairI (n := 1) F law_C_806 law_t_806 rfl law_w_106 law_w_109 hl (by omega) (by omega) (c_craved (x1 := xs (6 * N + 1 + 0)) hI hN) hw ⟨by decide, by decide⟩ next
      · refine lv_tableIn (off := 796) (tgt := 829) hx hb dL_law_33 (by decide) (by decide) (by decide) rfl ?_
        exact law_pairI (n := 1) F law_C_829 law_t_829 rfl law_w_110 law_w_113 hl (by omega) (by omega) (c_is (x1 := xs (6 * N + 1 + 0)) hI hN) hw ⟨by decide, by decide⟩ next
      · refine lv_tableIn (off := 819) (tgt := 852) hx hb dL_law_33 (by decide) (by decide) (by decide) rfl ?_
        exact law_pairI (n := 3) F law_C_852 law_t_852 rfl law_w_114 law_w_117 hl (by omega) (by omega) (c_tryNext (x1 := xs (6 * N + 1 + 0)) (x2 := xs (6 * N + 1 + 1)) (x3 := xs (6 * N + 1 + 2)) hI hN) hw ⟨by decide, by decide⟩ next
      · refine lv_tableIn (off := 862) (tgt := 895) hx hb dL_law_33 (by decide) (by decide) (by decide) rfl ?_
        exact law_pairI (n := 3) F law_C_895 law_t_895 rfl law_w_118 law_w_121 hl (by omega) (by omega) (c_rain (x1 := xs (6 * N + 1 + 0)) (x2 := xs (6 * N + 1 + 1)) (x3 := xs (6 * N + 1 + 2)) hI hN) hw ⟨by decide, by decide⟩ next
      · refine lv_tableIn (off := 905) (tgt := 938) hx hb dL_law_33 (by decide) (by decide) (by decide) rfl ?_
        exact law_pairI (n := 2) F law_C_938 law_t_938 rfl law_w_122 law_w_125 hl (by omega) (by omega) (c_sieges (x1 := xs (6 * N + 1 + 0)) (x2 := xs (6 * N + 1 + 1)) hI hN) hw ⟨by decide, by decide⟩ next
      · refine lv_tableIn (off := 938) (tgt := 971) hx hb dL_law_33 (by decide) (by decide) (by decide) rfl ?_
        exact law_pairL (n := 1) F law_C_971 law_t_971 law_u_971 rfl law_w_126 law_w_130 hl (by omega) (by omega) (c_part (x1 := xs (6 * N + 1 + 0)) hI hN) hw ⟨by decide, by decide⟩ next
      · refine lv_tableIn (off := 962) (tgt := 995) hx hb dL_law_33 (by decide) (by decide) (by decide) rfl ?_
        exact law_pairI (n := 1) F law_C_995 law_t_995 rfl law_w_131 law_w_134 hl (by omega) (by omega) (c_image (x1 := xs (6 * N + 1 + 0)) hI hN) hw ⟨by decide, by decide⟩ next
      · refine lv_tableIn (off := 985) (tgt := 1018) hx hb dL_law_33 (by decide) (by decide) (by decide) rfl ?_
        exact law_pairI (n := 1) F law_C_1018 law_t_1018 rfl law_w_135 law_w_138 hl (by omega) (by omega) (c_from (x1 := xs (6 * N + 1 + 0)) hI hN) hw ⟨by decide, by decide⟩ next
      · refine lv_tableIn (off := 1008) (tgt := 1041) hx hb dL_law_33 (by decide) (by decide) (by decide) rfl ?_
        exact law_pairI (n := 1) F law_C_1041 law_t_1041 rfl law_w_139 law_w_142 hl (by omega) (by omega) (c_status (x1 := xs (6 * N + 1 + 0)) hI hN) hw ⟨by decide, by decide⟩ next
      · refine lv_tableIn (off := 1031) (tgt := 1064) hx hb dL_law_33 (by decide) (by decide) (by decide) rfl ?_
        exact law_pairI (n := 1) F law_C_1064 law_t_1064 rfl law_w_143 law_w_146 hl (by omega) (by omega) (c_count (x1 := xs (6 * N + 1 + 0)) hI hN) hw ⟨by decide, by decide⟩ next
      · refine lv_tableIn (off := 1054) (tgt := 1087) hx hb dL_law_33 (by decide) (by decide) (by decide) rfl ?_
        exact law_pairL (n := 0) F law_C_1087 law_t_1087 law_u_1087 rfl law_w_147 law_w_151 hl (by omega) (by omega) (c_digest hI hN) hw ⟨by decide, by decide⟩ next
end LAW2
