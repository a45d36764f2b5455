/-! THE LAW'S LOOP -/
section LOOP
variable {p : Program} {l : Launch} {e : Env} {s : State} {m : MethodId} {args : Array Value} {below : List Frame} {meth : Method} {c : Code} {D : va_G} {A : Nat → Prop} {cells slots : Nat} {Q : State → Prop} {cy : Nat → ClassId} {ad adM : Nat → Nat} {ao aod b N : Nat} {xs : Nat → Int32}
set_option maxRecDepth 100000 in
set_option maxHeartbeats 8000000 in
theorem law_loop (C : zC p s m args meth c code 9 RL D (zTy cy) A) (hE : zEl A s s.heap) (hlt : l.stackTraces = false) (hX : va_X b N xs s s.heap) (hbl : b < s.heap.size) (hbA : ¬ A b) (hN : N ≤ 3072)
    (kend : ∀ (j : Nat) (w : va_W), j ≤ 512 → zG p l e room_1 s m args below meth c 9 D A (400 + 200 * j) (20000 + 3200 * j) Q w 2825 [(5, .int (nI (6 * j))), (4, .ref aod), (3, .ref ao), (2, .ref (adM 0)), (1, .ref (ad 0)), (0, .ref b)] []) :
    ∀ (q j : Nat) (w : va_W), N < 6 * (j + q) + 6 → 6 * j ≤ N → zLJ cy ad adM ao aod w → zG p l e room_1 s m args below meth c 9 D A (400 + 200 * j) (20000 + 3200 * j) Q w 28 [(5, .int (nI (6 * j))), (4, .ref aod), (3, .ref ao), (2, .ref (adM 0)), (1, .ref (ad 0)), (0, .ref b)] [] := by
  intro q
  induction q with
  | zero =>
    intro j w hq hj hJ
    refine g_iload (j := 0) C dL_law_28 rfl ?_
    refine g_aload_n (j := 5) C dL_law_30 rfl rfl ?_
    refine n_slen C hX hbl hbA dL_law_31 ?_
    refine g_bipush (v := nI 6) C dL_law_32 (by decide) ?_
    refine g_isub C dL_law_34 ?_
    refine g_icmp_gt C dL_law_35 (tgt := 2825) (by decide) (fun _ => ?_) (fun h9 => absurd ((pk_sub_lt (by omega) (by omega) (by omega)).mpr (by omega)) h9)
    exact kend j w (by omega)
  | succ q ih =>
    intro j w hq hj hJ
    refine g_iload (j := 0) C dL_law_28 rfl ?_
    refine g_aload_n (j := 5) C dL_law_30 rfl rfl ?_
    refine n_slen C hX hbl hbA dL_law_31 ?_
    refine g_bipush (v := nI 6) C dL_law_32 (by decide) ?_
    refine g_isub C dL_law_34 ?_
    refine g_icmp_gt C dL_law_35 (tgt := 2825) (by decide) (fun _ => kend j w (by omega)) (fun h9 => ?_)
    have h6 : 6 * j + 6 ≤ N := by
      by_cases h : N < 6 * j + 6
      · exact absurd ((pk_sub_lt (by omega) (by omega) (by omega)).mpr h) h9
      · omega
    have next : ∀ w', zLJ cy ad adM ao aod w' → zG p l e room_1 s m args below meth c 9 D A (400 + 200 * j + 200) (20000 + 3200 * j + 3200) Q w' 2819 [(5, .int (nI (6 * j))), (4, .ref aod), (3, .ref ao), (2, .ref (adM 0)), (1, .ref (ad 0)), (0, .ref b)] [] := by
      intro w' hJ'
      refine g_iinc (k := 0) (L' := [(5, .int (nI (6 * (j + 1)))), (4, .ref aod), (3, .ref ao), (2, .ref (adM 0)), (1, .ref (ad 0)), (0, .ref b)]) C dL_law_2819 rfl (by rw [show Int32.ofInt 6 = nI 6 by decide, nI_add]; rfl) (by decide) rfl ?_
      refine g_goto C dL_law_2822 (tgt := 28) (by decide) ?_
      refine zG.wide (k := 400 + 200 * (j + 1)) (n := 20000 + 3200 * (j + 1)) (by omega) (by omega) ?_
      exact ih (j + 1) w' (by omega) (by omega) hJ'
    refine g_aload_n (j := 5) C dL_law_38 rfl rfl ?_
    refine g_iload (j := 0) C dL_law_39 rfl ?_
    refine n_sld C hX hbl hbA (nI_in (by omega) (by omega)) dL_law_41 ?_
    refine g_bipush (v := nI 63) C dL_law_42 (by decide) ?_
    refine g_iand C dL_law_44 ?_
    obtain ⟨n, hn, e9⟩ := pk_andE (xs (nI (6 * j)).toNatClampNeg) (m := nI 63) 6 (by decide)
    refine p_num (y := nI n) e9 ?_
    by_cases h38 : n < 38
    · match n, h38 with
      | 0, _ =>
        refine g_tabEq C dL_law_45 (k := nI 0) rfl (by decide) (by decide) (off := 167) rfl (tgt := 212) (by decide) ?_
        exact law_addHall C hE hlt hX hbl hbA j h6 hN w hJ (by omega) (by omega) next
      | 1, _ =>
        refine g_tabEq C dL_law_45 (k := nI 1) rfl (by decide) (by decide) (off := 247) rfl (tgt := 292) (by decide) ?_
        exact law_addFilm C hE hlt hX hbl hbA j h6 hN w hJ (by omega) (by omega) next
      | 2, _ =>
        refine g_tabEq C dL_law_45 (k := nI 2) rfl (by decide) (by decide) (off := 351) rfl (tgt := 396) (by decide) ?_
        exact law_setShares C hE hlt hX hbl hbA j h6 hN w hJ (by omega) (by omega) next
      | 3, _ =>
        refine g_tabEq C dL_law_45 (k := nI 3) rfl (by decide) (by decide) (off := 443) rfl (tgt := 488) (by decide) ?_
        exact law_addTrailer C hE hlt hX hbl hbA j h6 hN w hJ (by omega) (by omega) next
      | 4, _ =>
        refine g_tabEq C dL_law_45 (k := nI 4) rfl (by decide) (by decide) (off := 535) rfl (tgt := 580) (by decide) ?_
        exact law_set C hE hlt hX hbl hbA j h6 hN w hJ (by omega) (by omega) next
      | 5, _ =>
        refine g_tabEq C dL_law_45 (k := nI 5) rfl (by decide) (by decide) (off := 603) rfl (tgt := 648) (by decide) ?_
        exact law_setLimit C hE hlt hX hbl hbA j h6 hN w hJ (by omega) (by omega) next
      | 6, _ =>
        refine g_tabEq C dL_law_45 (k := nI 6) rfl (by decide) (by decide) (off := 671) rfl (tgt := 716) (by decide) ?_
        exact law_setting C hE hlt hX hbl hbA j h6 hN w hJ (by omega) (by omega) next
      | 7, _ =>
        refine g_tabEq C dL_law_45 (k := nI 7) rfl (by decide) (by decide) (off := 727) rfl (tgt := 772) (by decide) ?_
        exact law_hall C hE hlt hX hbl hbA j h6 hN w hJ (by omega) (by omega) next
      | 8, _ =>
        refine g_tabEq C dL_law_45 (k := nI 8) rfl (by decide) (by decide) (off := 795) rfl (tgt := 840) (by decide) ?_
        exact law_film C hE hlt hX hbl hbA j h6 hN w hJ (by omega) (by omega) next
      | 9, _ =>
        refine g_tabEq C dL_law_45 (k := nI 9) rfl (by decide) (by decide) (off := 863) rfl (tgt := 908) (by decide) ?_
        exact law_share C hE hlt hX hbl hbA j h6 hN w hJ (by omega) (by omega) next
      | 10, _ =>
        refine g_tabEq C dL_law_45 (k := nI 10) rfl (by decide) (by decide) (off := 931) rfl (tgt := 976) (by decide) ?_
        exact law_trailer C hE hlt hX hbl hbA j h6 hN w hJ (by omega) (by omega) next
      | 11, _ =>
        refine g_tabEq C dL_law_45 (k := nI 11) rfl (by decide) (by decide) (off := 999) rfl (tgt := 1044) (by decide) ?_
        exact law_fits C hE hlt hX hbl hbA j h6 hN w hJ (by omega) (by omega) next
      | 12, _ =>
        refine g_tabEq C dL_law_45 (k := nI 12) rfl (by decide) (by decide) (off := 1086) rfl (tgt := 1131) (by decide) ?_
        exact law_reel C hE hlt hX hbl hbA j h6 hN w hJ (by omega) (by omega) next
      | 13, _ =>
        refine g_tabEq C dL_law_45 (k := nI 13) rfl (by decide) (by decide) (off := 1182) rfl (tgt := 1227) (by decide) ?_
        exact law_plan C hE hlt hX hbl hbA j h6 hN w hJ (by omega) (by omega) next
      | 14, _ =>
        refine g_tabEq C dL_law_45 (k := nI 14) rfl (by decide) (by decide) (off := 1274) rfl (tgt := 1319) (by decide) ?_
        exact law_move C hE hlt hX hbl hbA j h6 hN w hJ (by omega) (by omega) next
      | 15, _ =>
        refine g_tabEq C dL_law_45 (k := nI 15) rfl (by decide) (by decide) (off := 1354) rfl (tgt := 1399) (by decide) ?_
        exact law_cancel C hE hlt hX hbl hbA j h6 hN w hJ (by omega) (by omega) next
      | 16, _ =>
        refine g_tabEq C dL_law_45 (k := nI 16) rfl (by decide) (by decide) (off := 1410) rfl (tgt := 1455) (by decide) ?_
        exact law_sell C hE hlt hX hbl hbA j h6 hN w hJ (by omega) (by omega) next
      | 17, _ =>
        refine g_tabEq C dL_law_45 (k := nI 17) rfl (by decide) (by decide) (off := 1478) rfl (tgt := 1523) (by decide) ?_
        exact law_show C hE hlt hX hbl hbA j h6 hN w hJ (by omega) (by omega) next
      | 18, _ =>
        refine g_tabEq C dL_law_45 (k := nI 18) rfl (by decide) (by decide) (off := 1546) rfl (tgt := 1591) (by decide) ?_
        exact law_why C hE hlt hX hbl hbA j h6 hN w hJ (by omega) (by omega) next
      | 19, _ =>
        refine g_tabEq C dL_law_45 (k := nI 19) rfl (by decide) (by decide) (off := 1666) rfl (tgt := 1711) (by decide) ?_
        exact law_firstStart C hE hlt hX hbl hbA j h6 hN w hJ (by omega) (by omega) next
      | 20, _ =>
        refine g_tabEq C dL_law_45 (k := nI 20) rfl (by decide) (by decide) (off := 1758) rfl (tgt := 1803) (by decide) ?_
        exact law_fail C hE hlt hX hbl hbA j h6 hN w hJ (by omega) (by omega) next
      | 21, _ =>
        refine g_tabEq C dL_law_45 (k := nI 21) rfl (by decide) (by decide) (off := 1826) rfl (tgt := 1871) (by decide) ?_
        exact law_reopen C hE hlt hX hbl hbA j h6 hN w hJ (by omega) (by omega) next
      | 22, _ =>
        refine g_tabEq C dL_law_45 (k := nI 22) rfl (by decide) (by decide) (off := 1882) rfl (tgt := 1927) (by decide) ?_
        exact law_line C hE hlt hX hbl hbA j h6 hN w hJ (by omega) (by omega) next
      | 23, _ =>
        refine g_tabEq C dL_law_45 (k := nI 23) rfl (by decide) (by decide) (off := 1950) rfl (tgt := 1995) (by decide) ?_
        exact law_used C hE hlt hX hbl hbA j h6 hN w hJ (by omega) (by omega) next
      | 24, _ =>
        refine g_tabEq C dL_law_45 (k := nI 24) rfl (by decide) (by decide) (off := 2030) rfl (tgt := 2075) (by decide) ?_
        exact law_at C hE hlt hX hbl hbA j h6 hN w hJ (by omega) (by omega) next
      | 25, _ =>
        refine g_tabEq C dL_law_45 (k := nI 25) rfl (by decide) (by decide) (off := 2110) rfl (tgt := 2155) (by decide) ?_
        exact law_refusal C hE hlt hX hbl hbA j h6 hN w hJ (by omega) (by omega) next
      | 26, _ =>
        refine g_tabEq C dL_law_45 (k := nI 26) rfl (by decide) (by decide) (off := 2182) rfl (tgt := 2227) (by decide) ?_
        exact law_advance C hE hlt hX hbl hbA j h6 hN w hJ (by omega) (by omega) next
      | 27, _ =>
        refine g_tabEq C dL_law_45 (k := nI 27) rfl (by decide) (by decide) (off := 2238) rfl (tgt := 2283) (by decide) ?_
        exact law_account C hE hlt hX hbl hbA j h6 hN w hJ (by omega) (by omega) next
      | 28, _ =>
        refine g_tabEq C dL_law_45 (k := nI 28) rfl (by decide) (by decide) (off := 2294) rfl (tgt := 2339) (by decide) ?_
        exact law_bestFilm C hE hlt hX hbl hbA j h6 hN w hJ (by omega) (by omega) next
      | 29, _ =>
        refine g_tabEq C dL_law_45 (k := nI 29) rfl (by decide) (by decide) (off := 2338) rfl (tgt := 2383) (by decide) ?_
        exact law_use C hE hlt hX hbl hbA j h6 hN w hJ (by omega) (by omega) next
      | 30, _ =>
        refine g_tabEq C dL_law_45 (k := nI 30) rfl (by decide) (by decide) (off := 2403) rfl (tgt := 2448) (by decide) ?_
        exact law_write C hE hlt hX hbl hbA j h6 hN w hJ (by omega) (by omega) next
      | 31, _ =>
        refine g_tabEq C dL_law_45 (k := nI 31) rfl (by decide) (by decide) (off := 2471) rfl (tgt := 2516) (by decide) ?_
        exact law_written C hE hlt hX hbl hbA j h6 hN w hJ (by omega) (by omega) next
      | 32, _ =>
        refine g_tabEq C dL_law_45 (k := nI 32) rfl (by decide) (by decide) (off := 2527) rfl (tgt := 2572) (by decide) ?_
        exact law_append C hE hlt hX hbl hbA j h6 hN w hJ (by omega) (by omega) next
      | 33, _ =>
        refine g_tabEq C dL_law_45 (k := nI 33) rfl (by decide) (by decide) (off := 2585) rfl (tgt := 2630) (by decide) ?_
        exact law_perform C hE hlt hX hbl hbA j h6 hN w hJ (by omega) (by omega) next
      | 34, _ =>
        refine g_tabEq C dL_law_45 (k := nI 34) rfl (by decide) (by decide) (off := 2629) rfl (tgt := 2674) (by decide) ?_
        exact law_errorPosition C hE hlt hX hbl hbA j h6 hN w hJ (by omega) (by omega) next
      | 35, _ =>
        refine g_tabEq C dL_law_45 (k := nI 35) rfl (by decide) (by decide) (off := 2673) rfl (tgt := 2718) (by decide) ?_
        exact law_undo C hE hlt hX hbl hbA j h6 hN w hJ (by omega) (by omega) next
      | 36, _ =>
        refine g_tabEq C dL_law_45 (k := nI 36) rfl (by decide) (by decide) (off := 2717) rfl (tgt := 2762) (by decide) ?_
        exact law_save C hE hlt hX hbl hbA j h6 hN w hJ (by omega) (by omega) next
      | 37, _ =>
        refine g_tabEq C dL_law_45 (k := nI 37) rfl (by decide) (by decide) (off := 2730) rfl (tgt := 2775) (by decide) ?_
        exact law_restore C hE hlt hX hbl hbA j h6 hN w hJ (by omega) (by omega) next
      | k + 38, h => exact absurd h (by omega)
    · have hi : (nI n).toInt = (n : Int) := by
        have h := pk_sub_toInt (a := n) (b := 0) (by omega) (by decide)
        rw [pk_sub (Nat.zero_le _), Nat.sub_zero] at h
        simpa using h
      refine g_tabOut C dL_law_45 (tgt := 2819) (by rw [hi]; omega) (by decide) ?_
      exact zG.wide (by omega) (by omega) (next w hJ)
end LOOP
