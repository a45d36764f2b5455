/-! THE LAW'S CASES (laid by wip/whole/mklaw.py) -/
section LAWC
variable {p : Program} {l : Launch} {e : Env} {s : State} {m : MethodId} {args : Array Value} {below : List Frame} {meth : Method} {c : Code} {D : va_G} {A : Nat → Prop} {cells slots : Nat} {Q : State → Prop} {cy : Nat → ClassId} {ad adM : Nat → Nat} {ao aod b N : Nat} {xs : Nat → Int32}
theorem zml_RL_210 : Cond.methodLink RL 210 yX6_sell ∈ zAll := zg (z_t8 (List.mem_of_getElem? (i := 27) (by decide +kernel))) (by decide +kernel)
set_option maxRecDepth 100000 in
set_option maxHeartbeats 8000000 in
theorem law_sell (C : zC p s m args meth c code 9 RL D (zTy cy) A) (hE : zEl A s s.heap) (hlt : l.stackTraces = false) (hX : va_X b N xs s s.heap) (hbl : b < s.heap.size) (hbA : ¬ A b) (j : Nat) (hj : 6 * j + 6 ≤ N) (hN : N ≤ 3072) (w : va_W) (hJ : zLJ cy ad adM ao aod w) (hc : cells + 200 ≤ 603072) (hs : slots + 3200 ≤ 7194730) (kk : ∀ w', zLJ cy ad adM ao aod w' → zG p l e room_1 s m args below meth c 9 D A (cells + 200) (slots + 3200) Q w' 2819 [(5, .int (nI (6 * j))), (4, .ref aod), (3, .ref ao), (2, .ref (adM 0)), (1, .ref (ad 0)), (0, .ref b)] []) : zG p l e room_1 s m args below meth c 9 D A cells slots Q w 1455 [(5, .int (nI (6 * j))), (4, .ref aod), (3, .ref ao), (2, .ref (adM 0)), (1, .ref (ad 0)), (0, .ref b)] [] := by
  obtain ⟨v1, n1, k1, z1, f1, t1, v2, n2, k2, z2, f2, t2, fo, fd, X, Y, a, rfl, hP⟩ := hJ
  obtain ⟨c9, v9, b9, X', Y', a', e1, e2, e3, e4, e5, e6⟩ := sim_sell hP.1 (xs (6 * j + 1)) (xs (6 * j + 2))
  have hcd : inC [3, 1, 2, 5] c9 := (oc_sell X (xs (6 * j + 1)) (xs (6 * j + 2))).o _ e1
  have hM := (c_X5_sell l hlt D cy ad (zLT cy adM (tB cy (ad 152) v1 n1 z1 k1 f1) (tB cy (ad 153) v2 n2 z2 k2 f2) (zOut cy ao fo) (zOuD cy aod fd) Y) X (xs (6 * j + 1)) (xs (6 * j + 2))).toY
  rw [Option.some.inj e1] at hM
  have hw := hw_sell l D cy zTh_ge zEw_th _ (ad 0) _ (xs (6 * j + 1)) (xs (6 * j + 2)) ao 156 fo 1 6 _ _ _ hM rfl rfl ⟨by decide, by decide⟩ (zW_get X sC_0) (fun v w hh => by obtain ⟨_, _, rfl⟩ := hh; exact zLW_o) (fun c w hh h0 => by obtain ⟨rfl, _⟩ := hh; simpa using hcd.ne h0)
  refine g_aload_n (j := 4) C dL_law_1455 rfl rfl ?_
  refine g_aload_n (j := 5) C dL_law_1456 rfl rfl ?_
  refine g_iload (j := 0) C dL_law_1457 rfl ?_
  refine g_iconst (v := (nI 1)) C dL_law_1459 (by decide) ?_
  refine g_iadd C dL_law_1460 ?_
  refine p_num (y := (nI (6 * j + 1))) (nI_add _ _) ?_
  refine n_sld C hX hbl hbA (nI_in (by omega) (by omega)) dL_law_1461 ?_
  refine p_num (y := (xs (6 * j + 1))) (by rw [nI_clamp (by omega)]) ?_
  refine g_aload_n (j := 5) C dL_law_1462 rfl rfl ?_
  refine g_iload (j := 0) C dL_law_1463 rfl ?_
  refine g_iconst (v := (nI 2)) C dL_law_1465 (by decide) ?_
  refine g_iadd C dL_law_1466 ?_
  refine p_num (y := (nI (6 * j + 2))) (nI_add _ _) ?_
  refine n_sld C hX hbl hbA (nI_in (by omega) (by omega)) dL_law_1467 ?_
  refine p_num (y := (xs (6 * j + 2))) (by rw [nI_clamp (by omega)]) ?_
  refine g_aload_n (j := 2) C dL_law_1468 rfl rfl ?_
  refine t_SWi (As := [.ref (ad 0), .int (xs (6 * j + 1)), .int (xs (6 * j + 2)), .ref ao]) (rest := []) zEw_ge hE.1 C hw zcw_sell rfl rfl ⟨Nat.le_of_ble_eq_true rfl, Nat.le_of_ble_eq_true rfl⟩ rfl rfl (Nat.le_of_ble_eq_true rfl) ⟨by show cells + 1 ≤ 603072; omega, by show slots + 6 ≤ 7194730; omega⟩ dL_law_1469 ?_
  intro r w hr9
  rcases hr9 with ⟨rfl, v', w1, ⟨h0, hv9, rfl⟩, rfl⟩ | ⟨i, c', hi, ⟨rfl, rfl⟩, hne, rfl⟩
  · skip
    have hv9 : v9 = v' := hv9.symm
    subst hv9
    rw [show List.set _ 156 _ = (zW cy ad shC (zLT cy adM (tB cy (ad 152) v1 n1 z1 k1 f1) (tB cy (ad 153) v2 n2 z2 k2 f2) (zOut cy ao (vp_updL fo 0 v9.toInt64)) (zOuD cy aod fd) Y) X') from zLW_so]
    have h0 : c9 = 0 := h0
    refine g_istore (L' := [(6, .int (nI 0)), (5, .int (nI (6 * j))), (4, .ref aod), (3, .ref ao), (2, .ref (adM 0)), (1, .ref (ad 0)), (0, .ref b)]) C dL_law_1472 (by decide) rfl ?_
    refine g_aload_n (j := 4) C dL_law_1474 rfl rfl ?_
    refine g_aload_n (j := 6) C dL_law_1475 rfl rfl ?_
    refine g_iload (j := 1) C dL_law_1476 rfl ?_
    refine g_iconst (v := (nI 1)) C dL_law_1478 (by decide) ?_
    refine g_iadd C dL_law_1479 ?_
    refine p_num (y := (nI (6 * j + 1))) (nI_add _ _) ?_
    refine n_sld C hX hbl hbA (nI_in (by omega) (by omega)) dL_law_1480 ?_
    refine p_num (y := (xs (6 * j + 1))) (by rw [nI_clamp (by omega)]) ?_
    refine g_aload_n (j := 6) C dL_law_1481 rfl rfl ?_
    refine g_iload (j := 1) C dL_law_1482 rfl ?_
    refine g_iconst (v := (nI 2)) C dL_law_1484 (by decide) ?_
    refine g_iadd C dL_law_1485 ?_
    refine p_num (y := (nI (6 * j + 2))) (nI_add _ _) ?_
    refine n_sld C hX hbl hbA (nI_in (by omega) (by omega)) dL_law_1486 ?_
    refine p_num (y := (xs (6 * j + 2))) (by rw [nI_clamp (by omega)]) ?_
    refine zG.less (ws' := (zW cy adM shM (z_rend cy ad X' 0 shC ++ ((tB cy (ad 152) v1 n1 z1 k1 f1) ++ ((tB cy (ad 153) v2 n2 z2 k2 f2) ++ [(zOut cy ao (vp_updL fo 0 v9.toInt64)), (zOuD cy aod fd)]))) Y)) (l' := (zW cy ad shC (zLT cy adM (tB cy (ad 152) v1 n1 z1 k1 f1) (tB cy (ad 153) v2 n2 z2 k2 f2) (zOut cy ao (vp_updL fo 0 v9.toInt64)) (zOuD cy aod fd) Y) X')) (zpM _ _ _ _ _ _) (List.Sublist.refl _) ?_
    refine g_vi (ws' := (zW cy adM shM (z_rend cy ad X' 0 shC ++ ((tB cy (ad 152) v1 n1 z1 k1 f1) ++ ((tB cy (ad 153) v2 n2 z2 k2 f2) ++ [(zOut cy ao (vp_updL fo 0 v9.toInt64)), (zOuD cy aod fd)]))) Y')) (As := [.int (xs (6 * j + 1)), .int (xs (6 * j + 2))]) (rest := []) (res := b9) C (c_X6_sell l D cy adM (z_rend cy ad X' 0 shC ++ ((tB cy (ad 152) v1 n1 z1 k1 f1) ++ ((tB cy (ad 153) v2 n2 z2 k2 f2) ++ [(zOut cy ao (vp_updL fo 0 v9.toInt64)), (zOuD cy aod fd)]))) Y (xs (6 * j + 1)) (xs (6 * j + 2)) e2) zml_RL_210 zcv_X6_sell (zW_get Y sM_0) rfl rfl rfl ⟨Nat.le_of_ble_eq_true rfl, Nat.le_of_ble_eq_true rfl⟩ rfl rfl (Nat.le_of_ble_eq_true rfl) ⟨by show cells + 1 ≤ 603072; omega, by show slots + 6 ≤ 7194730; omega⟩ dL_law_1487 ?_
    refine g_istore (L' := [(7, .int b9), (6, .int (nI 0)), (5, .int (nI (6 * j))), (4, .ref aod), (3, .ref ao), (2, .ref (adM 0)), (1, .ref (ad 0)), (0, .ref b)]) C dL_law_1490 (by decide) rfl ?_
    refine g_aload_n (j := 5) C dL_law_1492 rfl rfl ?_
    refine g_vi (ws' := (zW cy adM shM (z_rend cy ad X' 0 shC ++ ((tB cy (ad 152) v1 n1 z1 k1 f1) ++ ((tB cy (ad 153) v2 n2 z2 k2 f2) ++ [(zOut cy ao (vp_updL fo 0 v9.toInt64)), (zOuD cy aod fd)]))) Y')) (As := []) (rest := []) (res := Y' 0 0) C (c_X6_thrown l D cy adM (z_rend cy ad X' 0 shC ++ ((tB cy (ad 152) v1 n1 z1 k1 f1) ++ ((tB cy (ad 153) v2 n2 z2 k2 f2) ++ [(zOut cy ao (vp_updL fo 0 v9.toInt64)), (zOuD cy aod fd)]))) Y') zml_RL_155 zcv_X6_thrown (zW_get Y' sM_0) rfl rfl rfl ⟨Nat.le_of_ble_eq_true rfl, Nat.le_of_ble_eq_true rfl⟩ rfl rfl (Nat.le_of_ble_eq_true rfl) ⟨by show cells + 1 ≤ 603072; omega, by show slots + 6 ≤ 7194730; omega⟩ dL_law_1493 ?_
    refine zG.less (ws' := (zW cy ad shC (zLT cy adM (tB cy (ad 152) v1 n1 z1 k1 f1) (tB cy (ad 153) v2 n2 z2 k2 f2) (zOut cy ao (vp_updL fo 0 v9.toInt64)) (zOuD cy aod fd) Y') X')) (l' := (zW cy adM shM (z_rend cy ad X' 0 shC ++ ((tB cy (ad 152) v1 n1 z1 k1 f1) ++ ((tB cy (ad 153) v2 n2 z2 k2 f2) ++ [(zOut cy ao (vp_updL fo 0 v9.toInt64)), (zOuD cy aod fd)]))) Y')) (zpM _ _ _ _ _ _).symm (List.Sublist.refl _) ?_
    refine g_iload (j := 1) C dL_law_1496 rfl ?_
    refine g_icmp_eq C dL_law_1498 (tgt := 1503) (by decide) (fun _ => ?_) (fun h9 => absurd (e3.trans (by rw [h0]; rfl)) h9)
    refine g_iload (j := 1) C dL_law_1503 rfl ?_
    refine g_if_ne C dL_law_1505 (tgt := 1520) (by decide) (fun h9 => absurd nI_0 h9) (fun _ => ?_)
    refine g_aload_n (j := 4) C dL_law_1508 rfl rfl ?_
    refine g_iconst (v := (nI 0)) C dL_law_1509 (by decide) ?_
    refine n_lald (q0 := 156) (n := 1) C zLW_o (nI_in (by decide) (by decide)) dL_law_1510 ?_
    refine g_iload (j := 0) C dL_law_1511 rfl ?_
    refine n_i2l C dL_law_1513 ?_
    refine n_lcmp C dL_law_1514 ?_
    refine g_if_eq C dL_law_1515 (tgt := 1520) (by decide) (fun _ => ?_) (fun h9 => absurd (lg_cmp_rf ((updL_0 _ _).trans (congrArg Int32.toInt64 (e4 h0)))) h9)
    refine g_goto C dL_law_1520 (tgt := 2819) (by decide) ?_
    refine zG.wide (k := cells + 200) (n := slots + 3200) (by omega) (by omega) ?_
    refine zG_sub (L' := [(5, .int (nI (6 * j))), (4, .ref aod), (3, .ref ao), (2, .ref (adM 0)), (1, .ref (ad 0)), (0, .ref b)]) [2, 3, 4, 5, 6, 7] rfl ?_
    exact kk _ ⟨v1, n1, k1, z1, f1, t1, v2, n2, k2, z2, f2, t2, _, fd, X', Y', a', rfl, hP.step e5 e6⟩
  · skip
    refine g_istore (L' := [(6, .int (nI (i + 1))), (5, .int (nI (6 * j))), (4, .ref aod), (3, .ref ao), (2, .ref (adM 0)), (1, .ref (ad 0)), (0, .ref b)]) C dL_law_1472 (by decide) rfl ?_
    refine g_aload_n (j := 4) C dL_law_1474 rfl rfl ?_
    refine g_aload_n (j := 6) C dL_law_1475 rfl rfl ?_
    refine g_iload (j := 1) C dL_law_1476 rfl ?_
    refine g_iconst (v := (nI 1)) C dL_law_1478 (by decide) ?_
    refine g_iadd C dL_law_1479 ?_
    refine p_num (y := (nI (6 * j + 1))) (nI_add _ _) ?_
    refine n_sld C hX hbl hbA (nI_in (by omega) (by omega)) dL_law_1480 ?_
    refine p_num (y := (xs (6 * j + 1))) (by rw [nI_clamp (by omega)]) ?_
    refine g_aload_n (j := 6) C dL_law_1481 rfl rfl ?_
    refine g_iload (j := 1) C dL_law_1482 rfl ?_
    refine g_iconst (v := (nI 2)) C dL_law_1484 (by decide) ?_
    refine g_iadd C dL_law_1485 ?_
    refine p_num (y := (nI (6 * j + 2))) (nI_add _ _) ?_
    refine n_sld C hX hbl hbA (nI_in (by omega) (by omega)) dL_law_1486 ?_
    refine p_num (y := (xs (6 * j + 2))) (by rw [nI_clamp (by omega)]) ?_
    refine zG.less (ws' := (zW cy adM shM (z_rend cy ad X' 0 shC ++ ((tB cy (ad 152) v1 n1 z1 k1 f1) ++ ((tB cy (ad 153) v2 n2 z2 k2 f2) ++ [(zOut cy ao fo), (zOuD cy aod fd)]))) Y)) (l' := (zW cy ad shC (zLT cy adM (tB cy (ad 152) v1 n1 z1 k1 f1) (tB cy (ad 153) v2 n2 z2 k2 f2) (zOut cy ao fo) (zOuD cy aod fd) Y) X')) (zpM _ _ _ _ _ _) (List.Sublist.refl _) ?_
    refine g_vi (ws' := (zW cy adM shM (z_rend cy ad X' 0 shC ++ ((tB cy (ad 152) v1 n1 z1 k1 f1) ++ ((tB cy (ad 153) v2 n2 z2 k2 f2) ++ [(zOut cy ao fo), (zOuD cy aod fd)]))) Y')) (As := [.int (xs (6 * j + 1)), .int (xs (6 * j + 2))]) (rest := []) (res := b9) C (c_X6_sell l D cy adM (z_rend cy ad X' 0 shC ++ ((tB cy (ad 152) v1 n1 z1 k1 f1) ++ ((tB cy (ad 153) v2 n2 z2 k2 f2) ++ [(zOut cy ao fo), (zOuD cy aod fd)]))) Y (xs (6 * j + 1)) (xs (6 * j + 2)) e2) zml_RL_210 zcv_X6_sell (zW_get Y sM_0) rfl rfl rfl ⟨Nat.le_of_ble_eq_true rfl, Nat.le_of_ble_eq_true rfl⟩ rfl rfl (Nat.le_of_ble_eq_true rfl) ⟨by show cells + 1 ≤ 603072; omega, by show slots + 6 ≤ 7194730; omega⟩ dL_law_1487 ?_
    refine g_istore (L' := [(7, .int b9), (6, .int (nI (i + 1))), (5, .int (nI (6 * j))), (4, .ref aod), (3, .ref ao), (2, .ref (adM 0)), (1, .ref (ad 0)), (0, .ref b)]) C dL_law_1490 (by decide) rfl ?_
    refine g_aload_n (j := 5) C dL_law_1492 rfl rfl ?_
    refine g_vi (ws' := (zW cy adM shM (z_rend cy ad X' 0 shC ++ ((tB cy (ad 152) v1 n1 z1 k1 f1) ++ ((tB cy (ad 153) v2 n2 z2 k2 f2) ++ [(zOut cy ao fo), (zOuD cy aod fd)]))) Y')) (As := []) (rest := []) (res := Y' 0 0) C (c_X6_thrown l D cy adM (z_rend cy ad X' 0 shC ++ ((tB cy (ad 152) v1 n1 z1 k1 f1) ++ ((tB cy (ad 153) v2 n2 z2 k2 f2) ++ [(zOut cy ao fo), (zOuD cy aod fd)]))) Y') zml_RL_155 zcv_X6_thrown (zW_get Y' sM_0) rfl rfl rfl ⟨Nat.le_of_ble_eq_true rfl, Nat.le_of_ble_eq_true rfl⟩ rfl rfl (Nat.le_of_ble_eq_true rfl) ⟨by show cells + 1 ≤ 603072; omega, by show slots + 6 ≤ 7194730; omega⟩ dL_law_1493 ?_
    refine zG.less (ws' := (zW cy ad shC (zLT cy adM (tB cy (ad 152) v1 n1 z1 k1 f1) (tB cy (ad 153) v2 n2 z2 k2 f2) (zOut cy ao fo) (zOuD cy aod fd) Y') X')) (l' := (zW cy adM shM (z_rend cy ad X' 0 shC ++ ((tB cy (ad 152) v1 n1 z1 k1 f1) ++ ((tB cy (ad 153) v2 n2 z2 k2 f2) ++ [(zOut cy ao fo), (zOuD cy aod fd)]))) Y')) (zpM _ _ _ _ _ _).symm (List.Sublist.refl _) ?_
    refine g_iload (j := 1) C dL_law_1496 rfl ?_
    refine g_icmp_eq C dL_law_1498 (tgt := 1503) (by decide) (fun _ => ?_) (fun h9 => absurd (e3.trans (congrArg nI (kx_3125 i _ hi))) h9)
    refine g_iload (j := 1) C dL_law_1503 rfl ?_
    refine g_if_ne C dL_law_1505 (tgt := 1520) (by decide) (fun _ => ?_) (fun h9 => absurd h9 (nIs_ne0 (getE_lt hi (by decide))))
    refine g_goto C dL_law_1520 (tgt := 2819) (by decide) ?_
    refine zG.wide (k := cells + 200) (n := slots + 3200) (by omega) (by omega) ?_
    refine zG_sub (L' := [(5, .int (nI (6 * j))), (4, .ref aod), (3, .ref ao), (2, .ref (adM 0)), (1, .ref (ad 0)), (0, .ref b)]) [2, 3, 4, 5, 6, 7] rfl ?_
    exact kk _ ⟨v1, n1, k1, z1, f1, t1, v2, n2, k2, z2, f2, t2, fo, fd, X', Y', a', rfl, hP.step e5 e6⟩
theorem zml_RL_213 : Cond.methodLink RL 213 yX6_show ∈ zAll := zg (z_t8 (List.mem_of_getElem? (i := 31) (by decide +kernel))) (by decide +kernel)
set_option maxRecDepth 100000 in
set_option maxHeartbeats 8000000 in
theorem law_show (C : zC p s m args meth c code 9 RL D (zTy cy) A) (hE : zEl A s s.heap) (hlt : l.stackTraces = false) (hX : va_X b N xs s s.heap) (hbl : b < s.heap.size) (hbA : ¬ A b) (j : Nat) (hj : 6 * j + 6 ≤ N) (hN : N ≤ 3072) (w : va_W) (hJ : zLJ cy ad adM ao aod w) (hc : cells + 200 ≤ 603072) (hs : slots + 3200 ≤ 7194730) (kk : ∀ w', zLJ cy ad adM ao aod w' → zG p l e room_1 s m args below meth c 9 D A (cells + 200) (slots + 3200) Q w' 2819 [(5, .int (nI (6 * j))), (4, .ref aod), (3, .ref ao), (2, .ref (adM 0)), (1, .ref (ad 0)), (0, .ref b)] []) : zG p l e room_1 s m args below meth c 9 D A cells slots Q w 1523 [(5, .int (nI (6 * j))), (4, .ref aod), (3, .ref ao), (2, .ref (adM 0)), (1, .ref (ad 0)), (0, .ref b)] [] := by
  obtain ⟨v1, n1, k1, z1, f1, t1, v2, n2, k2, z2, f2, t2, fo, fd, X, Y, a, rfl, hP⟩ := hJ
  obtain ⟨c9, v9, b9, X', Y', a', e1, e2, e3, e4, e5, e6⟩ := zSimR.up hP.1 (sim_show hP.1.1 hP.1.2.1 hP.1.2.2.1.1 (xs (6 * j + 1)) (xs (6 * j + 2)))
  have hcd : inC [3, 1] c9 := (oc_show X (xs (6 * j + 1)) (xs (6 * j + 2))).o _ e1
  have hM := (c_X5_show l hlt D cy ad (zLT cy adM (tB cy (ad 152) v1 n1 z1 k1 f1) (tB cy (ad 153) v2 n2 z2 k2 f2) (zOut cy ao fo) (zOuD cy aod fd) Y) X (xs (6 * j + 1)) (xs (6 * j + 2))).toY
  rw [Option.some.inj e1] at hM
  have hw := hw_show l D cy zTh_ge zEw_th _ (ad 0) _ (xs (6 * j + 1)) (xs (6 * j + 2)) ao 156 fo 1 6 _ _ _ hM rfl rfl ⟨by decide, by decide⟩ (zW_get X sC_0) (fun v w hh => by obtain ⟨_, _, rfl⟩ := hh; exact zLW_o) (fun c w hh h0 => by obtain ⟨rfl, _⟩ := hh; simpa using hcd.ne h0)
  refine g_aload_n (j := 4) C dL_law_1523 rfl rfl ?_
  refine g_aload_n (j := 5) C dL_law_1524 rfl rfl ?_
  refine g_iload (j := 0) C dL_law_1525 rfl ?_
  refine g_iconst (v := (nI 1)) C dL_law_1527 (by decide) ?_
  refine g_iadd C dL_law_1528 ?_
  refine p_num (y := (nI (6 * j + 1))) (nI_add _ _) ?_
  refine n_sld C hX hbl hbA (nI_in (by omega) (by omega)) dL_law_1529 ?_
  refine p_num (y := (xs (6 * j + 1))) (by rw [nI_clamp (by omega)]) ?_
  refine g_aload_n (j := 5) C dL_law_1530 rfl rfl ?_
  refine g_iload (j := 0) C dL_law_1531 rfl ?_
  refine g_iconst (v := (nI 2)) C dL_law_1533 (by decide) ?_
  refine g_iadd C dL_law_1534 ?_
  refine p_num (y := (nI (6 * j + 2))) (nI_add _ _) ?_
  refine n_sld C hX hbl hbA (nI_in (by omega) (by omega)) dL_law_1535 ?_
  refine p_num (y := (xs (6 * j + 2))) (by rw [nI_clamp (by omega)]) ?_
  refine g_aload_n (j := 2) C dL_law_1536 rfl rfl ?_
  refine t_SWi (As := [.ref (ad 0), .int (xs (6 * j + 1)), .int (xs (6 * j + 2)), .ref ao]) (rest := []) zEw_ge hE.1 C hw zcw_show rfl rfl ⟨Nat.le_of_ble_eq_true rfl, Nat.le_of_ble_eq_true rfl⟩ rfl rfl (Nat.le_of_ble_eq_true rfl) ⟨by show cells + 1 ≤ 603072; omega, by show slots + 6 ≤ 7194730; omega⟩ dL_law_1537 ?_
  intro r w hr9
  rcases hr9 with ⟨rfl, v', w1, ⟨h0, hv9, rfl⟩, rfl⟩ | ⟨i, c', hi, ⟨rfl, rfl⟩, hne, rfl⟩
  · skip
    have hv9 : v9 = v' := hv9.symm
    subst hv9
    rw [show List.set _ 156 _ = (zW cy ad shC (zLT cy adM (tB cy (ad 152) v1 n1 z1 k1 f1) (tB cy (ad 153) v2 n2 z2 k2 f2) (zOut cy ao (vp_updL fo 0 v9.toInt64)) (zOuD cy aod fd) Y) X') from zLW_so]
    have h0 : c9 = 0 := h0
    refine g_istore (L' := [(6, .int (nI 0)), (5, .int (nI (6 * j))), (4, .ref aod), (3, .ref ao), (2, .ref (adM 0)), (1, .ref (ad 0)), (0, .ref b)]) C dL_law_1540 (by decide) rfl ?_
    refine g_aload_n (j := 4) C dL_law_1542 rfl rfl ?_
    refine g_aload_n (j := 6) C dL_law_1543 rfl rfl ?_
    refine g_iload (j := 1) C dL_law_1544 rfl ?_
    refine g_iconst (v := (nI 1)) C dL_law_1546 (by decide) ?_
    refine g_iadd C dL_law_1547 ?_
    refine p_num (y := (nI (6 * j + 1))) (nI_add _ _) ?_
    refine n_sld C hX hbl hbA (nI_in (by omega) (by omega)) dL_law_1548 ?_
    refine p_num (y := (xs (6 * j + 1))) (by rw [nI_clamp (by omega)]) ?_
    refine g_aload_n (j := 6) C dL_law_1549 rfl rfl ?_
    refine g_iload (j := 1) C dL_law_1550 rfl ?_
    refine g_iconst (v := (nI 2)) C dL_law_1552 (by decide) ?_
    refine g_iadd C dL_law_1553 ?_
    refine p_num (y := (nI (6 * j + 2))) (nI_add _ _) ?_
    refine n_sld C hX hbl hbA (nI_in (by omega) (by omega)) dL_law_1554 ?_
    refine p_num (y := (xs (6 * j + 2))) (by rw [nI_clamp (by omega)]) ?_
    refine zG.less (ws' := (zW cy adM shM (z_rend cy ad X' 0 shC ++ ((tB cy (ad 152) v1 n1 z1 k1 f1) ++ ((tB cy (ad 153) v2 n2 z2 k2 f2) ++ [(zOut cy ao (vp_updL fo 0 v9.toInt64)), (zOuD cy aod fd)]))) Y)) (l' := (zW cy ad shC (zLT cy adM (tB cy (ad 152) v1 n1 z1 k1 f1) (tB cy (ad 153) v2 n2 z2 k2 f2) (zOut cy ao (vp_updL fo 0 v9.toInt64)) (zOuD cy aod fd) Y) X')) (zpM _ _ _ _ _ _) (List.Sublist.refl _) ?_
    refine g_vi (ws' := (zW cy adM shM (z_rend cy ad X' 0 shC ++ ((tB cy (ad 152) v1 n1 z1 k1 f1) ++ ((tB cy (ad 153) v2 n2 z2 k2 f2) ++ [(zOut cy ao (vp_updL fo 0 v9.toInt64)), (zOuD cy aod fd)]))) Y')) (As := [.int (xs (6 * j + 1)), .int (xs (6 * j + 2))]) (rest := []) (res := b9) C (c_X6_show l D cy adM (z_rend cy ad X' 0 shC ++ ((tB cy (ad 152) v1 n1 z1 k1 f1) ++ ((tB cy (ad 153) v2 n2 z2 k2 f2) ++ [(zOut cy ao (vp_updL fo 0 v9.toInt64)), (zOuD cy aod fd)]))) Y (xs (6 * j + 1)) (xs (6 * j + 2)) e2) zml_RL_213 zcv_X6_show (zW_get Y sM_0) rfl rfl rfl ⟨Nat.le_of_ble_eq_true rfl, Nat.le_of_ble_eq_true rfl⟩ rfl rfl (Nat.le_of_ble_eq_true rfl) ⟨by show cells + 1 ≤ 603072; omega, by show slots + 6 ≤ 7194730; omega⟩ dL_law_1555 ?_
    refine g_istore (L' := [(7, .int b9), (6, .int (nI 0)), (5, .int (nI (6 * j))), (4, .ref aod), (3, .ref ao), (2, .ref (adM 0)), (1, .ref (ad 0)), (0, .ref b)]) C dL_law_1558 (by decide) rfl ?_
    refine g_aload_n (j := 5) C dL_law_1560 rfl rfl ?_
    refine g_vi (ws' := (zW cy adM shM (z_rend cy ad X' 0 shC ++ ((tB cy (ad 152) v1 n1 z1 k1 f1) ++ ((tB cy (ad 153) v2 n2 z2 k2 f2) ++ [(zOut cy ao (vp_updL fo 0 v9.toInt64)), (zOuD cy aod fd)]))) Y')) (As := []) (rest := []) (res := Y' 0 0) C (c_X6_thrown l D cy adM (z_rend cy ad X' 0 shC ++ ((tB cy (ad 152) v1 n1 z1 k1 f1) ++ ((tB cy (ad 153) v2 n2 z2 k2 f2) ++ [(zOut cy ao (vp_updL fo 0 v9.toInt64)), (zOuD cy aod fd)]))) Y') zml_RL_155 zcv_X6_thrown (zW_get Y' sM_0) rfl rfl rfl ⟨Nat.le_of_ble_eq_true rfl, Nat.le_of_ble_eq_true rfl⟩ rfl rfl (Nat.le_of_ble_eq_true rfl) ⟨by show cells + 1 ≤ 603072; omega, by show slots + 6 ≤ 7194730; omega⟩ dL_law_1561 ?_
    refine zG.less (ws' := (zW cy ad shC (zLT cy adM (tB cy (ad 152) v1 n1 z1 k1 f1) (tB cy (ad 153) v2 n2 z2 k2 f2) (zOut cy ao (vp_updL fo 0 v9.toInt64)) (zOuD cy aod fd) Y') X')) (l' := (zW cy adM shM (z_rend cy ad X' 0 shC ++ ((tB cy (ad 152) v1 n1 z1 k1 f1) ++ ((tB cy (ad 153) v2 n2 z2 k2 f2) ++ [(zOut cy ao (vp_updL fo 0 v9.toInt64)), (zOuD cy aod fd)]))) Y')) (zpM _ _ _ _ _ _).symm (List.Sublist.refl _) ?_
    refine g_iload (j := 1) C dL_law_1564 rfl ?_
    refine g_icmp_eq C dL_law_1566 (tgt := 1571) (by decide) (fun _ => ?_) (fun h9 => absurd (e3.trans (by rw [h0]; rfl)) h9)
    refine g_iload (j := 1) C dL_law_1571 rfl ?_
    refine g_if_ne C dL_law_1573 (tgt := 1588) (by decide) (fun h9 => absurd nI_0 h9) (fun _ => ?_)
    refine g_aload_n (j := 4) C dL_law_1576 rfl rfl ?_
    refine g_iconst (v := (nI 0)) C dL_law_1577 (by decide) ?_
    refine n_lald (q0 := 156) (n := 1) C zLW_o (nI_in (by decide) (by decide)) dL_law_1578 ?_
    refine g_iload (j := 0) C dL_law_1579 rfl ?_
    refine n_i2l C dL_law_1581 ?_
    refine n_lcmp C dL_law_1582 ?_
    refine g_if_eq C dL_law_1583 (tgt := 1588) (by decide) (fun _ => ?_) (fun h9 => absurd (lg_cmp_rf ((updL_0 _ _).trans (congrArg Int32.toInt64 (e4 h0)))) h9)
    refine g_goto C dL_law_1588 (tgt := 2819) (by decide) ?_
    refine zG.wide (k := cells + 200) (n := slots + 3200) (by omega) (by omega) ?_
    refine zG_sub (L' := [(5, .int (nI (6 * j))), (4, .ref aod), (3, .ref ao), (2, .ref (adM 0)), (1, .ref (ad 0)), (0, .ref b)]) [2, 3, 4, 5, 6, 7] rfl ?_
    exact kk _ ⟨v1, n1, k1, z1, f1, t1, v2, n2, k2, z2, f2, t2, _, fd, X', Y', a', rfl, hP.step e5 e6⟩
  · skip
    refine g_istore (L' := [(6, .int (nI (i + 1))), (5, .int (nI (6 * j))), (4, .ref aod), (3, .ref ao), (2, .ref (adM 0)), (1, .ref (ad 0)), (0, .ref b)]) C dL_law_1540 (by decide) rfl ?_
    refine g_aload_n (j := 4) C dL_law_1542 rfl rfl ?_
    refine g_aload_n (j := 6) C dL_law_1543 rfl rfl ?_
    refine g_iload (j := 1) C dL_law_1544 rfl ?_
    refine g_iconst (v := (nI 1)) C dL_law_1546 (by decide) ?_
    refine g_iadd C dL_law_1547 ?_
    refine p_num (y := (nI (6 * j + 1))) (nI_add _ _) ?_
    refine n_sld C hX hbl hbA (nI_in (by omega) (by omega)) dL_law_1548 ?_
    refine p_num (y := (xs (6 * j + 1))) (by rw [nI_clamp (by omega)]) ?_
    refine g_aload_n (j := 6) C dL_law_1549 rfl rfl ?_
    refine g_iload (j := 1) C dL_law_1550 rfl ?_
    refine g_iconst (v := (nI 2)) C dL_law_1552 (by decide) ?_
    refine g_iadd C dL_law_1553 ?_
    refine p_num (y := (nI (6 * j + 2))) (nI_add _ _) ?_
    refine n_sld C hX hbl hbA (nI_in (by omega) (by omega)) dL_law_1554 ?_
    refine p_num (y := (xs (6 * j + 2))) (by rw [nI_clamp (by omega)]) ?_
    refine zG.less (ws' := (zW cy adM shM (z_rend cy ad X' 0 shC ++ ((tB cy (ad 152) v1 n1 z1 k1 f1) ++ ((tB cy (ad 153) v2 n2 z2 k2 f2) ++ [(zOut cy ao fo), (zOuD cy aod fd)]))) Y)) (l' := (zW cy ad shC (zLT cy adM (tB cy (ad 152) v1 n1 z1 k1 f1) (tB cy (ad 153) v2 n2 z2 k2 f2) (zOut cy ao fo) (zOuD cy aod fd) Y) X')) (zpM _ _ _ _ _ _) (List.Sublist.refl _) ?_
    refine g_vi (ws' := (zW cy adM shM (z_rend cy ad X' 0 shC ++ ((tB cy (ad 152) v1 n1 z1 k1 f1) ++ ((tB cy (ad 153) v2 n2 z2 k2 f2) ++ [(zOut cy ao fo), (zOuD cy aod fd)]))) Y')) (As := [.int (xs (6 * j + 1)), .int (xs (6 * j + 2))]) (rest := []) (res := b9) C (c_X6_show l D cy adM (z_rend cy ad X' 0 shC ++ ((tB cy (ad 152) v1 n1 z1 k1 f1) ++ ((tB cy (ad 153) v2 n2 z2 k2 f2) ++ [(zOut cy ao fo), (zOuD cy aod fd)]))) Y (xs (6 * j + 1)) (xs (6 * j + 2)) e2) zml_RL_213 zcv_X6_show (zW_get Y sM_0) rfl rfl rfl ⟨Nat.le_of_ble_eq_true rfl, Nat.le_of_ble_eq_true rfl⟩ rfl rfl (Nat.le_of_ble_eq_true rfl) ⟨by show cells + 1 ≤ 603072; omega, by show slots + 6 ≤ 7194730; omega⟩ dL_law_1555 ?_
    refine g_istore (L' := [(7, .int b9), (6, .int (nI (i + 1))), (5, .int (nI (6 * j))), (4, .ref aod), (3, .ref ao), (2, .ref (adM 0)), (1, .ref (ad 0)), (0, .ref b)]) C dL_law_1558 (by decide) rfl ?_
    refine g_aload_n (j := 5) C dL_law_1560 rfl rfl ?_
    refine g_vi (ws' := (zW cy adM shM (z_rend cy ad X' 0 shC ++ ((tB cy (ad 152) v1 n1 z1 k1 f1) ++ ((tB cy (ad 153) v2 n2 z2 k2 f2) ++ [(zOut cy ao fo), (zOuD cy aod fd)]))) Y')) (As := []) (rest := []) (res := Y' 0 0) C (c_X6_thrown l D cy adM (z_rend cy ad X' 0 shC ++ ((tB cy (ad 152) v1 n1 z1 k1 f1) ++ ((tB cy (ad 153) v2 n2 z2 k2 f2) ++ [(zOut cy ao fo), (zOuD cy aod fd)]))) Y') zml_RL_155 zcv_X6_thrown (zW_get Y' sM_0) rfl rfl rfl ⟨Nat.le_of_ble_eq_true rfl, Nat.le_of_ble_eq_true rfl⟩ rfl rfl (Nat.le_of_ble_eq_true rfl) ⟨by show cells + 1 ≤ 603072; omega, by show slots + 6 ≤ 7194730; omega⟩ dL_law_1561 ?_
    refine zG.less (ws' := (zW cy ad shC (zLT cy adM (tB cy (ad 152) v1 n1 z1 k1 f1) (tB cy (ad 153) v2 n2 z2 k2 f2) (zOut cy ao fo) (zOuD cy aod fd) Y') X')) (l' := (zW cy adM shM (z_rend cy ad X' 0 shC ++ ((tB cy (ad 152) v1 n1 z1 k1 f1) ++ ((tB cy (ad 153) v2 n2 z2 k2 f2) ++ [(zOut cy ao fo), (zOuD cy aod fd)]))) Y')) (zpM _ _ _ _ _ _).symm (List.Sublist.refl _) ?_
    refine g_iload (j := 1) C dL_law_1564 rfl ?_
    refine g_icmp_eq C dL_law_1566 (tgt := 1571) (by decide) (fun _ => ?_) (fun h9 => absurd (e3.trans (congrArg nI (kx_31 i _ hi))) h9)
    refine g_iload (j := 1) C dL_law_1571 rfl ?_
    refine g_if_ne C dL_law_1573 (tgt := 1588) (by decide) (fun _ => ?_) (fun h9 => absurd h9 (nIs_ne0 (getE_lt hi (by decide))))
    refine g_goto C dL_law_1588 (tgt := 2819) (by decide) ?_
    refine zG.wide (k := cells + 200) (n := slots + 3200) (by omega) (by omega) ?_
    refine zG_sub (L' := [(5, .int (nI (6 * j))), (4, .ref aod), (3, .ref ao), (2, .ref (adM 0)), (1, .ref (ad 0)), (0, .ref b)]) [2, 3, 4, 5, 6, 7] rfl ?_
    exact kk _ ⟨v1, n1, k1, z1, f1, t1, v2, n2, k2, z2, f2, t2, fo, fd, X', Y', a', rfl, hP.step e5 e6⟩
theorem zml_RL_217 : Cond.methodLink RL 217 yX6_why ∈ zAll := zg (z_t8 (List.mem_of_getElem? (i := 35) (by decide +kernel))) (by decide +kernel)
set_option maxRecDepth 100000 in
set_option maxHeartbeats 8000000 in
theorem law_why (C : zC p s m args meth c code 9 RL D (zTy cy) A) (hE : zEl A s s.heap) (hlt : l.stackTraces = false) (hX : va_X b N xs s s.heap) (hbl : b < s.heap.size) (hbA : ¬ A b) (j : Nat) (hj : 6 * j + 6 ≤ N) (hN : N ≤ 3072) (w : va_W) (hJ : zLJ cy ad adM ao aod w) (hc : cells + 200 ≤ 603072) (hs : slots + 3200 ≤ 7194730) (kk : ∀ w', zLJ cy ad adM ao aod w' → zG p l e room_1 s m args below meth c 9 D A (cells + 200) (slots + 3200) Q w' 2819 [(5, .int (nI (6 * j))), (4, .ref aod), (3, .ref ao), (2, .ref (adM 0)), (1, .ref (ad 0)), (0, .ref b)] []) : zG p l e room_1 s m args below meth c 9 D A cells slots Q w 1591 [(5, .int (nI (6 * j))), (4, .ref aod), (3, .ref ao), (2, .ref (adM 0)), (1, .ref (ad 0)), (0, .ref b)] [] := by
  obtain ⟨v1, n1, k1, z1, f1, t1, v2, n2, k2, z2, f2, t2, fo, fd, X, Y, a, rfl, hP⟩ := hJ
  by_cases hb0 : xs (6 * j + 5) = 0
  · skip
    obtain ⟨c9, v9, b9, X', Y', a', e1, e2, e3, e4, e5, e6⟩ := sim_why hP.1 (xs (6 * j + 1)) (xs (6 * j + 2)) (xs (6 * j + 3)) (xs (6 * j + 4)) (nI 0)
    have hcd : inC [3, 1] c9 := oc_why X (xs (6 * j + 1)) (xs (6 * j + 2)) (xs (6 * j + 3)) (xs (6 * j + 4)) (nI 0) _ e1
    have hM := (c_X5_why l hlt D cy ad (zLT cy adM (tB cy (ad 152) v1 n1 z1 k1 f1) (tB cy (ad 153) v2 n2 z2 k2 f2) (zOut cy ao fo) (zOuD cy aod fd) Y) X (xs (6 * j + 1)) (xs (6 * j + 2)) (xs (6 * j + 3)) (xs (6 * j + 4)) (nI 0) e1).toY
    have hw := hw_why l D cy zTh_ge zEw_th _ (ad 0) _ (xs (6 * j + 1)) (xs (6 * j + 2)) (xs (6 * j + 3)) (xs (6 * j + 4)) (nI 0) ao 156 fo 1 6 _ _ _ hM rfl rfl ⟨by decide, by decide⟩ (zW_get X sC_0) (fun v w hh => by obtain ⟨_, _, rfl⟩ := hh; exact zLW_o) (fun c w hh h0 => by obtain ⟨rfl, _⟩ := hh; simpa using hcd.ne h0)
    refine g_aload_n (j := 4) C dL_law_1591 rfl rfl ?_
    refine g_aload_n (j := 5) C dL_law_1592 rfl rfl ?_
    refine g_iload (j := 0) C dL_law_1593 rfl ?_
    refine g_iconst (v := (nI 1)) C dL_law_1595 (by decide) ?_
    refine g_iadd C dL_law_1596 ?_
    refine p_num (y := (nI (6 * j + 1))) (nI_add _ _) ?_
    refine n_sld C hX hbl hbA (nI_in (by omega) (by omega)) dL_law_1597 ?_
    refine p_num (y := (xs (6 * j + 1))) (by rw [nI_clamp (by omega)]) ?_
    refine g_aload_n (j := 5) C dL_law_1598 rfl rfl ?_
    refine g_iload (j := 0) C dL_law_1599 rfl ?_
    refine g_iconst (v := (nI 2)) C dL_law_1601 (by decide) ?_
    refine g_iadd C dL_law_1602 ?_
    refine p_num (y := (nI (6 * j + 2))) (nI_add _ _) ?_
    refine n_sld C hX hbl hbA (nI_in (by omega) (by omega)) dL_law_1603 ?_
    refine p_num (y := (xs (6 * j + 2))) (by rw [nI_clamp (by omega)]) ?_
    refine g_aload_n (j := 5) C dL_law_1604 rfl rfl ?_
    refine g_iload (j := 0) C dL_law_1605 rfl ?_
    refine g_iconst (v := (nI 3)) C dL_law_1607 (by decide) ?_
    refine g_iadd C dL_law_1608 ?_
    refine p_num (y := (nI (6 * j + 3))) (nI_add _ _) ?_
    refine n_sld C hX hbl hbA (nI_in (by omega) (by omega)) dL_law_1609 ?_
    refine p_num (y := (xs (6 * j + 3))) (by rw [nI_clamp (by omega)]) ?_
    refine g_aload_n (j := 5) C dL_law_1610 rfl rfl ?_
    refine g_iload (j := 0) C dL_law_1611 rfl ?_
    refine g_iconst (v := (nI 4)) C dL_law_1613 (by decide) ?_
    refine g_iadd C dL_law_1614 ?_
    refine p_num (y := (nI (6 * j + 4))) (nI_add _ _) ?_
    refine n_sld C hX hbl hbA (nI_in (by omega) (by omega)) dL_law_1615 ?_
    refine p_num (y := (xs (6 * j + 4))) (by rw [nI_clamp (by omega)]) ?_
    refine g_aload_n (j := 5) C dL_law_1616 rfl rfl ?_
    refine g_iload (j := 0) C dL_law_1617 rfl ?_
    refine g_iconst (v := (nI 5)) C dL_law_1619 (by decide) ?_
    refine g_iadd C dL_law_1620 ?_
    refine p_num (y := (nI (6 * j + 5))) (nI_add _ _) ?_
    refine n_sld C hX hbl hbA (nI_in (by omega) (by omega)) dL_law_1621 ?_
    refine p_num (y := (xs (6 * j + 5))) (by rw [nI_clamp (by omega)]) ?_
    refine g_if_eq C dL_law_1622 (tgt := 1629) (by decide) (fun _ => ?_) (fun h9 => absurd hb0 h9)
    refine g_iconst (v := (nI 0)) C dL_law_1629 (by decide) ?_
    refine g_aload_n (j := 2) C dL_law_1630 rfl rfl ?_
    refine t_SWi (As := [.ref (ad 0), .int (xs (6 * j + 1)), .int (xs (6 * j + 2)), .int (xs (6 * j + 3)), .int (xs (6 * j + 4)), .int (nI 0), .ref ao]) (rest := []) zEw_ge hE.1 C hw zcw_why rfl rfl ⟨Nat.le_of_ble_eq_true rfl, Nat.le_of_ble_eq_true rfl⟩ rfl rfl (Nat.le_of_ble_eq_true rfl) ⟨by show cells + 1 ≤ 603072; omega, by show slots + 6 ≤ 7194730; omega⟩ dL_law_1631 ?_
    intro r w hr9
    rcases hr9 with ⟨rfl, v', w1, ⟨h0, hv9, rfl⟩, rfl⟩ | ⟨i, c', hi, ⟨rfl, rfl⟩, hne, rfl⟩
    · skip
      have hv9 : v9 = v' := hv9.symm
      subst hv9
      rw [show List.set _ 156 _ = (zW cy ad shC (zLT cy adM (tB cy (ad 152) v1 n1 z1 k1 f1) (tB cy (ad 153) v2 n2 z2 k2 f2) (zOut cy ao (vp_updL fo 0 v9.toInt64)) (zOuD cy aod fd) Y) X') from zLW_so]
      have h0 : c9 = 0 := h0
      refine g_istore (L' := [(6, .int (nI 0)), (5, .int (nI (6 * j))), (4, .ref aod), (3, .ref ao), (2, .ref (adM 0)), (1, .ref (ad 0)), (0, .ref b)]) C dL_law_1634 (by decide) rfl ?_
      refine g_aload_n (j := 4) C dL_law_1636 rfl rfl ?_
      refine g_aload_n (j := 6) C dL_law_1637 rfl rfl ?_
      refine g_iload (j := 1) C dL_law_1638 rfl ?_
      refine g_iconst (v := (nI 1)) C dL_law_1640 (by decide) ?_
      refine g_iadd C dL_law_1641 ?_
      refine p_num (y := (nI (6 * j + 1))) (nI_add _ _) ?_
      refine n_sld C hX hbl hbA (nI_in (by omega) (by omega)) dL_law_1642 ?_
      refine p_num (y := (xs (6 * j + 1))) (by rw [nI_clamp (by omega)]) ?_
      refine g_aload_n (j := 6) C dL_law_1643 rfl rfl ?_
      refine g_iload (j := 1) C dL_law_1644 rfl ?_
      refine g_iconst (v := (nI 2)) C dL_law_1646 (by decide) ?_
      refine g_iadd C dL_law_1647 ?_
      refine p_num (y := (nI (6 * j + 2))) (nI_add _ _) ?_
      refine n_sld C hX hbl hbA (nI_in (by omega) (by omega)) dL_law_1648 ?_
      refine p_num (y := (xs (6 * j + 2))) (by rw [nI_clamp (by omega)]) ?_
      refine g_aload_n (j := 6) C dL_law_1649 rfl rfl ?_
      refine g_iload (j := 1) C dL_law_1650 rfl ?_
      refine g_iconst (v := (nI 3)) C dL_law_1652 (by decide) ?_
      refine g_iadd C dL_law_1653 ?_
      refine p_num (y := (nI (6 * j + 3))) (nI_add _ _) ?_
      refine n_sld C hX hbl hbA (nI_in (by omega) (by omega)) dL_law_1654 ?_
      refine p_num (y := (xs (6 * j + 3))) (by rw [nI_clamp (by omega)]) ?_
      refine g_aload_n (j := 6) C dL_law_1655 rfl rfl ?_
      refine g_iload (j := 1) C dL_law_1656 rfl ?_
      refine g_iconst (v := (nI 4)) C dL_law_1658 (by decide) ?_
      refine g_iadd C dL_law_1659 ?_
      refine p_num (y := (nI (6 * j + 4))) (nI_add _ _) ?_
      refine n_sld C hX hbl hbA (nI_in (by omega) (by omega)) dL_law_1660 ?_
      refine p_num (y := (xs (6 * j + 4))) (by rw [nI_clamp (by omega)]) ?_
      refine g_aload_n (j := 6) C dL_law_1661 rfl rfl ?_
      refine g_iload (j := 1) C dL_law_1662 rfl ?_
      refine g_iconst (v := (nI 5)) C dL_law_1664 (by decide) ?_
      refine g_iadd C dL_law_1665 ?_
      refine p_num (y := (nI (6 * j + 5))) (nI_add _ _) ?_
      refine n_sld C hX hbl hbA (nI_in (by omega) (by omega)) dL_law_1666 ?_
      refine p_num (y := (xs (6 * j + 5))) (by rw [nI_clamp (by omega)]) ?_
      refine g_if_eq C dL_law_1667 (tgt := 1674) (by decide) (fun _ => ?_) (fun h9 => absurd hb0 h9)
      refine g_iconst (v := (nI 0)) C dL_law_1674 (by decide) ?_
      refine zG.less (ws' := (zW cy adM shM (z_rend cy ad X' 0 shC ++ ((tB cy (ad 152) v1 n1 z1 k1 f1) ++ ((tB cy (ad 153) v2 n2 z2 k2 f2) ++ [(zOut cy ao (vp_updL fo 0 v9.toInt64)), (zOuD cy aod fd)]))) Y)) (l' := (zW cy ad shC (zLT cy adM (tB cy (ad 152) v1 n1 z1 k1 f1) (tB cy (ad 153) v2 n2 z2 k2 f2) (zOut cy ao (vp_updL fo 0 v9.toInt64)) (zOuD cy aod fd) Y) X')) (zpM _ _ _ _ _ _) (List.Sublist.refl _) ?_
      refine g_vi (ws' := (zW cy adM shM (z_rend cy ad X' 0 shC ++ ((tB cy (ad 152) v1 n1 z1 k1 f1) ++ ((tB cy (ad 153) v2 n2 z2 k2 f2) ++ [(zOut cy ao (vp_updL fo 0 v9.toInt64)), (zOuD cy aod fd)]))) Y')) (As := [.int (xs (6 * j + 1)), .int (xs (6 * j + 2)), .int (xs (6 * j + 3)), .int (xs (6 * j + 4)), .int (nI 0)]) (rest := []) (res := b9) C (c_X6_why l D cy adM (z_rend cy ad X' 0 shC ++ ((tB cy (ad 152) v1 n1 z1 k1 f1) ++ ((tB cy (ad 153) v2 n2 z2 k2 f2) ++ [(zOut cy ao (vp_updL fo 0 v9.toInt64)), (zOuD cy aod fd)]))) Y (xs (6 * j + 1)) (xs (6 * j + 2)) (xs (6 * j + 3)) (xs (6 * j + 4)) (nI 0) e2) zml_RL_217 zcv_X6_why (zW_get Y sM_0) rfl rfl rfl ⟨Nat.le_of_ble_eq_true rfl, Nat.le_of_ble_eq_true rfl⟩ rfl rfl (Nat.le_of_ble_eq_true rfl) ⟨by show cells + 1 ≤ 603072; omega, by show slots + 6 ≤ 7194730; omega⟩ dL_law_1675 ?_
      refine g_istore (L' := [(7, .int b9), (6, .int (nI 0)), (5, .int (nI (6 * j))), (4, .ref aod), (3, .ref ao), (2, .ref (adM 0)), (1, .ref (ad 0)), (0, .ref b)]) C dL_law_1678 (by decide) rfl ?_
      refine g_aload_n (j := 5) C dL_law_1680 rfl rfl ?_
      refine g_vi (ws' := (zW cy adM shM (z_rend cy ad X' 0 shC ++ ((tB cy (ad 152) v1 n1 z1 k1 f1) ++ ((tB cy (ad 153) v2 n2 z2 k2 f2) ++ [(zOut cy ao (vp_updL fo 0 v9.toInt64)), (zOuD cy aod fd)]))) Y')) (As := []) (rest := []) (res := Y' 0 0) C (c_X6_thrown l D cy adM (z_rend cy ad X' 0 shC ++ ((tB cy (ad 152) v1 n1 z1 k1 f1) ++ ((tB cy (ad 153) v2 n2 z2 k2 f2) ++ [(zOut cy ao (vp_updL fo 0 v9.toInt64)), (zOuD cy aod fd)]))) Y') zml_RL_155 zcv_X6_thrown (zW_get Y' sM_0) rfl rfl rfl ⟨Nat.le_of_ble_eq_true rfl, Nat.le_of_ble_eq_true rfl⟩ rfl rfl (Nat.le_of_ble_eq_true rfl) ⟨by show cells + 1 ≤ 603072; omega, by show slots + 6 ≤ 7194730; omega⟩ dL_law_1681 ?_
      refine zG.less (ws' := (zW cy ad shC (zLT cy adM (tB cy (ad 152) v1 n1 z1 k1 f1) (tB cy (ad 153) v2 n2 z2 k2 f2) (zOut cy ao (vp_updL fo 0 v9.toInt64)) (zOuD cy aod fd) Y') X')) (l' := (zW cy adM shM (z_rend cy ad X' 0 shC ++ ((tB cy (ad 152) v1 n1 z1 k1 f1) ++ ((tB cy (ad 153) v2 n2 z2 k2 f2) ++ [(zOut cy ao (vp_updL fo 0 v9.toInt64)), (zOuD cy aod fd)]))) Y')) (zpM _ _ _ _ _ _).symm (List.Sublist.refl _) ?_
      refine g_iload (j := 1) C dL_law_1684 rfl ?_
      refine g_icmp_eq C dL_law_1686 (tgt := 1691) (by decide) (fun _ => ?_) (fun h9 => absurd (e3.trans (by rw [h0]; rfl)) h9)
      refine g_iload (j := 1) C dL_law_1691 rfl ?_
      refine g_if_ne C dL_law_1693 (tgt := 1708) (by decide) (fun h9 => absurd nI_0 h9) (fun _ => ?_)
      refine g_aload_n (j := 4) C dL_law_1696 rfl rfl ?_
      refine g_iconst (v := (nI 0)) C dL_law_1697 (by decide) ?_
      refine n_lald (q0 := 156) (n := 1) C zLW_o (nI_in (by decide) (by decide)) dL_law_1698 ?_
      refine g_iload (j := 0) C dL_law_1699 rfl ?_
      refine n_i2l C dL_law_1701 ?_
      refine n_lcmp C dL_law_1702 ?_
      refine g_if_eq C dL_law_1703 (tgt := 1708) (by decide) (fun _ => ?_) (fun h9 => absurd (lg_cmp_rf ((updL_0 _ _).trans (congrArg Int32.toInt64 (e4 h0)))) h9)
      refine g_goto C dL_law_1708 (tgt := 2819) (by decide) ?_
      refine zG.wide (k := cells + 200) (n := slots + 3200) (by omega) (by omega) ?_
      refine zG_sub (L' := [(5, .int (nI (6 * j))), (4, .ref aod), (3, .ref ao), (2, .ref (adM 0)), (1, .ref (ad 0)), (0, .ref b)]) [2, 3, 4, 5, 6, 7] rfl ?_
      exact kk _ ⟨v1, n1, k1, z1, f1, t1, v2, n2, k2, z2, f2, t2, _, fd, X', Y', a', rfl, hP.step e5 e6⟩
    · skip
      refine g_istore (L' := [(6, .int (nI (i + 1))), (5, .int (nI (6 * j))), (4, .ref aod), (3, .ref ao), (2, .ref (adM 0)), (1, .ref (ad 0)), (0, .ref b)]) C dL_law_1634 (by decide) rfl ?_
      refine g_aload_n (j := 4) C dL_law_1636 rfl rfl ?_
      refine g_aload_n (j := 6) C dL_law_1637 rfl rfl ?_
      refine g_iload (j := 1) C dL_law_1638 rfl ?_
      refine g_iconst (v := (nI 1)) C dL_law_1640 (by decide) ?_
      refine g_iadd C dL_law_1641 ?_
      refine p_num (y := (nI (6 * j + 1))) (nI_add _ _) ?_
      refine n_sld C hX hbl hbA (nI_in (by omega) (by omega)) dL_law_1642 ?_
      refine p_num (y := (xs (6 * j + 1))) (by rw [nI_clamp (by omega)]) ?_
      refine g_aload_n (j := 6) C dL_law_1643 rfl rfl ?_
      refine g_iload (j := 1) C dL_law_1644 rfl ?_
      refine g_iconst (v := (nI 2)) C dL_law_1646 (by decide) ?_
      refine g_iadd C dL_law_1647 ?_
      refine p_num (y := (nI (6 * j + 2))) (nI_add _ _) ?_
      refine n_sld C hX hbl hbA (nI_in (by omega) (by omega)) dL_law_1648 ?_
      refine p_num (y := (xs (6 * j + 2))) (by rw [nI_clamp (by omega)]) ?_
      refine g_aload_n (j := 6) C dL_law_1649 rfl rfl ?_
      refine g_iload (j := 1) C dL_law_1650 rfl ?_
      refine g_iconst (v := (nI 3)) C dL_law_1652 (by decide) ?_
      refine g_iadd C dL_law_1653 ?_
      refine p_num (y := (nI (6 * j + 3))) (nI_add _ _) ?_
      refine n_sld C hX hbl hbA (nI_in (by omega) (by omega)) dL_law_1654 ?_
      refine p_num (y := (xs (6 * j + 3))) (by rw [nI_clamp (by omega)]) ?_
      refine g_aload_n (j := 6) C dL_law_1655 rfl rfl ?_
      refine g_iload (j := 1) C dL_law_1656 rfl ?_
      refine g_iconst (v := (nI 4)) C dL_law_1658 (by decide) ?_
      refine g_iadd C dL_law_1659 ?_
      refine p_num (y := (nI (6 * j + 4))) (nI_add _ _) ?_
      refine n_sld C hX hbl hbA (nI_in (by omega) (by omega)) dL_law_1660 ?_
      refine p_num (y := (xs (6 * j + 4))) (by rw [nI_clamp (by omega)]) ?_
      refine g_aload_n (j := 6) C dL_law_1661 rfl rfl ?_
      refine g_iload (j := 1) C dL_law_1662 rfl ?_
      refine g_iconst (v := (nI 5)) C dL_law_1664 (by decide) ?_
      refine g_iadd C dL_law_1665 ?_
      refine p_num (y := (nI (6 * j + 5))) (nI_add _ _) ?_
      refine n_sld C hX hbl hbA (nI_in (by omega) (by omega)) dL_law_1666 ?_
      refine p_num (y := (xs (6 * j + 5))) (by rw [nI_clamp (by omega)]) ?_
      refine g_if_eq C dL_law_1667 (tgt := 1674) (by decide) (fun _ => ?_) (fun h9 => absurd hb0 h9)
      refine g_iconst (v := (nI 0)) C dL_law_1674 (by decide) ?_
      refine zG.less (ws' := (zW cy adM shM (z_rend cy ad X' 0 shC ++ ((tB cy (ad 152) v1 n1 z1 k1 f1) ++ ((tB cy (ad 153) v2 n2 z2 k2 f2) ++ [(zOut cy ao fo), (zOuD cy aod fd)]))) Y)) (l' := (zW cy ad shC (zLT cy adM (tB cy (ad 152) v1 n1 z1 k1 f1) (tB cy (ad 153) v2 n2 z2 k2 f2) (zOut cy ao fo) (zOuD cy aod fd) Y) X')) (zpM _ _ _ _ _ _) (List.Sublist.refl _) ?_
      refine g_vi (ws' := (zW cy adM shM (z_rend cy ad X' 0 shC ++ ((tB cy (ad 152) v1 n1 z1 k1 f1) ++ ((tB cy (ad 153) v2 n2 z2 k2 f2) ++ [(zOut cy ao fo), (zOuD cy aod fd)]))) Y')) (As := [.int (xs (6 * j + 1)), .int (xs (6 * j + 2)), .int (xs (6 * j + 3)), .int (xs (6 * j + 4)), .int (nI 0)]) (rest := []) (res := b9) C (c_X6_why l D cy adM (z_rend cy ad X' 0 shC ++ ((tB cy (ad 152) v1 n1 z1 k1 f1) ++ ((tB cy (ad 153) v2 n2 z2 k2 f2) ++ [(zOut cy ao fo), (zOuD cy aod fd)]))) Y (xs (6 * j + 1)) (xs (6 * j + 2)) (xs (6 * j + 3)) (xs (6 * j + 4)) (nI 0) e2) zml_RL_217 zcv_X6_why (zW_get Y sM_0) rfl rfl rfl ⟨Nat.le_of_ble_eq_true rfl, Nat.le_of_ble_eq_true rfl⟩ rfl rfl (Nat.le_of_ble_eq_true rfl) ⟨by show cells + 1 ≤ 603072; omega, by show slots + 6 ≤ 7194730; omega⟩ dL_law_1675 ?_
      refine g_istore (L' := [(7, .int b9), (6, .int (nI (i + 1))), (5, .int (nI (6 * j))), (4, .ref aod), (3, .ref ao), (2, .ref (adM 0)), (1, .ref (ad 0)), (0, .ref b)]) C dL_law_1678 (by decide) rfl ?_
      refine g_aload_n (j := 5) C dL_law_1680 rfl rfl ?_
      refine g_vi (ws' := (zW cy adM shM (z_rend cy ad X' 0 shC ++ ((tB cy (ad 152) v1 n1 z1 k1 f1) ++ ((tB cy (ad 153) v2 n2 z2 k2 f2) ++ [(zOut cy ao fo), (zOuD cy aod fd)]))) Y')) (As := []) (rest := []) (res := Y' 0 0) C (c_X6_thrown l D cy adM (z_rend cy ad X' 0 shC ++ ((tB cy (ad 152) v1 n1 z1 k1 f1) ++ ((tB cy (ad 153) v2 n2 z2 k2 f2) ++ [(zOut cy ao fo), (zOuD cy aod fd)]))) Y') zml_RL_155 zcv_X6_thrown (zW_get Y' sM_0) rfl rfl rfl ⟨Nat.le_of_ble_eq_true rfl, Nat.le_of_ble_eq_true rfl⟩ rfl rfl (Nat.le_of_ble_eq_true rfl) ⟨by show cells + 1 ≤ 603072; omega, by show slots + 6 ≤ 7194730; omega⟩ dL_law_1681 ?_
      refine zG.less (ws' := (zW cy ad shC (zLT cy adM (tB cy (ad 152) v1 n1 z1 k1 f1) (tB cy (ad 153) v2 n2 z2 k2 f2) (zOut cy ao fo) (zOuD cy aod fd) Y') X')) (l' := (zW cy adM shM (z_rend cy ad X' 0 shC ++ ((tB cy (ad 152) v1 n1 z1 k1 f1) ++ ((tB cy (ad 153) v2 n2 z2 k2 f2) ++ [(zOut cy ao fo), (zOuD cy aod fd)]))) Y')) (zpM _ _ _ _ _ _).symm (List.Sublist.refl _) ?_
      refine g_iload (j := 1) C dL_law_1684 rfl ?_
      refine g_icmp_eq C dL_law_1686 (tgt := 1691) (by decide) (fun _ => ?_) (fun h9 => absurd (e3.trans (congrArg nI (kx_31 i _ hi))) h9)
      refine g_iload (j := 1) C dL_law_1691 rfl ?_
      refine g_if_ne C dL_law_1693 (tgt := 1708) (by decide) (fun _ => ?_) (fun h9 => absurd h9 (nIs_ne0 (getE_lt hi (by decide))))
      refine g_goto C dL_law_1708 (tgt := 2819) (by decide) ?_
      refine zG.wide (k := cells + 200) (n := slots + 3200) (by omega) (by omega) ?_
      refine zG_sub (L' := [(5, .int (nI (6 * j))), (4, .ref aod), (3, .ref ao), (2, .ref (adM 0)), (1, .ref (ad 0)), (0, .ref b)]) [2, 3, 4, 5, 6, 7] rfl ?_
      exact kk _ ⟨v1, n1, k1, z1, f1, t1, v2, n2, k2, z2, f2, t2, fo, fd, X', Y', a', rfl, hP.step e5 e6⟩
  · skip
    obtain ⟨c9, v9, b9, X', Y', a', e1, e2, e3, e4, e5, e6⟩ := sim_why hP.1 (xs (6 * j + 1)) (xs (6 * j + 2)) (xs (6 * j + 3)) (xs (6 * j + 4)) (nI 1)
    have hcd : inC [3, 1] c9 := oc_why X (xs (6 * j + 1)) (xs (6 * j + 2)) (xs (6 * j + 3)) (xs (6 * j + 4)) (nI 1) _ e1
    have hM := (c_X5_why l hlt D cy ad (zLT cy adM (tB cy (ad 152) v1 n1 z1 k1 f1) (tB cy (ad 153) v2 n2 z2 k2 f2) (zOut cy ao fo) (zOuD cy aod fd) Y) X (xs (6 * j + 1)) (xs (6 * j + 2)) (xs (6 * j + 3)) (xs (6 * j + 4)) (nI 1) e1).toY
    have hw := hw_why l D cy zTh_ge zEw_th _ (ad 0) _ (xs (6 * j + 1)) (xs (6 * j + 2)) (xs (6 * j + 3)) (xs (6 * j + 4)) (nI 1) ao 156 fo 1 6 _ _ _ hM rfl rfl ⟨by decide, by decide⟩ (zW_get X sC_0) (fun v w hh => by obtain ⟨_, _, rfl⟩ := hh; exact zLW_o) (fun c w hh h0 => by obtain ⟨rfl, _⟩ := hh; simpa using hcd.ne h0)
    refine g_aload_n (j := 4) C dL_law_1591 rfl rfl ?_
    refine g_aload_n (j := 5) C dL_law_1592 rfl rfl ?_
    refine g_iload (j := 0) C dL_law_1593 rfl ?_
    refine g_iconst (v := (nI 1)) C dL_law_1595 (by decide) ?_
    refine g_iadd C dL_law_1596 ?_
    refine p_num (y := (nI (6 * j + 1))) (nI_add _ _) ?_
    refine n_sld C hX hbl hbA (nI_in (by omega) (by omega)) dL_law_1597 ?_
    refine p_num (y := (xs (6 * j + 1))) (by rw [nI_clamp (by omega)]) ?_
    refine g_aload_n (j := 5) C dL_law_1598 rfl rfl ?_
    refine g_iload (j := 0) C dL_law_1599 rfl ?_
    refine g_iconst (v := (nI 2)) C dL_law_1601 (by decide) ?_
    refine g_iadd C dL_law_1602 ?_
    refine p_num (y := (nI (6 * j + 2))) (nI_add _ _) ?_
    refine n_sld C hX hbl hbA (nI_in (by omega) (by omega)) dL_law_1603 ?_
    refine p_num (y := (xs (6 * j + 2))) (by rw [nI_clamp (by omega)]) ?_
    refine g_aload_n (j := 5) C dL_law_1604 rfl rfl ?_
    refine g_iload (j := 0) C dL_law_1605 rfl ?_
    refine g_iconst (v := (nI 3)) C dL_law_1607 (by decide) ?_
    refine g_iadd C dL_law_1608 ?_
    refine p_num (y := (nI (6 * j + 3))) (nI_add _ _) ?_
    refine n_sld C hX hbl hbA (nI_in (by omega) (by omega)) dL_law_1609 ?_
    refine p_num (y := (xs (6 * j + 3))) (by rw [nI_clamp (by omega)]) ?_
    refine g_aload_n (j := 5) C dL_law_1610 rfl rfl ?_
    refine g_iload (j := 0) C dL_law_1611 rfl ?_
    refine g_iconst (v := (nI 4)) C dL_law_1613 (by decide) ?_
    refine g_iadd C dL_law_1614 ?_
    refine p_num (y := (nI (6 * j + 4))) (nI_add _ _) ?_
    refine n_sld C hX hbl hbA (nI_in (by omega) (by omega)) dL_law_1615 ?_
    refine p_num (y := (xs (6 * j + 4))) (by rw [nI_clamp (by omega)]) ?_
    refine g_aload_n (j := 5) C dL_law_1616 rfl rfl ?_
    refine g_iload (j := 0) C dL_law_1617 rfl ?_
    refine g_iconst (v := (nI 5)) C dL_law_1619 (by decide) ?_
    refine g_iadd C dL_law_1620 ?_
    refine p_num (y := (nI (6 * j + 5))) (nI_add _ _) ?_
    refine n_sld C hX hbl hbA (nI_in (by omega) (by omega)) dL_law_1621 ?_
    refine p_num (y := (xs (6 * j + 5))) (by rw [nI_clamp (by omega)]) ?_
    refine g_if_eq C dL_law_1622 (tgt := 1629) (by decide) (fun h9 => absurd h9 hb0) (fun _ => ?_)
    refine g_iconst (v := (nI 1)) C dL_law_1625 (by decide) ?_
    refine g_goto C dL_law_1626 (tgt := 1630) (by decide) ?_
    refine g_aload_n (j := 2) C dL_law_1630 rfl rfl ?_
    refine t_SWi (As := [.ref (ad 0), .int (xs (6 * j + 1)), .int (xs (6 * j + 2)), .int (xs (6 * j + 3)), .int (xs (6 * j + 4)), .int (nI 1), .ref ao]) (rest := []) zEw_ge hE.1 C hw zcw_why rfl rfl ⟨Nat.le_of_ble_eq_true rfl, Nat.le_of_ble_eq_true rfl⟩ rfl rfl (Nat.le_of_ble_eq_true rfl) ⟨by show cells + 1 ≤ 603072; omega, by show slots + 6 ≤ 7194730; omega⟩ dL_law_1631 ?_
    intro r w hr9
    rcases hr9 with ⟨rfl, v', w1, ⟨h0, hv9, rfl⟩, rfl⟩ | ⟨i, c', hi, ⟨rfl, rfl⟩, hne, rfl⟩
    · skip
      have hv9 : v9 = v' := hv9.symm
      subst hv9
      rw [show List.set _ 156 _ = (zW cy ad shC (zLT cy adM (tB cy (ad 152) v1 n1 z1 k1 f1) (tB cy (ad 153) v2 n2 z2 k2 f2) (zOut cy ao (vp_updL fo 0 v9.toInt64)) (zOuD cy aod fd) Y) X') from zLW_so]
      have h0 : c9 = 0 := h0
      refine g_istore (L' := [(6, .int (nI 0)), (5, .int (nI (6 * j))), (4, .ref aod), (3, .ref ao), (2, .ref (adM 0)), (1, .ref (ad 0)), (0, .ref b)]) C dL_law_1634 (by decide) rfl ?_
      refine g_aload_n (j := 4) C dL_law_1636 rfl rfl ?_
      refine g_aload_n (j := 6) C dL_law_1637 rfl rfl ?_
      refine g_iload (j := 1) C dL_law_1638 rfl ?_
      refine g_iconst (v := (nI 1)) C dL_law_1640 (by decide) ?_
      refine g_iadd C dL_law_1641 ?_
      refine p_num (y := (nI (6 * j + 1))) (nI_add _ _) ?_
      refine n_sld C hX hbl hbA (nI_in (by omega) (by omega)) dL_law_1642 ?_
      refine p_num (y := (xs (6 * j + 1))) (by rw [nI_clamp (by omega)]) ?_
      refine g_aload_n (j := 6) C dL_law_1643 rfl rfl ?_
      refine g_iload (j := 1) C dL_law_1644 rfl ?_
      refine g_iconst (v := (nI 2)) C dL_law_1646 (by decide) ?_
      refine g_iadd C dL_law_1647 ?_
      refine p_num (y := (nI (6 * j + 2))) (nI_add _ _) ?_
      refine n_sld C hX hbl hbA (nI_in (by omega) (by omega)) dL_law_1648 ?_
      refine p_num (y := (xs (6 * j + 2))) (by rw [nI_clamp (by omega)]) ?_
      refine g_aload_n (j := 6) C dL_law_1649 rfl rfl ?_
      refine g_iload (j := 1) C dL_law_1650 rfl ?_
      refine g_iconst (v := (nI 3)) C dL_law_1652 (by decide) ?_
      refine g_iadd C dL_law_1653 ?_
      refine p_num (y := (nI (6 * j + 3))) (nI_add _ _) ?_
      refine n_sld C hX hbl hbA (nI_in (by omega) (by omega)) dL_law_1654 ?_
      refine p_num (y := (xs (6 * j + 3))) (by rw [nI_clamp (by omega)]) ?_
      refine g_aload_n (j := 6) C dL_law_1655 rfl rfl ?_
      refine g_iload (j := 1) C dL_law_1656 rfl ?_
      refine g_iconst (v := (nI 4)) C dL_law_1658 (by decide) ?_
      refine g_iadd C dL_law_1659 ?_
      refine p_num (y := (nI (6 * j + 4))) (nI_add _ _) ?_
      refine n_sld C hX hbl hbA (nI_in (by omega) (by omega)) dL_law_1660 ?_
      refine p_num (y := (xs (6 * j + 4))) (by rw [nI_clamp (by omega)]) ?_
      refine g_aload_n (j := 6) C dL_law_1661 rfl rfl ?_
      refine g_iload (j := 1) C dL_law_1662 rfl ?_
      refine g_iconst (v := (nI 5)) C dL_law_1664 (by decide) ?_
      refine g_iadd C dL_law_1665 ?_
      refine p_num (y := (nI (6 * j + 5))) (nI_add _ _) ?_
      refine n_sld C hX hbl hbA (nI_in (by omega) (by omega)) dL_law_1666 ?_
      refine p_num (y := (xs (6 * j + 5))) (by rw [nI_clamp (by omega)]) ?_
      refine g_if_eq C dL_law_1667 (tgt := 1674) (by decide) (fun h9 => absurd h9 hb0) (fun _ => ?_)
      refine g_iconst (v := (nI 1)) C dL_law_1670 (by decide) ?_
      refine g_goto C dL_law_1671 (tgt := 1675) (by decide) ?_
      refine zG.less (ws' := (zW cy adM shM (z_rend cy ad X' 0 shC ++ ((tB cy (ad 152) v1 n1 z1 k1 f1) ++ ((tB cy (ad 153) v2 n2 z2 k2 f2) ++ [(zOut cy ao (vp_updL fo 0 v9.toInt64)), (zOuD cy aod fd)]))) Y)) (l' := (zW cy ad shC (zLT cy adM (tB cy (ad 152) v1 n1 z1 k1 f1) (tB cy (ad 153) v2 n2 z2 k2 f2) (zOut cy ao (vp_updL fo 0 v9.toInt64)) (zOuD cy aod fd) Y) X')) (zpM _ _ _ _ _ _) (List.Sublist.refl _) ?_
      refine g_vi (ws' := (zW cy adM shM (z_rend cy ad X' 0 shC ++ ((tB cy (ad 152) v1 n1 z1 k1 f1) ++ ((tB cy (ad 153) v2 n2 z2 k2 f2) ++ [(zOut cy ao (vp_updL fo 0 v9.toInt64)), (zOuD cy aod fd)]))) Y')) (As := [.int (xs (6 * j + 1)), .int (xs (6 * j + 2)), .int (xs (6 * j + 3)), .int (xs (6 * j + 4)), .int (nI 1)]) (rest := []) (res := b9) C (c_X6_why l D cy adM (z_rend cy ad X' 0 shC ++ ((tB cy (ad 152) v1 n1 z1 k1 f1) ++ ((tB cy (ad 153) v2 n2 z2 k2 f2) ++ [(zOut cy ao (vp_updL fo 0 v9.toInt64)), (zOuD cy aod fd)]))) Y (xs (6 * j + 1)) (xs (6 * j + 2)) (xs (6 * j + 3)) (xs (6 * j + 4)) (nI 1) e2) zml_RL_217 zcv_X6_why (zW_get Y sM_0) rfl rfl rfl ⟨Nat.le_of_ble_eq_true rfl, Nat.le_of_ble_eq_true rfl⟩ rfl rfl (Nat.le_of_ble_eq_true rfl) ⟨by show cells + 1 ≤ 603072; omega, by show slots + 6 ≤ 7194730; omega⟩ dL_law_1675 ?_
      refine g_istore (L' := [(7, .int b9), (6, .int (nI 0)), (5, .int (nI (6 * j))), (4, .ref aod), (3, .ref ao), (2, .ref (adM 0)), (1, .ref (ad 0)), (0, .ref b)]) C dL_law_1678 (by decide) rfl ?_
      refine g_aload_n (j := 5) C dL_law_1680 rfl rfl ?_
      refine g_vi (ws' := (zW cy adM shM (z_rend cy ad X' 0 shC ++ ((tB cy (ad 152) v1 n1 z1 k1 f1) ++ ((tB cy (ad 153) v2 n2 z2 k2 f2) ++ [(zOut cy ao (vp_updL fo 0 v9.toInt64)), (zOuD cy aod fd)]))) Y')) (As := []) (rest := []) (res := Y' 0 0) C (c_X6_thrown l D cy adM (z_rend cy ad X' 0 shC ++ ((tB cy (ad 152) v1 n1 z1 k1 f1) ++ ((tB cy (ad 153) v2 n2 z2 k2 f2) ++ [(zOut cy ao (vp_updL fo 0 v9.toInt64)), (zOuD cy aod fd)]))) Y') zml_RL_155 zcv_X6_thrown (zW_get Y' sM_0) rfl rfl rfl ⟨Nat.le_of_ble_eq_true rfl, Nat.le_of_ble_eq_true rfl⟩ rfl rfl (Nat.le_of_ble_eq_true rfl) ⟨by show cells + 1 ≤ 603072; omega, by show slots + 6 ≤ 7194730; omega⟩ dL_law_1681 ?_
      refine zG.less (ws' := (zW cy ad shC (zLT cy adM (tB cy (ad 152) v1 n1 z1 k1 f1) (tB cy (ad 153) v2 n2 z2 k2 f2) (zOut cy ao (vp_updL fo 0 v9.toInt64)) (zOuD cy aod fd) Y') X')) (l' := (zW cy adM shM (z_rend cy ad X' 0 shC ++ ((tB cy (ad 152) v1 n1 z1 k1 f1) ++ ((tB cy (ad 153) v2 n2 z2 k2 f2) ++ [(zOut cy ao (vp_updL fo 0 v9.toInt64)), (zOuD cy aod fd)]))) Y')) (zpM _ _ _ _ _ _).symm (List.Sublist.refl _) ?_
      refine g_iload (j := 1) C dL_law_1684 rfl ?_
      refine g_icmp_eq C dL_law_1686 (tgt := 1691) (by decide) (fun _ => ?_) (fun h9 => absurd (e3.trans (by rw [h0]; rfl)) h9)
      refine g_iload (j := 1) C dL_law_1691 rfl ?_
      refine g_if_ne C dL_law_1693 (tgt := 1708) (by decide) (fun h9 => absurd nI_0 h9) (fun _ => ?_)
      refine g_aload_n (j := 4) C dL_law_1696 rfl rfl ?_
      refine g_iconst (v := (nI 0)) C dL_law_1697 (by decide) ?_
      refine n_lald (q0 := 156) (n := 1) C zLW_o (nI_in (by decide) (by decide)) dL_law_1698 ?_
      refine g_iload (j := 0) C dL_law_1699 rfl ?_
      refine n_i2l C dL_law_1701 ?_
      refine n_lcmp C dL_law_1702 ?_
      refine g_if_eq C dL_law_1703 (tgt := 1708) (by decide) (fun _ => ?_) (fun h9 => absurd (lg_cmp_rf ((updL_0 _ _).trans (congrArg Int32.toInt64 (e4 h0)))) h9)
      refine g_goto C dL_law_1708 (tgt := 2819) (by decide) ?_
      refine zG.wide (k := cells + 200) (n := slots + 3200) (by omega) (by omega) ?_
      refine zG_sub (L' := [(5, .int (nI (6 * j))), (4, .ref aod), (3, .ref ao), (2, .ref (adM 0)), (1, .ref (ad 0)), (0, .ref b)]) [2, 3, 4, 5, 6, 7] rfl ?_
      exact kk _ ⟨v1, n1, k1, z1, f1, t1, v2, n2, k2, z2, f2, t2, _, fd, X', Y', a', rfl, hP.step e5 e6⟩
    · skip
      refine g_istore (L' := [(6, .int (nI (i + 1))), (5, .int (nI (6 * j))), (4, .ref aod), (3, .ref ao), (2, .ref (adM 0)), (1, .ref (ad 0)), (0, .ref b)]) C dL_law_1634 (by decide) rfl ?_
      refine g_aload_n (j := 4) C dL_law_1636 rfl rfl ?_
      refine g_aload_n (j := 6) C dL_law_1637 rfl rfl ?_
      refine g_iload (j := 1) C dL_law_1638 rfl ?_
      refine g_iconst (v := (nI 1)) C dL_law_1640 (by decide) ?_
      refine g_iadd C dL_law_1641 ?_
      refine p_num (y := (nI (6 * j + 1))) (nI_add _ _) ?_
      refine n_sld C hX hbl hbA (nI_in (by omega) (by omega)) dL_law_1642 ?_
      refine p_num (y := (xs (6 * j + 1))) (by rw [nI_clamp (by omega)]) ?_
      refine g_aload_n (j := 6) C dL_law_1643 rfl rfl ?_
      refine g_iload (j := 1) C dL_law_1644 rfl ?_
      refine g_iconst (v := (nI 2)) C dL_law_1646 (by decide) ?_
      refine g_iadd C dL_law_1647 ?_
      refine p_num (y := (nI (6 * j + 2))) (nI_add _ _) ?_
      refine n_sld C hX hbl hbA (nI_in (by omega) (by omega)) dL_law_1648 ?_
      refine p_num (y := (xs (6 * j + 2))) (by rw [nI_clamp (by omega)]) ?_
      refine g_aload_n (j := 6) C dL_law_1649 rfl rfl ?_
      refine g_iload (j := 1) C dL_law_1650 rfl ?_
      refine g_iconst (v := (nI 3)) C dL_law_1652 (by decide) ?_
      refine g_iadd C dL_law_1653 ?_
      refine p_num (y := (nI (6 * j + 3))) (nI_add _ _) ?_
      refine n_sld C hX hbl hbA (nI_in (by omega) (by omega)) dL_law_1654 ?_
      refine p_num (y := (xs (6 * j + 3))) (by rw [nI_clamp (by omega)]) ?_
      refine g_aload_n (j := 6) C dL_law_1655 rfl rfl ?_
      refine g_iload (j := 1) C dL_law_1656 rfl ?_
      refine g_iconst (v := (nI 4)) C dL_law_1658 (by decide) ?_
      refine g_iadd C dL_law_1659 ?_
      refine p_num (y := (nI (6 * j + 4))) (nI_add _ _) ?_
      refine n_sld C hX hbl hbA (nI_in (by omega) (by omega)) dL_law_1660 ?_
      refine p_num (y := (xs (6 * j + 4))) (by rw [nI_clamp (by omega)]) ?_
      refine g_aload_n (j := 6) C dL_law_1661 rfl rfl ?_
      refine g_iload (j := 1) C dL_law_1662 rfl ?_
      refine g_iconst (v := (nI 5)) C dL_law_1664 (by decide) ?_
      refine g_iadd C dL_law_1665 ?_
      refine p_num (y := (nI (6 * j + 5))) (nI_add _ _) ?_
      refine n_sld C hX hbl hbA (nI_in (by omega) (by omega)) dL_law_1666 ?_
      refine p_num (y := (xs (6 * j + 5))) (by rw [nI_clamp (by omega)]) ?_
      refine g_if_eq C dL_law_1667 (tgt := 1674) (by decide) (fun h9 => absurd h9 hb0) (fun _ => ?_)
      refine g_iconst (v := (nI 1)) C dL_law_1670 (by decide) ?_
      refine g_goto C dL_law_1671 (tgt := 1675) (by decide) ?_
      refine zG.less (ws' := (zW cy adM shM (z_rend cy ad X' 0 shC ++ ((tB cy (ad 152) v1 n1 z1 k1 f1) ++ ((tB cy (ad 153) v2 n2 z2 k2 f2) ++ [(zOut cy ao fo), (zOuD cy aod fd)]))) Y)) (l' := (zW cy ad shC (zLT cy adM (tB cy (ad 152) v1 n1 z1 k1 f1) (tB cy (ad 153) v2 n2 z2 k2 f2) (zOut cy ao fo) (zOuD cy aod fd) Y) X')) (zpM _ _ _ _ _ _) (List.Sublist.refl _) ?_
      refine g_vi (ws' := (zW cy adM shM (z_rend cy ad X' 0 shC ++ ((tB cy (ad 152) v1 n1 z1 k1 f1) ++ ((tB cy (ad 153) v2 n2 z2 k2 f2) ++ [(zOut cy ao fo), (zOuD cy aod fd)]))) Y')) (As := [.int (xs (6 * j + 1)), .int (xs (6 * j + 2)), .int (xs (6 * j + 3)), .int (xs (6 * j + 4)), .int (nI 1)]) (rest := []) (res := b9) C (c_X6_why l D cy adM (z_rend cy ad X' 0 shC ++ ((tB cy (ad 152) v1 n1 z1 k1 f1) ++ ((tB cy (ad 153) v2 n2 z2 k2 f2) ++ [(zOut cy ao fo), (zOuD cy aod fd)]))) Y (xs (6 * j + 1)) (xs (6 * j + 2)) (xs (6 * j + 3)) (xs (6 * j + 4)) (nI 1) e2) zml_RL_217 zcv_X6_why (zW_get Y sM_0) rfl rfl rfl ⟨Nat.le_of_ble_eq_true rfl, Nat.le_of_ble_eq_true rfl⟩ rfl rfl (Nat.le_of_ble_eq_true rfl) ⟨by show cells + 1 ≤ 603072; omega, by show slots + 6 ≤ 7194730; omega⟩ dL_law_1675 ?_
      refine g_istore (L' := [(7, .int b9), (6, .int (nI (i + 1))), (5, .int (nI (6 * j))), (4, .ref aod), (3, .ref ao), (2, .ref (adM 0)), (1, .ref (ad 0)), (0, .ref b)]) C dL_law_1678 (by decide) rfl ?_
      refine g_aload_n (j := 5) C dL_law_1680 rfl rfl ?_
      refine g_vi (ws' := (zW cy adM shM (z_rend cy ad X' 0 shC ++ ((tB cy (ad 152) v1 n1 z1 k1 f1) ++ ((tB cy (ad 153) v2 n2 z2 k2 f2) ++ [(zOut cy ao fo), (zOuD cy aod fd)]))) Y')) (As := []) (rest := []) (res := Y' 0 0) C (c_X6_thrown l D cy adM (z_rend cy ad X' 0 shC ++ ((tB cy (ad 152) v1 n1 z1 k1 f1) ++ ((tB cy (ad 153) v2 n2 z2 k2 f2) ++ [(zOut cy ao fo), (zOuD cy aod fd)]))) Y') zml_RL_155 zcv_X6_thrown (zW_get Y' sM_0) rfl rfl rfl ⟨Nat.le_of_ble_eq_true rfl, Nat.le_of_ble_eq_true rfl⟩ rfl rfl (Nat.le_of_ble_eq_true rfl) ⟨by show cells + 1 ≤ 603072; omega, by show slots + 6 ≤ 7194730; omega⟩ dL_law_1681 ?_
      refine zG.less (ws' := (zW cy ad shC (zLT cy adM (tB cy (ad 152) v1 n1 z1 k1 f1) (tB cy (ad 153) v2 n2 z2 k2 f2) (zOut cy ao fo) (zOuD cy aod fd) Y') X')) (l' := (zW cy adM shM (z_rend cy ad X' 0 shC ++ ((tB cy (ad 152) v1 n1 z1 k1 f1) ++ ((tB cy (ad 153) v2 n2 z2 k2 f2) ++ [(zOut cy ao fo), (zOuD cy aod fd)]))) Y')) (zpM _ _ _ _ _ _).symm (List.Sublist.refl _) ?_
      refine g_iload (j := 1) C dL_law_1684 rfl ?_
      refine g_icmp_eq C dL_law_1686 (tgt := 1691) (by decide) (fun _ => ?_) (fun h9 => absurd (e3.trans (congrArg nI (kx_31 i _ hi))) h9)
      refine g_iload (j := 1) C dL_law_1691 rfl ?_
      refine g_if_ne C dL_law_1693 (tgt := 1708) (by decide) (fun _ => ?_) (fun h9 => absurd h9 (nIs_ne0 (getE_lt hi (by decide))))
      refine g_goto C dL_law_1708 (tgt := 2819) (by decide) ?_
      refine zG.wide (k := cells + 200) (n := slots + 3200) (by omega) (by omega) ?_
      refine zG_sub (L' := [(5, .int (nI (6 * j))), (4, .ref aod), (3, .ref ao), (2, .ref (adM 0)), (1, .ref (ad 0)), (0, .ref b)]) [2, 3, 4, 5, 6, 7] rfl ?_
      exact kk _ ⟨v1, n1, k1, z1, f1, t1, v2, n2, k2, z2, f2, t2, fo, fd, X', Y', a', rfl, hP.step e5 e6⟩
theorem zml_RL_220 : Cond.methodLink RL 220 yX6_firstStart ∈ zAll := zg (z_t8 (List.mem_of_getElem? (i := 39) (by decide +kernel))) (by decide +kernel)
set_option maxRecDepth 100000 in
set_option maxHeartbeats 8000000 in
theorem law_firstStart (C : zC p s m args meth c code 9 RL D (zTy cy) A) (hE : zEl A s s.heap) (hlt : l.stackTraces = false) (hX : va_X b N xs s s.heap) (hbl : b < s.heap.size) (hbA : ¬ A b) (j : Nat) (hj : 6 * j + 6 ≤ N) (hN : N ≤ 3072) (w : va_W) (hJ : zLJ cy ad adM ao aod w) (hc : cells + 200 ≤ 603072) (hs : slots + 3200 ≤ 7194730) (kk : ∀ w', zLJ cy ad adM ao aod w' → zG p l e room_1 s m args below meth c 9 D A (cells + 200) (slots + 3200) Q w' 2819 [(5, .int (nI (6 * j))), (4, .ref aod), (3, .ref ao), (2, .ref (adM 0)), (1, .ref (ad 0)), (0, .ref b)] []) : zG p l e room_1 s m args below meth c 9 D A cells slots Q w 1711 [(5, .int (nI (6 * j))), (4, .ref aod), (3, .ref ao), (2, .ref (adM 0)), (1, .ref (ad 0)), (0, .ref b)] [] := by
  obtain ⟨v1, n1, k1, z1, f1, t1, v2, n2, k2, z2, f2, t2, fo, fd, X, Y, a, rfl, hP⟩ := hJ
  obtain ⟨c9, v9, b9, X', Y', a', e1, e2, e3, e4, e5, e6⟩ := sim_firstStart hP.1 (xs (6 * j + 1)) (xs (6 * j + 2)) (xs (6 * j + 3)) (xs (6 * j + 4))
  have hcd : inC [3, 1, 6] c9 := oc_firstStart X (xs (6 * j + 1)) (xs (6 * j + 2)) (xs (6 * j + 3)) (xs (6 * j + 4)) _ e1
  have hM := (c_X5_firstStart l hlt D cy ad (zLT cy adM (tB cy (ad 152) v1 n1 z1 k1 f1) (tB cy (ad 153) v2 n2 z2 k2 f2) (zOut cy ao fo) (zOuD cy aod fd) Y) X (xs (6 * j + 1)) (xs (6 * j + 2)) (xs (6 * j + 3)) (xs (6 * j + 4)) e1).toY
  have hw := hw_firstStart l D cy zTh_ge zEw_th _ (ad 0) _ (xs (6 * j + 1)) (xs (6 * j + 2)) (xs (6 * j + 3)) (xs (6 * j + 4)) ao 156 fo 1 6 _ _ _ hM rfl rfl ⟨by decide, by decide⟩ (zW_get X sC_0) (fun v w hh => by obtain ⟨_, _, rfl⟩ := hh; exact zLW_o) (fun c w hh h0 => by obtain ⟨rfl, _⟩ := hh; simpa using hcd.ne h0)
  refine g_aload_n (j := 4) C dL_law_1711 rfl rfl ?_
  refine g_aload_n (j := 5) C dL_law_1712 rfl rfl ?_
  refine g_iload (j := 0) C dL_law_1713 rfl ?_
  refine g_iconst (v := (nI 1)) C dL_law_1715 (by decide) ?_
  refine g_iadd C dL_law_1716 ?_
  refine p_num (y := (nI (6 * j + 1))) (nI_add _ _) ?_
  refine n_sld C hX hbl hbA (nI_in (by omega) (by omega)) dL_law_1717 ?_
  refine p_num (y := (xs (6 * j + 1))) (by rw [nI_clamp (by omega)]) ?_
  refine g_aload_n (j := 5) C dL_law_1718 rfl rfl ?_
  refine g_iload (j := 0) C dL_law_1719 rfl ?_
  refine g_iconst (v := (nI 2)) C dL_law_1721 (by decide) ?_
  refine g_iadd C dL_law_1722 ?_
  refine p_num (y := (nI (6 * j + 2))) (nI_add _ _) ?_
  refine n_sld C hX hbl hbA (nI_in (by omega) (by omega)) dL_law_1723 ?_
  refine p_num (y := (xs (6 * j + 2))) (by rw [nI_clamp (by omega)]) ?_
  refine g_aload_n (j := 5) C dL_law_1724 rfl rfl ?_
  refine g_iload (j := 0) C dL_law_1725 rfl ?_
  refine g_iconst (v := (nI 3)) C dL_law_1727 (by decide) ?_
  refine g_iadd C dL_law_1728 ?_
  refine p_num (y := (nI (6 * j + 3))) (nI_add _ _) ?_
  refine n_sld C hX hbl hbA (nI_in (by omega) (by omega)) dL_law_1729 ?_
  refine p_num (y := (xs (6 * j + 3))) (by rw [nI_clamp (by omega)]) ?_
  refine g_aload_n (j := 5) C dL_law_1730 rfl rfl ?_
  refine g_iload (j := 0) C dL_law_1731 rfl ?_
  refine g_iconst (v := (nI 4)) C dL_law_1733 (by decide) ?_
  refine g_iadd C dL_law_1734 ?_
  refine p_num (y := (nI (6 * j + 4))) (nI_add _ _) ?_
  refine n_sld C hX hbl hbA (nI_in (by omega) (by omega)) dL_law_1735 ?_
  refine p_num (y := (xs (6 * j + 4))) (by rw [nI_clamp (by omega)]) ?_
  refine g_aload_n (j := 2) C dL_law_1736 rfl rfl ?_
  refine t_SWi (As := [.ref (ad 0), .int (xs (6 * j + 1)), .int (xs (6 * j + 2)), .int (xs (6 * j + 3)), .int (xs (6 * j + 4)), .ref ao]) (rest := []) zEw_ge hE.1 C hw zcw_firstStart rfl rfl ⟨Nat.le_of_ble_eq_true rfl, Nat.le_of_ble_eq_true rfl⟩ rfl rfl (Nat.le_of_ble_eq_true rfl) ⟨by show cells + 1 ≤ 603072; omega, by show slots + 6 ≤ 7194730; omega⟩ dL_law_1737 ?_
  intro r w hr9
  rcases hr9 with ⟨rfl, v', w1, ⟨h0, hv9, rfl⟩, rfl⟩ | ⟨i, c', hi, ⟨rfl, rfl⟩, hne, rfl⟩
  · skip
    have hv9 : v9 = v' := hv9.symm
    subst hv9
    rw [show List.set _ 156 _ = (zW cy ad shC (zLT cy adM (tB cy (ad 152) v1 n1 z1 k1 f1) (tB cy (ad 153) v2 n2 z2 k2 f2) (zOut cy ao (vp_updL fo 0 v9.toInt64)) (zOuD cy aod fd) Y) X') from zLW_so]
    have h0 : c9 = 0 := h0
    refine g_istore (L' := [(6, .int (nI 0)), (5, .int (nI (6 * j))), (4, .ref aod), (3, .ref ao), (2, .ref (adM 0)), (1, .ref (ad 0)), (0, .ref b)]) C dL_law_1740 (by decide) rfl ?_
    refine g_aload_n (j := 4) C dL_law_1742 rfl rfl ?_
    refine g_aload_n (j := 6) C dL_law_1743 rfl rfl ?_
    refine g_iload (j := 1) C dL_law_1744 rfl ?_
    refine g_iconst (v := (nI 1)) C dL_law_1746 (by decide) ?_
    refine g_iadd C dL_law_1747 ?_
    refine p_num (y := (nI (6 * j + 1))) (nI_add _ _) ?_
    refine n_sld C hX hbl hbA (nI_in (by omega) (by omega)) dL_law_1748 ?_
    refine p_num (y := (xs (6 * j + 1))) (by rw [nI_clamp (by omega)]) ?_
    refine g_aload_n (j := 6) C dL_law_1749 rfl rfl ?_
    refine g_iload (j := 1) C dL_law_1750 rfl ?_
    refine g_iconst (v := (nI 2)) C dL_law_1752 (by decide) ?_
    refine g_iadd C dL_law_1753 ?_
    refine p_num (y := (nI (6 * j + 2))) (nI_add _ _) ?_
    refine n_sld C hX hbl hbA (nI_in (by omega) (by omega)) dL_law_1754 ?_
    refine p_num (y := (xs (6 * j + 2))) (by rw [nI_clamp (by omega)]) ?_
    refine g_aload_n (j := 6) C dL_law_1755 rfl rfl ?_
    refine g_iload (j := 1) C dL_law_1756 rfl ?_
    refine g_iconst (v := (nI 3)) C dL_law_1758 (by decide) ?_
    refine g_iadd C dL_law_1759 ?_
    refine p_num (y := (nI (6 * j + 3))) (nI_add _ _) ?_
    refine n_sld C hX hbl hbA (nI_in (by omega) (by omega)) dL_law_1760 ?_
    refine p_num (y := (xs (6 * j + 3))) (by rw [nI_clamp (by omega)]) ?_
    refine g_aload_n (j := 6) C dL_law_1761 rfl rfl ?_
    refine g_iload (j := 1) C dL_law_1762 rfl ?_
    refine g_iconst (v := (nI 4)) C dL_law_1764 (by decide) ?_
    refine g_iadd C dL_law_1765 ?_
    refine p_num (y := (nI (6 * j + 4))) (nI_add _ _) ?_
    refine n_sld C hX hbl hbA (nI_in (by omega) (by omega)) dL_law_1766 ?_
    refine p_num (y := (xs (6 * j + 4))) (by rw [nI_clamp (by omega)]) ?_
    refine zG.less (ws' := (zW cy adM shM (z_rend cy ad X' 0 shC ++ ((tB cy (ad 152) v1 n1 z1 k1 f1) ++ ((tB cy (ad 153) v2 n2 z2 k2 f2) ++ [(zOut cy ao (vp_updL fo 0 v9.toInt64)), (zOuD cy aod fd)]))) Y)) (l' := (zW cy ad shC (zLT cy adM (tB cy (ad 152) v1 n1 z1 k1 f1) (tB cy (ad 153) v2 n2 z2 k2 f2) (zOut cy ao (vp_updL fo 0 v9.toInt64)) (zOuD cy aod fd) Y) X')) (zpM _ _ _ _ _ _) (List.Sublist.refl _) ?_
    refine g_vi (ws' := (zW cy adM shM (z_rend cy ad X' 0 shC ++ ((tB cy (ad 152) v1 n1 z1 k1 f1) ++ ((tB cy (ad 153) v2 n2 z2 k2 f2) ++ [(zOut cy ao (vp_updL fo 0 v9.toInt64)), (zOuD cy aod fd)]))) Y')) (As := [.int (xs (6 * j + 1)), .int (xs (6 * j + 2)), .int (xs (6 * j + 3)), .int (xs (6 * j + 4))]) (rest := []) (res := b9) C (c_X6_firstStart l D cy adM (z_rend cy ad X' 0 shC ++ ((tB cy (ad 152) v1 n1 z1 k1 f1) ++ ((tB cy (ad 153) v2 n2 z2 k2 f2) ++ [(zOut cy ao (vp_updL fo 0 v9.toInt64)), (zOuD cy aod fd)]))) Y (xs (6 * j + 1)) (xs (6 * j + 2)) (xs (6 * j + 3)) (xs (6 * j + 4)) e2) zml_RL_220 zcv_X6_firstStart (zW_get Y sM_0) rfl rfl rfl ⟨Nat.le_of_ble_eq_true rfl, Nat.le_of_ble_eq_true rfl⟩ rfl rfl (Nat.le_of_ble_eq_true rfl) ⟨by show cells + 1 ≤ 603072; omega, by show slots + 6 ≤ 7194730; omega⟩ dL_law_1767 ?_
    refine g_istore (L' := [(7, .int b9), (6, .int (nI 0)), (5, .int (nI (6 * j))), (4, .ref aod), (3, .ref ao), (2, .ref (adM 0)), (1, .ref (ad 0)), (0, .ref b)]) C dL_law_1770 (by decide) rfl ?_
    refine g_aload_n (j := 5) C dL_law_1772 rfl rfl ?_
    refine g_vi (ws' := (zW cy adM shM (z_rend cy ad X' 0 shC ++ ((tB cy (ad 152) v1 n1 z1 k1 f1) ++ ((tB cy (ad 153) v2 n2 z2 k2 f2) ++ [(zOut cy ao (vp_updL fo 0 v9.toInt64)), (zOuD cy aod fd)]))) Y')) (As := []) (rest := []) (res := Y' 0 0) C (c_X6_thrown l D cy adM (z_rend cy ad X' 0 shC ++ ((tB cy (ad 152) v1 n1 z1 k1 f1) ++ ((tB cy (ad 153) v2 n2 z2 k2 f2) ++ [(zOut cy ao (vp_updL fo 0 v9.toInt64)), (zOuD cy aod fd)]))) Y') zml_RL_155 zcv_X6_thrown (zW_get Y' sM_0) rfl rfl rfl ⟨Nat.le_of_ble_eq_true rfl, Nat.le_of_ble_eq_true rfl⟩ rfl rfl (Nat.le_of_ble_eq_true rfl) ⟨by show cells + 1 ≤ 603072; omega, by show slots + 6 ≤ 7194730; omega⟩ dL_law_1773 ?_
    refine zG.less (ws' := (zW cy ad shC (zLT cy adM (tB cy (ad 152) v1 n1 z1 k1 f1) (tB cy (ad 153) v2 n2 z2 k2 f2) (zOut cy ao (vp_updL fo 0 v9.toInt64)) (zOuD cy aod fd) Y') X')) (l' := (zW cy adM shM (z_rend cy ad X' 0 shC ++ ((tB cy (ad 152) v1 n1 z1 k1 f1) ++ ((tB cy (ad 153) v2 n2 z2 k2 f2) ++ [(zOut cy ao (vp_updL fo 0 v9.toInt64)), (zOuD cy aod fd)]))) Y')) (zpM _ _ _ _ _ _).symm (List.Sublist.refl _) ?_
    refine g_iload (j := 1) C dL_law_1776 rfl ?_
    refine g_icmp_eq C dL_law_1778 (tgt := 1783) (by decide) (fun _ => ?_) (fun h9 => absurd (e3.trans (by rw [h0]; rfl)) h9)
    refine g_iload (j := 1) C dL_law_1783 rfl ?_
    refine g_if_ne C dL_law_1785 (tgt := 1800) (by decide) (fun h9 => absurd nI_0 h9) (fun _ => ?_)
    refine g_aload_n (j := 4) C dL_law_1788 rfl rfl ?_
    refine g_iconst (v := (nI 0)) C dL_law_1789 (by decide) ?_
    refine n_lald (q0 := 156) (n := 1) C zLW_o (nI_in (by decide) (by decide)) dL_law_1790 ?_
    refine g_iload (j := 0) C dL_law_1791 rfl ?_
    refine n_i2l C dL_law_1793 ?_
    refine n_lcmp C dL_law_1794 ?_
    refine g_if_eq C dL_law_1795 (tgt := 1800) (by decide) (fun _ => ?_) (fun h9 => absurd (lg_cmp_rf ((updL_0 _ _).trans (congrArg Int32.toInt64 (e4 h0)))) h9)
    refine g_goto C dL_law_1800 (tgt := 2819) (by decide) ?_
    refine zG.wide (k := cells + 200) (n := slots + 3200) (by omega) (by omega) ?_
    refine zG_sub (L' := [(5, .int (nI (6 * j))), (4, .ref aod), (3, .ref ao), (2, .ref (adM 0)), (1, .ref (ad 0)), (0, .ref b)]) [2, 3, 4, 5, 6, 7] rfl ?_
    exact kk _ ⟨v1, n1, k1, z1, f1, t1, v2, n2, k2, z2, f2, t2, _, fd, X', Y', a', rfl, hP.step e5 e6⟩
  · skip
    refine g_istore (L' := [(6, .int (nI (i + 1))), (5, .int (nI (6 * j))), (4, .ref aod), (3, .ref ao), (2, .ref (adM 0)), (1, .ref (ad 0)), (0, .ref b)]) C dL_law_1740 (by decide) rfl ?_
    refine g_aload_n (j := 4) C dL_law_1742 rfl rfl ?_
    refine g_aload_n (j := 6) C dL_law_1743 rfl rfl ?_
    refine g_iload (j := 1) C dL_law_1744 rfl ?_
    refine g_iconst (v := (nI 1)) C dL_law_1746 (by decide) ?_
    refine g_iadd C dL_law_1747 ?_
    refine p_num (y := (nI (6 * j + 1))) (nI_add _ _) ?_
    refine n_sld C hX hbl hbA (nI_in (by omega) (by omega)) dL_law_1748 ?_
    refine p_num (y := (xs (6 * j + 1))) (by rw [nI_clamp (by omega)]) ?_
    refine g_aload_n (j := 6) C dL_law_1749 rfl rfl ?_
    refine g_iload (j := 1) C dL_law_1750 rfl ?_
    refine g_iconst (v := (nI 2)) C dL_law_1752 (by decide) ?_
    refine g_iadd C dL_law_1753 ?_
    refine p_num (y := (nI (6 * j + 2))) (nI_add _ _) ?_
    refine n_sld C hX hbl hbA (nI_in (by omega) (by omega)) dL_law_1754 ?_
    refine p_num (y := (xs (6 * j + 2))) (by rw [nI_clamp (by omega)]) ?_
    refine g_aload_n (j := 6) C dL_law_1755 rfl rfl ?_
    refine g_iload (j := 1) C dL_law_1756 rfl ?_
    refine g_iconst (v := (nI 3)) C dL_law_1758 (by decide) ?_
    refine g_iadd C dL_law_1759 ?_
    refine p_num (y := (nI (6 * j + 3))) (nI_add _ _) ?_
    refine n_sld C hX hbl hbA (nI_in (by omega) (by omega)) dL_law_1760 ?_
    refine p_num (y := (xs (6 * j + 3))) (by rw [nI_clamp (by omega)]) ?_
    refine g_aload_n (j := 6) C dL_law_1761 rfl rfl ?_
    refine g_iload (j := 1) C dL_law_1762 rfl ?_
    refine g_iconst (v := (nI 4)) C dL_law_1764 (by decide) ?_
    refine g_iadd C dL_law_1765 ?_
    refine p_num (y := (nI (6 * j + 4))) (nI_add _ _) ?_
    refine n_sld C hX hbl hbA (nI_in (by omega) (by omega)) dL_law_1766 ?_
    refine p_num (y := (xs (6 * j + 4))) (by rw [nI_clamp (by omega)]) ?_
    refine zG.less (ws' := (zW cy adM shM (z_rend cy ad X' 0 shC ++ ((tB cy (ad 152) v1 n1 z1 k1 f1) ++ ((tB cy (ad 153) v2 n2 z2 k2 f2) ++ [(zOut cy ao fo), (zOuD cy aod fd)]))) Y)) (l' := (zW cy ad shC (zLT cy adM (tB cy (ad 152) v1 n1 z1 k1 f1) (tB cy (ad 153) v2 n2 z2 k2 f2) (zOut cy ao fo) (zOuD cy aod fd) Y) X')) (zpM _ _ _ _ _ _) (List.Sublist.refl _) ?_
    refine g_vi (ws' := (zW cy adM shM (z_rend cy ad X' 0 shC ++ ((tB cy (ad 152) v1 n1 z1 k1 f1) ++ ((tB cy (ad 153) v2 n2 z2 k2 f2) ++ [(zOut cy ao fo), (zOuD cy aod fd)]))) Y')) (As := [.int (xs (6 * j + 1)), .int (xs (6 * j + 2)), .int (xs (6 * j + 3)), .int (xs (6 * j + 4))]) (rest := []) (res := b9) C (c_X6_firstStart l D cy adM (z_rend cy ad X' 0 shC ++ ((tB cy (ad 152) v1 n1 z1 k1 f1) ++ ((tB cy (ad 153) v2 n2 z2 k2 f2) ++ [(zOut cy ao fo), (zOuD cy aod fd)]))) Y (xs (6 * j + 1)) (xs (6 * j + 2)) (xs (6 * j + 3)) (xs (6 * j + 4)) e2) zml_RL_220 zcv_X6_firstStart (zW_get Y sM_0) rfl rfl rfl ⟨Nat.le_of_ble_eq_true rfl, Nat.le_of_ble_eq_true rfl⟩ rfl rfl (Nat.le_of_ble_eq_true rfl) ⟨by show cells + 1 ≤ 603072; omega, by show slots + 6 ≤ 7194730; omega⟩ dL_law_1767 ?_
    refine g_istore (L' := [(7, .int b9), (6, .int (nI (i + 1))), (5, .int (nI (6 * j))), (4, .ref aod), (3, .ref ao), (2, .ref (adM 0)), (1, .ref (ad 0)), (0, .ref b)]) C dL_law_1770 (by decide) rfl ?_
    refine g_aload_n (j := 5) C dL_law_1772 rfl rfl ?_
    refine g_vi (ws' := (zW cy adM shM (z_rend cy ad X' 0 shC ++ ((tB cy (ad 152) v1 n1 z1 k1 f1) ++ ((tB cy (ad 153) v2 n2 z2 k2 f2) ++ [(zOut cy ao fo), (zOuD cy aod fd)]))) Y')) (As := []) (rest := []) (res := Y' 0 0) C (c_X6_thrown l D cy adM (z_rend cy ad X' 0 shC ++ ((tB cy (ad 152) v1 n1 z1 k1 f1) ++ ((tB cy (ad 153) v2 n2 z2 k2 f2) ++ [(zOut cy ao fo), (zOuD cy aod fd)]))) Y') zml_RL_155 zcv_X6_thrown (zW_get Y' sM_0) rfl rfl rfl ⟨Nat.le_of_ble_eq_true rfl, Nat.le_of_ble_eq_true rfl⟩ rfl rfl (Nat.le_of_ble_eq_true rfl) ⟨by show cells + 1 ≤ 603072; omega, by show slots + 6 ≤ 7194730; omega⟩ dL_law_1773 ?_
    refine zG.less (ws' := (zW cy ad shC (zLT cy adM (tB cy (ad 152) v1 n1 z1 k1 f1) (tB cy (ad 153) v2 n2 z2 k2 f2) (zOut cy ao fo) (zOuD cy aod fd) Y') X')) (l' := (zW cy adM shM (z_rend cy ad X' 0 shC ++ ((tB cy (ad 152) v1 n1 z1 k1 f1) ++ ((tB cy (ad 153) v2 n2 z2 k2 f2) ++ [(zOut cy ao fo), (zOuD cy aod fd)]))) Y')) (zpM _ _ _ _ _ _).symm (List.Sublist.refl _) ?_
    refine g_iload (j := 1) C dL_law_1776 rfl ?_
    refine g_icmp_eq C dL_law_1778 (tgt := 1783) (by decide) (fun _ => ?_) (fun h9 => absurd (e3.trans (congrArg nI (kx_316 i _ hi))) h9)
    refine g_iload (j := 1) C dL_law_1783 rfl ?_
    refine g_if_ne C dL_law_1785 (tgt := 1800) (by decide) (fun _ => ?_) (fun h9 => absurd h9 (nIs_ne0 (getE_lt hi (by decide))))
    refine g_goto C dL_law_1800 (tgt := 2819) (by decide) ?_
    refine zG.wide (k := cells + 200) (n := slots + 3200) (by omega) (by omega) ?_
    refine zG_sub (L' := [(5, .int (nI (6 * j))), (4, .ref aod), (3, .ref ao), (2, .ref (adM 0)), (1, .ref (ad 0)), (0, .ref b)]) [2, 3, 4, 5, 6, 7] rfl ?_
    exact kk _ ⟨v1, n1, k1, z1, f1, t1, v2, n2, k2, z2, f2, t2, fo, fd, X', Y', a', rfl, hP.step e5 e6⟩
theorem zml_RL_223 : Cond.methodLink RL 223 yX6_fail ∈ zAll := zg (z_t8 (List.mem_of_getElem? (i := 43) (by decide +kernel))) (by decide +kernel)
set_option maxRecDepth 100000 in
set_option maxHeartbeats 8000000 in
theorem law_fail (C : zC p s m args meth c code 9 RL D (zTy cy) A) (hE : zEl A s s.heap) (hlt : l.stackTraces = false) (hX : va_X b N xs s s.heap) (hbl : b < s.heap.size) (hbA : ¬ A b) (j : Nat) (hj : 6 * j + 6 ≤ N) (hN : N ≤ 3072) (w : va_W) (hJ : zLJ cy ad adM ao aod w) (hc : cells + 200 ≤ 603072) (hs : slots + 3200 ≤ 7194730) (kk : ∀ w', zLJ cy ad adM ao aod w' → zG p l e room_1 s m args below meth c 9 D A (cells + 200) (slots + 3200) Q w' 2819 [(5, .int (nI (6 * j))), (4, .ref aod), (3, .ref ao), (2, .ref (adM 0)), (1, .ref (ad 0)), (0, .ref b)] []) : zG p l e room_1 s m args below meth c 9 D A cells slots Q w 1803 [(5, .int (nI (6 * j))), (4, .ref aod), (3, .ref ao), (2, .ref (adM 0)), (1, .ref (ad 0)), (0, .ref b)] [] := by
  obtain ⟨v1, n1, k1, z1, f1, t1, v2, n2, k2, z2, f2, t2, fo, fd, X, Y, a, rfl, hP⟩ := hJ
  obtain ⟨c9, v9, b9, X', Y', a', e1, e2, e3, e4, e5, e6⟩ := sim_fail hP.1 (xs (6 * j + 1)) (xs (6 * j + 2))
  have hcd : inC [3, 1, 2] c9 := oc_fail X (xs (6 * j + 1)) (xs (6 * j + 2)) _ e1
  have hM := (c_X5_fail l hlt D cy ad (zLT cy adM (tB cy (ad 152) v1 n1 z1 k1 f1) (tB cy (ad 153) v2 n2 z2 k2 f2) (zOut cy ao fo) (zOuD cy aod fd) Y) X (xs (6 * j + 1)) (xs (6 * j + 2)) e1).toY
  have hw := hw_fail l D cy zTh_ge zEw_th _ (ad 0) _ (xs (6 * j + 1)) (xs (6 * j + 2)) ao 156 fo 1 6 _ _ _ hM rfl rfl ⟨by decide, by decide⟩ (zW_get X sC_0) (fun v w hh => by obtain ⟨_, _, rfl⟩ := hh; exact zLW_o) (fun c w hh h0 => by obtain ⟨rfl, _⟩ := hh; simpa using hcd.ne h0)
  refine g_aload_n (j := 4) C dL_law_1803 rfl rfl ?_
  refine g_aload_n (j := 5) C dL_law_1804 rfl rfl ?_
  refine g_iload (j := 0) C dL_law_1805 rfl ?_
  refine g_iconst (v := (nI 1)) C dL_law_1807 (by decide) ?_
  refine g_iadd C dL_law_1808 ?_
  refine p_num (y := (nI (6 * j + 1))) (nI_add _ _) ?_
  refine n_sld C hX hbl hbA (nI_in (by omega) (by omega)) dL_law_1809 ?_
  refine p_num (y := (xs (6 * j + 1))) (by rw [nI_clamp (by omega)]) ?_
  refine g_aload_n (j := 5) C dL_law_1810 rfl rfl ?_
  refine g_iload (j := 0) C dL_law_1811 rfl ?_
  refine g_iconst (v := (nI 2)) C dL_law_1813 (by decide) ?_
  refine g_iadd C dL_law_1814 ?_
  refine p_num (y := (nI (6 * j + 2))) (nI_add _ _) ?_
  refine n_sld C hX hbl hbA (nI_in (by omega) (by omega)) dL_law_1815 ?_
  refine p_num (y := (xs (6 * j + 2))) (by rw [nI_clamp (by omega)]) ?_
  refine g_aload_n (j := 2) C dL_law_1816 rfl rfl ?_
  refine t_SWi (As := [.ref (ad 0), .int (xs (6 * j + 1)), .int (xs (6 * j + 2)), .ref ao]) (rest := []) zEw_ge hE.1 C hw zcw_fail rfl rfl ⟨Nat.le_of_ble_eq_true rfl, Nat.le_of_ble_eq_true rfl⟩ rfl rfl (Nat.le_of_ble_eq_true rfl) ⟨by show cells + 1 ≤ 603072; omega, by show slots + 6 ≤ 7194730; omega⟩ dL_law_1817 ?_
  intro r w hr9
  rcases hr9 with ⟨rfl, v', w1, ⟨h0, hv9, rfl⟩, rfl⟩ | ⟨i, c', hi, ⟨rfl, rfl⟩, hne, rfl⟩
  · skip
    have hv9 : v9 = v' := hv9.symm
    subst hv9
    rw [show List.set _ 156 _ = (zW cy ad shC (zLT cy adM (tB cy (ad 152) v1 n1 z1 k1 f1) (tB cy (ad 153) v2 n2 z2 k2 f2) (zOut cy ao (vp_updL fo 0 v9.toInt64)) (zOuD cy aod fd) Y) X') from zLW_so]
    have h0 : c9 = 0 := h0
    refine g_istore (L' := [(6, .int (nI 0)), (5, .int (nI (6 * j))), (4, .ref aod), (3, .ref ao), (2, .ref (adM 0)), (1, .ref (ad 0)), (0, .ref b)]) C dL_law_1820 (by decide) rfl ?_
    refine g_aload_n (j := 4) C dL_law_1822 rfl rfl ?_
    refine g_aload_n (j := 6) C dL_law_1823 rfl rfl ?_
    refine g_iload (j := 1) C dL_law_1824 rfl ?_
    refine g_iconst (v := (nI 1)) C dL_law_1826 (by decide) ?_
    refine g_iadd C dL_law_1827 ?_
    refine p_num (y := (nI (6 * j + 1))) (nI_add _ _) ?_
    refine n_sld C hX hbl hbA (nI_in (by omega) (by omega)) dL_law_1828 ?_
    refine p_num (y := (xs (6 * j + 1))) (by rw [nI_clamp (by omega)]) ?_
    refine g_aload_n (j := 6) C dL_law_1829 rfl rfl ?_
    refine g_iload (j := 1) C dL_law_1830 rfl ?_
    refine g_iconst (v := (nI 2)) C dL_law_1832 (by decide) ?_
    refine g_iadd C dL_law_1833 ?_
    refine p_num (y := (nI (6 * j + 2))) (nI_add _ _) ?_
    refine n_sld C hX hbl hbA (nI_in (by omega) (by omega)) dL_law_1834 ?_
    refine p_num (y := (xs (6 * j + 2))) (by rw [nI_clamp (by omega)]) ?_
    refine zG.less (ws' := (zW cy adM shM (z_rend cy ad X' 0 shC ++ ((tB cy (ad 152) v1 n1 z1 k1 f1) ++ ((tB cy (ad 153) v2 n2 z2 k2 f2) ++ [(zOut cy ao (vp_updL fo 0 v9.toInt64)), (zOuD cy aod fd)]))) Y)) (l' := (zW cy ad shC (zLT cy adM (tB cy (ad 152) v1 n1 z1 k1 f1) (tB cy (ad 153) v2 n2 z2 k2 f2) (zOut cy ao (vp_updL fo 0 v9.toInt64)) (zOuD cy aod fd) Y) X')) (zpM _ _ _ _ _ _) (List.Sublist.refl _) ?_
    refine g_vi (ws' := (zW cy adM shM (z_rend cy ad X' 0 shC ++ ((tB cy (ad 152) v1 n1 z1 k1 f1) ++ ((tB cy (ad 153) v2 n2 z2 k2 f2) ++ [(zOut cy ao (vp_updL fo 0 v9.toInt64)), (zOuD cy aod fd)]))) Y')) (As := [.int (xs (6 * j + 1)), .int (xs (6 * j + 2))]) (rest := []) (res := b9) C (c_X6_fail l D cy adM (z_rend cy ad X' 0 shC ++ ((tB cy (ad 152) v1 n1 z1 k1 f1) ++ ((tB cy (ad 153) v2 n2 z2 k2 f2) ++ [(zOut cy ao (vp_updL fo 0 v9.toInt64)), (zOuD cy aod fd)]))) Y (xs (6 * j + 1)) (xs (6 * j + 2)) e2) zml_RL_223 zcv_X6_fail (zW_get Y sM_0) rfl rfl rfl ⟨Nat.le_of_ble_eq_true rfl, Nat.le_of_ble_eq_true rfl⟩ rfl rfl (Nat.le_of_ble_eq_true rfl) ⟨by show cells + 1 ≤ 603072; omega, by show slots + 6 ≤ 7194730; omega⟩ dL_law_1835 ?_
    refine g_istore (L' := [(7, .int b9), (6, .int (nI 0)), (5, .int (nI (6 * j))), (4, .ref aod), (3, .ref ao), (2, .ref (adM 0)), (1, .ref (ad 0)), (0, .ref b)]) C dL_law_1838 (by decide) rfl ?_
    refine g_aload_n (j := 5) C dL_law_1840 rfl rfl ?_
    refine g_vi (ws' := (zW cy adM shM (z_rend cy ad X' 0 shC ++ ((tB cy (ad 152) v1 n1 z1 k1 f1) ++ ((tB cy (ad 153) v2 n2 z2 k2 f2) ++ [(zOut cy ao (vp_updL fo 0 v9.toInt64)), (zOuD cy aod fd)]))) Y')) (As := []) (rest := []) (res := Y' 0 0) C (c_X6_thrown l D cy adM (z_rend cy ad X' 0 shC ++ ((tB cy (ad 152) v1 n1 z1 k1 f1) ++ ((tB cy (ad 153) v2 n2 z2 k2 f2) ++ [(zOut cy ao (vp_updL fo 0 v9.toInt64)), (zOuD cy aod fd)]))) Y') zml_RL_155 zcv_X6_thrown (zW_get Y' sM_0) rfl rfl rfl ⟨Nat.le_of_ble_eq_true rfl, Nat.le_of_ble_eq_true rfl⟩ rfl rfl (Nat.le_of_ble_eq_true rfl) ⟨by show cells + 1 ≤ 603072; omega, by show slots + 6 ≤ 7194730; omega⟩ dL_law_1841 ?_
    refine zG.less (ws' := (zW cy ad shC (zLT cy adM (tB cy (ad 152) v1 n1 z1 k1 f1) (tB cy (ad 153) v2 n2 z2 k2 f2) (zOut cy ao (vp_updL fo 0 v9.toInt64)) (zOuD cy aod fd) Y') X')) (l' := (zW cy adM shM (z_rend cy ad X' 0 shC ++ ((tB cy (ad 152) v1 n1 z1 k1 f1) ++ ((tB cy (ad 153) v2 n2 z2 k2 f2) ++ [(zOut cy ao (vp_updL fo 0 v9.toInt64)), (zOuD cy aod fd)]))) Y')) (zpM _ _ _ _ _ _).symm (List.Sublist.refl _) ?_
    refine g_iload (j := 1) C dL_law_1844 rfl ?_
    refine g_icmp_eq C dL_law_1846 (tgt := 1851) (by decide) (fun _ => ?_) (fun h9 => absurd (e3.trans (by rw [h0]; rfl)) h9)
    refine g_iload (j := 1) C dL_law_1851 rfl ?_
    refine g_if_ne C dL_law_1853 (tgt := 1868) (by decide) (fun h9 => absurd nI_0 h9) (fun _ => ?_)
    refine g_aload_n (j := 4) C dL_law_1856 rfl rfl ?_
    refine g_iconst (v := (nI 0)) C dL_law_1857 (by decide) ?_
    refine n_lald (q0 := 156) (n := 1) C zLW_o (nI_in (by decide) (by decide)) dL_law_1858 ?_
    refine g_iload (j := 0) C dL_law_1859 rfl ?_
    refine n_i2l C dL_law_1861 ?_
    refine n_lcmp C dL_law_1862 ?_
    refine g_if_eq C dL_law_1863 (tgt := 1868) (by decide) (fun _ => ?_) (fun h9 => absurd (lg_cmp_rf ((updL_0 _ _).trans (congrArg Int32.toInt64 (e4 h0)))) h9)
    refine g_goto C dL_law_1868 (tgt := 2819) (by decide) ?_
    refine zG.wide (k := cells + 200) (n := slots + 3200) (by omega) (by omega) ?_
    refine zG_sub (L' := [(5, .int (nI (6 * j))), (4, .ref aod), (3, .ref ao), (2, .ref (adM 0)), (1, .ref (ad 0)), (0, .ref b)]) [2, 3, 4, 5, 6, 7] rfl ?_
    exact kk _ ⟨v1, n1, k1, z1, f1, t1, v2, n2, k2, z2, f2, t2, _, fd, X', Y', a', rfl, hP.step e5 e6⟩
  · skip
    refine g_istore (L' := [(6, .int (nI (i + 1))), (5, .int (nI (6 * j))), (4, .ref aod), (3, .ref ao), (2, .ref (adM 0)), (1, .ref (ad 0)), (0, .ref b)]) C dL_law_1820 (by decide) rfl ?_
    refine g_aload_n (j := 4) C dL_law_1822 rfl rfl ?_
    refine g_aload_n (j := 6) C dL_law_1823 rfl rfl ?_
    refine g_iload (j := 1) C dL_law_1824 rfl ?_
    refine g_iconst (v := (nI 1)) C dL_law_1826 (by decide) ?_
    refine g_iadd C dL_law_1827 ?_
    refine p_num (y := (nI (6 * j + 1))) (nI_add _ _) ?_
    refine n_sld C hX hbl hbA (nI_in (by omega) (by omega)) dL_law_1828 ?_
    refine p_num (y := (xs (6 * j + 1))) (by rw [nI_clamp (by omega)]) ?_
    refine g_aload_n (j := 6) C dL_law_1829 rfl rfl ?_
    refine g_iload (j := 1) C dL_law_1830 rfl ?_
    refine g_iconst (v := (nI 2)) C dL_law_1832 (by decide) ?_
    refine g_iadd C dL_law_1833 ?_
    refine p_num (y := (nI (6 * j + 2))) (nI_add _ _) ?_
    refine n_sld C hX hbl hbA (nI_in (by omega) (by omega)) dL_law_1834 ?_
    refine p_num (y := (xs (6 * j + 2))) (by rw [nI_clamp (by omega)]) ?_
    refine zG.less (ws' := (zW cy adM shM (z_rend cy ad X' 0 shC ++ ((tB cy (ad 152) v1 n1 z1 k1 f1) ++ ((tB cy (ad 153) v2 n2 z2 k2 f2) ++ [(zOut cy ao fo), (zOuD cy aod fd)]))) Y)) (l' := (zW cy ad shC (zLT cy adM (tB cy (ad 152) v1 n1 z1 k1 f1) (tB cy (ad 153) v2 n2 z2 k2 f2) (zOut cy ao fo) (zOuD cy aod fd) Y) X')) (zpM _ _ _ _ _ _) (List.Sublist.refl _) ?_
    refine g_vi (ws' := (zW cy adM shM (z_rend cy ad X' 0 shC ++ ((tB cy (ad 152) v1 n1 z1 k1 f1) ++ ((tB cy (ad 153) v2 n2 z2 k2 f2) ++ [(zOut cy ao fo), (zOuD cy aod fd)]))) Y')) (As := [.int (xs (6 * j + 1)), .int (xs (6 * j + 2))]) (rest := []) (res := b9) C (c_X6_fail l D cy adM (z_rend cy ad X' 0 shC ++ ((tB cy (ad 152) v1 n1 z1 k1 f1) ++ ((tB cy (ad 153) v2 n2 z2 k2 f2) ++ [(zOut cy ao fo), (zOuD cy aod fd)]))) Y (xs (6 * j + 1)) (xs (6 * j + 2)) e2) zml_RL_223 zcv_X6_fail (zW_get Y sM_0) rfl rfl rfl ⟨Nat.le_of_ble_eq_true rfl, Nat.le_of_ble_eq_true rfl⟩ rfl rfl (Nat.le_of_ble_eq_true rfl) ⟨by show cells + 1 ≤ 603072; omega, by show slots + 6 ≤ 7194730; omega⟩ dL_law_1835 ?_
    refine g_istore (L' := [(7, .int b9), (6, .int (nI (i + 1))), (5, .int (nI (6 * j))), (4, .ref aod), (3, .ref ao), (2, .ref (adM 0)), (1, .ref (ad 0)), (0, .ref b)]) C dL_law_1838 (by decide) rfl ?_
    refine g_aload_n (j := 5) C dL_law_1840 rfl rfl ?_
    refine g_vi (ws' := (zW cy adM shM (z_rend cy ad X' 0 shC ++ ((tB cy (ad 152) v1 n1 z1 k1 f1) ++ ((tB cy (ad 153) v2 n2 z2 k2 f2) ++ [(zOut cy ao fo), (zOuD cy aod fd)]))) Y')) (As := []) (rest := []) (res := Y' 0 0) C (c_X6_thrown l D cy adM (z_rend cy ad X' 0 shC ++ ((tB cy (ad 152) v1 n1 z1 k1 f1) ++ ((tB cy (ad 153) v2 n2 z2 k2 f2) ++ [(zOut cy ao fo), (zOuD cy aod fd)]))) Y') zml_RL_155 zcv_X6_thrown (zW_get Y' sM_0) rfl rfl rfl ⟨Nat.le_of_ble_eq_true rfl, Nat.le_of_ble_eq_true rfl⟩ rfl rfl (Nat.le_of_ble_eq_true rfl) ⟨by show cells + 1 ≤ 603072; omega, by show slots + 6 ≤ 7194730; omega⟩ dL_law_1841 ?_
    refine zG.less (ws' := (zW cy ad shC (zLT cy adM (tB cy (ad 152) v1 n1 z1 k1 f1) (tB cy (ad 153) v2 n2 z2 k2 f2) (zOut cy ao fo) (zOuD cy aod fd) Y') X')) (l' := (zW cy adM shM (z_rend cy ad X' 0 shC ++ ((tB cy (ad 152) v1 n1 z1 k1 f1) ++ ((tB cy (ad 153) v2 n2 z2 k2 f2) ++ [(zOut cy ao fo), (zOuD cy aod fd)]))) Y')) (zpM _ _ _ _ _ _).symm (List.Sublist.refl _) ?_
    refine g_iload (j := 1) C dL_law_1844 rfl ?_
    refine g_icmp_eq C dL_law_1846 (tgt := 1851) (by decide) (fun _ => ?_) (fun h9 => absurd (e3.trans (congrArg nI (kx_K3 i _ hi))) h9)
    refine g_iload (j := 1) C dL_law_1851 rfl ?_
    refine g_if_ne C dL_law_1853 (tgt := 1868) (by decide) (fun _ => ?_) (fun h9 => absurd h9 (nIs_ne0 (getE_lt hi (by decide))))
    refine g_goto C dL_law_1868 (tgt := 2819) (by decide) ?_
    refine zG.wide (k := cells + 200) (n := slots + 3200) (by omega) (by omega) ?_
    refine zG_sub (L' := [(5, .int (nI (6 * j))), (4, .ref aod), (3, .ref ao), (2, .ref (adM 0)), (1, .ref (ad 0)), (0, .ref b)]) [2, 3, 4, 5, 6, 7] rfl ?_
    exact kk _ ⟨v1, n1, k1, z1, f1, t1, v2, n2, k2, z2, f2, t2, fo, fd, X', Y', a', rfl, hP.step e5 e6⟩
theorem zml_RL_226 : Cond.methodLink RL 226 yX6_reopen ∈ zAll := zg (z_t8 (List.mem_of_getElem? (i := 63) (by decide +kernel))) (by decide +kernel)
set_option maxRecDepth 100000 in
set_option maxHeartbeats 8000000 in
theorem law_reopen (C : zC p s m args meth c code 9 RL D (zTy cy) A) (hE : zEl A s s.heap) (hlt : l.stackTraces = false) (hX : va_X b N xs s s.heap) (hbl : b < s.heap.size) (hbA : ¬ A b) (j : Nat) (hj : 6 * j + 6 ≤ N) (hN : N ≤ 3072) (w : va_W) (hJ : zLJ cy ad adM ao aod w) (hc : cells + 200 ≤ 603072) (hs : slots + 3200 ≤ 7194730) (kk : ∀ w', zLJ cy ad adM ao aod w' → zG p l e room_1 s m args below meth c 9 D A (cells + 200) (slots + 3200) Q w' 2819 [(5, .int (nI (6 * j))), (4, .ref aod), (3, .ref ao), (2, .ref (adM 0)), (1, .ref (ad 0)), (0, .ref b)] []) : zG p l e room_1 s m args below meth c 9 D A cells slots Q w 1871 [(5, .int (nI (6 * j))), (4, .ref aod), (3, .ref ao), (2, .ref (adM 0)), (1, .ref (ad 0)), (0, .ref b)] [] := by
  obtain ⟨v1, n1, k1, z1, f1, t1, v2, n2, k2, z2, f2, t2, fo, fd, X, Y, a, rfl, hP⟩ := hJ
  obtain ⟨c9, v9, b9, X', Y', a', e1, e2, e3, e4, e5, e6⟩ := sim_reopen hP.1 (xs (6 * j + 1))
  have hcd : inC [3, 2] c9 := (oc_reopen X (xs (6 * j + 1))).o _ e1
  have hM := (c_X5_reopen l hlt D cy ad (zLT cy adM (tB cy (ad 152) v1 n1 z1 k1 f1) (tB cy (ad 153) v2 n2 z2 k2 f2) (zOut cy ao fo) (zOuD cy aod fd) Y) X (xs (6 * j + 1))).toY
  rw [Option.some.inj e1] at hM
  have hw := hw_reopen l D cy zTh_ge zEw_th _ (ad 0) _ (xs (6 * j + 1)) ao 156 fo 1 6 _ _ _ hM rfl rfl ⟨by decide, by decide⟩ (zW_get X sC_0) (fun v w hh => by obtain ⟨_, _, rfl⟩ := hh; exact zLW_o) (fun c w hh h0 => by obtain ⟨rfl, _⟩ := hh; simpa using hcd.ne h0)
  refine g_aload_n (j := 4) C dL_law_1871 rfl rfl ?_
  refine g_aload_n (j := 5) C dL_law_1872 rfl rfl ?_
  refine g_iload (j := 0) C dL_law_1873 rfl ?_
  refine g_iconst (v := (nI 1)) C dL_law_1875 (by decide) ?_
  refine g_iadd C dL_law_1876 ?_
  refine p_num (y := (nI (6 * j + 1))) (nI_add _ _) ?_
  refine n_sld C hX hbl hbA (nI_in (by omega) (by omega)) dL_law_1877 ?_
  refine p_num (y := (xs (6 * j + 1))) (by rw [nI_clamp (by omega)]) ?_
  refine g_aload_n (j := 2) C dL_law_1878 rfl rfl ?_
  refine t_SWi (As := [.ref (ad 0), .int (xs (6 * j + 1)), .ref ao]) (rest := []) zEw_ge hE.1 C hw zcw_reopen rfl rfl ⟨Nat.le_of_ble_eq_true rfl, Nat.le_of_ble_eq_true rfl⟩ rfl rfl (Nat.le_of_ble_eq_true rfl) ⟨by show cells + 1 ≤ 603072; omega, by show slots + 6 ≤ 7194730; omega⟩ dL_law_1879 ?_
  intro r w hr9
  rcases hr9 with ⟨rfl, v', w1, ⟨h0, hv9, rfl⟩, rfl⟩ | ⟨i, c', hi, ⟨rfl, rfl⟩, hne, rfl⟩
  · skip
    have hv9 : v9 = v' := hv9.symm
    subst hv9
    rw [show List.set _ 156 _ = (zW cy ad shC (zLT cy adM (tB cy (ad 152) v1 n1 z1 k1 f1) (tB cy (ad 153) v2 n2 z2 k2 f2) (zOut cy ao (vp_updL fo 0 v9.toInt64)) (zOuD cy aod fd) Y) X') from zLW_so]
    have h0 : c9 = 0 := h0
    refine g_istore (L' := [(6, .int (nI 0)), (5, .int (nI (6 * j))), (4, .ref aod), (3, .ref ao), (2, .ref (adM 0)), (1, .ref (ad 0)), (0, .ref b)]) C dL_law_1882 (by decide) rfl ?_
    refine g_aload_n (j := 4) C dL_law_1884 rfl rfl ?_
    refine g_aload_n (j := 6) C dL_law_1885 rfl rfl ?_
    refine g_iload (j := 1) C dL_law_1886 rfl ?_
    refine g_iconst (v := (nI 1)) C dL_law_1888 (by decide) ?_
    refine g_iadd C dL_law_1889 ?_
    refine p_num (y := (nI (6 * j + 1))) (nI_add _ _) ?_
    refine n_sld C hX hbl hbA (nI_in (by omega) (by omega)) dL_law_1890 ?_
    refine p_num (y := (xs (6 * j + 1))) (by rw [nI_clamp (by omega)]) ?_
    refine zG.less (ws' := (zW cy adM shM (z_rend cy ad X' 0 shC ++ ((tB cy (ad 152) v1 n1 z1 k1 f1) ++ ((tB cy (ad 153) v2 n2 z2 k2 f2) ++ [(zOut cy ao (vp_updL fo 0 v9.toInt64)), (zOuD cy aod fd)]))) Y)) (l' := (zW cy ad shC (zLT cy adM (tB cy (ad 152) v1 n1 z1 k1 f1) (tB cy (ad 153) v2 n2 z2 k2 f2) (zOut cy ao (vp_updL fo 0 v9.toInt64)) (zOuD cy aod fd) Y) X')) (zpM _ _ _ _ _ _) (List.Sublist.refl _) ?_
    refine g_vi (ws' := (zW cy adM shM (z_rend cy ad X' 0 shC ++ ((tB cy (ad 152) v1 n1 z1 k1 f1) ++ ((tB cy (ad 153) v2 n2 z2 k2 f2) ++ [(zOut cy ao (vp_updL fo 0 v9.toInt64)), (zOuD cy aod fd)]))) Y')) (As := [.int (xs (6 * j + 1))]) (rest := []) (res := b9) C (c_X6_reopen l D cy adM (z_rend cy ad X' 0 shC ++ ((tB cy (ad 152) v1 n1 z1 k1 f1) ++ ((tB cy (ad 153) v2 n2 z2 k2 f2) ++ [(zOut cy ao (vp_updL fo 0 v9.toInt64)), (zOuD cy aod fd)]))) Y (xs (6 * j + 1)) e2) zml_RL_226 zcv_X6_reopen (zW_get Y sM_0) rfl rfl rfl ⟨Nat.le_of_ble_eq_true rfl, Nat.le_of_ble_eq_true rfl⟩ rfl rfl (Nat.le_of_ble_eq_true rfl) ⟨by show cells + 1 ≤ 603072; omega, by show slots + 6 ≤ 7194730; omega⟩ dL_law_1891 ?_
    refine g_istore (L' := [(7, .int b9), (6, .int (nI 0)), (5, .int (nI (6 * j))), (4, .ref aod), (3, .ref ao), (2, .ref (adM 0)), (1, .ref (ad 0)), (0, .ref b)]) C dL_law_1894 (by decide) rfl ?_
    refine g_aload_n (j := 5) C dL_law_1896 rfl rfl ?_
    refine g_vi (ws' := (zW cy adM shM (z_rend cy ad X' 0 shC ++ ((tB cy (ad 152) v1 n1 z1 k1 f1) ++ ((tB cy (ad 153) v2 n2 z2 k2 f2) ++ [(zOut cy ao (vp_updL fo 0 v9.toInt64)), (zOuD cy aod fd)]))) Y')) (As := []) (rest := []) (res := Y' 0 0) C (c_X6_thrown l D cy adM (z_rend cy ad X' 0 shC ++ ((tB cy (ad 152) v1 n1 z1 k1 f1) ++ ((tB cy (ad 153) v2 n2 z2 k2 f2) ++ [(zOut cy ao (vp_updL fo 0 v9.toInt64)), (zOuD cy aod fd)]))) Y') zml_RL_155 zcv_X6_thrown (zW_get Y' sM_0) rfl rfl rfl ⟨Nat.le_of_ble_eq_true rfl, Nat.le_of_ble_eq_true rfl⟩ rfl rfl (Nat.le_of_ble_eq_true rfl) ⟨by show cells + 1 ≤ 603072; omega, by show slots + 6 ≤ 7194730; omega⟩ dL_law_1897 ?_
    refine zG.less (ws' := (zW cy ad shC (zLT cy adM (tB cy (ad 152) v1 n1 z1 k1 f1) (tB cy (ad 153) v2 n2 z2 k2 f2) (zOut cy ao (vp_updL fo 0 v9.toInt64)) (zOuD cy aod fd) Y') X')) (l' := (zW cy adM shM (z_rend cy ad X' 0 shC ++ ((tB cy (ad 152) v1 n1 z1 k1 f1) ++ ((tB cy (ad 153) v2 n2 z2 k2 f2) ++ [(zOut cy ao (vp_updL fo 0 v9.toInt64)), (zOuD cy aod fd)]))) Y')) (zpM _ _ _ _ _ _).symm (List.Sublist.refl _) ?_
    refine g_iload (j := 1) C dL_law_1900 rfl ?_
    refine g_icmp_eq C dL_law_1902 (tgt := 1907) (by decide) (fun _ => ?_) (fun h9 => absurd (e3.trans (by rw [h0]; rfl)) h9)
    refine g_iload (j := 1) C dL_law_1907 rfl ?_
    refine g_if_ne C dL_law_1909 (tgt := 1924) (by decide) (fun h9 => absurd nI_0 h9) (fun _ => ?_)
    refine g_aload_n (j := 4) C dL_law_1912 rfl rfl ?_
    refine g_iconst (v := (nI 0)) C dL_law_1913 (by decide) ?_
    refine n_lald (q0 := 156) (n := 1) C zLW_o (nI_in (by decide) (by decide)) dL_law_1914 ?_
    refine g_iload (j := 0) C dL_law_1915 rfl ?_
    refine n_i2l C dL_law_1917 ?_
    refine n_lcmp C dL_law_1918 ?_
    refine g_if_eq C dL_law_1919 (tgt := 1924) (by decide) (fun _ => ?_) (fun h9 => absurd (lg_cmp_rf ((updL_0 _ _).trans (congrArg Int32.toInt64 (e4 h0)))) h9)
    refine g_goto C dL_law_1924 (tgt := 2819) (by decide) ?_
    refine zG.wide (k := cells + 200) (n := slots + 3200) (by omega) (by omega) ?_
    refine zG_sub (L' := [(5, .int (nI (6 * j))), (4, .ref aod), (3, .ref ao), (2, .ref (adM 0)), (1, .ref (ad 0)), (0, .ref b)]) [2, 3, 4, 5, 6, 7] rfl ?_
    exact kk _ ⟨v1, n1, k1, z1, f1, t1, v2, n2, k2, z2, f2, t2, _, fd, X', Y', a', rfl, hP.step e5 e6⟩
  · skip
    refine g_istore (L' := [(6, .int (nI (i + 1))), (5, .int (nI (6 * j))), (4, .ref aod), (3, .ref ao), (2, .ref (adM 0)), (1, .ref (ad 0)), (0, .ref b)]) C dL_law_1882 (by decide) rfl ?_
    refine g_aload_n (j := 4) C dL_law_1884 rfl rfl ?_
    refine g_aload_n (j := 6) C dL_law_1885 rfl rfl ?_
    refine g_iload (j := 1) C dL_law_1886 rfl ?_
    refine g_iconst (v := (nI 1)) C dL_law_1888 (by decide) ?_
    refine g_iadd C dL_law_1889 ?_
    refine p_num (y := (nI (6 * j + 1))) (nI_add _ _) ?_
    refine n_sld C hX hbl hbA (nI_in (by omega) (by omega)) dL_law_1890 ?_
    refine p_num (y := (xs (6 * j + 1))) (by rw [nI_clamp (by omega)]) ?_
    refine zG.less (ws' := (zW cy adM shM (z_rend cy ad X' 0 shC ++ ((tB cy (ad 152) v1 n1 z1 k1 f1) ++ ((tB cy (ad 153) v2 n2 z2 k2 f2) ++ [(zOut cy ao fo), (zOuD cy aod fd)]))) Y)) (l' := (zW cy ad shC (zLT cy adM (tB cy (ad 152) v1 n1 z1 k1 f1) (tB cy (ad 153) v2 n2 z2 k2 f2) (zOut cy ao fo) (zOuD cy aod fd) Y) X')) (zpM _ _ _ _ _ _) (List.Sublist.refl _) ?_
    refine g_vi (ws' := (zW cy adM shM (z_rend cy ad X' 0 shC ++ ((tB cy (ad 152) v1 n1 z1 k1 f1) ++ ((tB cy (ad 153) v2 n2 z2 k2 f2) ++ [(zOut cy ao fo), (zOuD cy aod fd)]))) Y')) (As := [.int (xs (6 * j + 1))]) (rest := []) (res := b9) C (c_X6_reopen l D cy adM (z_rend cy ad X' 0 shC ++ ((tB cy (ad 152) v1 n1 z1 k1 f1) ++ ((tB cy (ad 153) v2 n2 z2 k2 f2) ++ [(zOut cy ao fo), (zOuD cy aod fd)]))) Y (xs (6 * j + 1)) e2) zml_RL_226 zcv_X6_reopen (zW_get Y sM_0) rfl rfl rfl ⟨Nat.le_of_ble_eq_true rfl, Nat.le_of_ble_eq_true rfl⟩ rfl rfl (Nat.le_of_ble_eq_true rfl) ⟨by show cells + 1 ≤ 603072; omega, by show slots + 6 ≤ 7194730; omega⟩ dL_law_1891 ?_
    refine g_istore (L' := [(7, .int b9), (6, .int (nI (i + 1))), (5, .int (nI (6 * j))), (4, .ref aod), (3, .ref ao), (2, .ref (adM 0)), (1, .ref (ad 0)), (0, .ref b)]) C dL_law_1894 (by decide) rfl ?_
    refine g_aload_n (j := 5) C dL_law_1896 rfl rfl ?_
    refine g_vi (ws' := (zW cy adM shM (z_rend cy ad X' 0 shC ++ ((tB cy (ad 152) v1 n1 z1 k1 f1) ++ ((tB cy (ad 153) v2 n2 z2 k2 f2) ++ [(zOut cy ao fo), (zOuD cy aod fd)]))) Y')) (As := []) (rest := []) (res := Y' 0 0) C (c_X6_thrown l D cy adM (z_rend cy ad X' 0 shC ++ ((tB cy (ad 152) v1 n1 z1 k1 f1) ++ ((tB cy (ad 153) v2 n2 z2 k2 f2) ++ [(zOut cy ao fo), (zOuD cy aod fd)]))) Y') zml_RL_155 zcv_X6_thrown (zW_get Y' sM_0) rfl rfl rfl ⟨Nat.le_of_ble_eq_true rfl, Nat.le_of_ble_eq_true rfl⟩ rfl rfl (Nat.le_of_ble_eq_true rfl) ⟨by show cells + 1 ≤ 603072; omega, by show slots + 6 ≤ 7194730; omega⟩ dL_law_1897 ?_
    refine zG.less (ws' := (zW cy ad shC (zLT cy adM (tB cy (ad 152) v1 n1 z1 k1 f1) (tB cy (ad 153) v2 n2 z2 k2 f2) (zOut cy ao fo) (zOuD cy aod fd) Y') X')) (l' := (zW cy adM shM (z_rend cy ad X' 0 shC ++ ((tB cy (ad 152) v1 n1 z1 k1 f1) ++ ((tB cy (ad 153) v2 n2 z2 k2 f2) ++ [(zOut cy ao fo), (zOuD cy aod fd)]))) Y')) (zpM _ _ _ _ _ _).symm (List.Sublist.refl _) ?_
    refine g_iload (j := 1) C dL_law_1900 rfl ?_
    refine g_icmp_eq C dL_law_1902 (tgt := 1907) (by decide) (fun _ => ?_) (fun h9 => absurd (e3.trans (congrArg nI (kx_32 i _ hi))) h9)
    refine g_iload (j := 1) C dL_law_1907 rfl ?_
    refine g_if_ne C dL_law_1909 (tgt := 1924) (by decide) (fun _ => ?_) (fun h9 => absurd h9 (nIs_ne0 (getE_lt hi (by decide))))
    refine g_goto C dL_law_1924 (tgt := 2819) (by decide) ?_
    refine zG.wide (k := cells + 200) (n := slots + 3200) (by omega) (by omega) ?_
    refine zG_sub (L' := [(5, .int (nI (6 * j))), (4, .ref aod), (3, .ref ao), (2, .ref (adM 0)), (1, .ref (ad 0)), (0, .ref b)]) [2, 3, 4, 5, 6, 7] rfl ?_
    exact kk _ ⟨v1, n1, k1, z1, f1, t1, v2, n2, k2, z2, f2, t2, fo, fd, X', Y', a', rfl, hP.step e5 e6⟩
theorem zml_RL_229 : Cond.methodLink RL 229 yX6_line ∈ zAll := zg (z_t8 (List.mem_of_getElem? (i := 67) (by decide +kernel))) (by decide +kernel)
set_option maxRecDepth 100000 in
set_option maxHeartbeats 8000000 in
theorem law_line (C : zC p s m args meth c code 9 RL D (zTy cy) A) (hE : zEl A s s.heap) (hlt : l.stackTraces = false) (hX : va_X b N xs s s.heap) (hbl : b < s.heap.size) (hbA : ¬ A b) (j : Nat) (hj : 6 * j + 6 ≤ N) (hN : N ≤ 3072) (w : va_W) (hJ : zLJ cy ad adM ao aod w) (hc : cells + 200 ≤ 603072) (hs : slots + 3200 ≤ 7194730) (kk : ∀ w', zLJ cy ad adM ao aod w' → zG p l e room_1 s m args below meth c 9 D A (cells + 200) (slots + 3200) Q w' 2819 [(5, .int (nI (6 * j))), (4, .ref aod), (3, .ref ao), (2, .ref (adM 0)), (1, .ref (ad 0)), (0, .ref b)] []) : zG p l e room_1 s m args below meth c 9 D A cells slots Q w 1927 [(5, .int (nI (6 * j))), (4, .ref aod), (3, .ref ao), (2, .ref (adM 0)), (1, .ref (ad 0)), (0, .ref b)] [] := by
  obtain ⟨v1, n1, k1, z1, f1, t1, v2, n2, k2, z2, f2, t2, fo, fd, X, Y, a, rfl, hP⟩ := hJ
  obtain ⟨c9, v9, b9, X', Y', a', e1, e2, e3, e4, e5, e6⟩ := sim_line hP.1 (xs (6 * j + 1)) (xs (6 * j + 2))
  have hcd : inC [6, 1] c9 := (oc_line X (xs (6 * j + 1)) (xs (6 * j + 2))).o _ e1
  have hM := (c_X5_line l hlt D cy ad (zLT cy adM (tB cy (ad 152) v1 n1 z1 k1 f1) (tB cy (ad 153) v2 n2 z2 k2 f2) (zOut cy ao fo) (zOuD cy aod fd) Y) X (xs (6 * j + 1)) (xs (6 * j + 2))).toY
  rw [Option.some.inj e1] at hM
  have hw := hw_line l D cy zTh_ge zEw_th _ (ad 0) _ (xs (6 * j + 1)) (xs (6 * j + 2)) ao 156 fo 1 6 _ _ _ hM rfl rfl ⟨by decide, by decide⟩ (zW_get X sC_0) (fun v w hh => by obtain ⟨_, _, rfl⟩ := hh; exact zLW_o) (fun c w hh h0 => by obtain ⟨rfl, _⟩ := hh; simpa using hcd.ne h0)
  refine g_aload_n (j := 4) C dL_law_1927 rfl rfl ?_
  refine g_aload_n (j := 5) C dL_law_1928 rfl rfl ?_
  refine g_iload (j := 0) C dL_law_1929 rfl ?_
  refine g_iconst (v := (nI 1)) C dL_law_1931 (by decide) ?_
  refine g_iadd C dL_law_1932 ?_
  refine p_num (y := (nI (6 * j + 1))) (nI_add _ _) ?_
  refine n_sld C hX hbl hbA (nI_in (by omega) (by omega)) dL_law_1933 ?_
  refine p_num (y := (xs (6 * j + 1))) (by rw [nI_clamp (by omega)]) ?_
  refine g_aload_n (j := 5) C dL_law_1934 rfl rfl ?_
  refine g_iload (j := 0) C dL_law_1935 rfl ?_
  refine g_iconst (v := (nI 2)) C dL_law_1937 (by decide) ?_
  refine g_iadd C dL_law_1938 ?_
  refine p_num (y := (nI (6 * j + 2))) (nI_add _ _) ?_
  refine n_sld C hX hbl hbA (nI_in (by omega) (by omega)) dL_law_1939 ?_
  refine p_num (y := (xs (6 * j + 2))) (by rw [nI_clamp (by omega)]) ?_
  refine g_aload_n (j := 2) C dL_law_1940 rfl rfl ?_
  refine t_SWi (As := [.ref (ad 0), .int (xs (6 * j + 1)), .int (xs (6 * j + 2)), .ref ao]) (rest := []) zEw_ge hE.1 C hw zcw_line rfl rfl ⟨Nat.le_of_ble_eq_true rfl, Nat.le_of_ble_eq_true rfl⟩ rfl rfl (Nat.le_of_ble_eq_true rfl) ⟨by show cells + 1 ≤ 603072; omega, by show slots + 6 ≤ 7194730; omega⟩ dL_law_1941 ?_
  intro r w hr9
  rcases hr9 with ⟨rfl, v', w1, ⟨h0, hv9, rfl⟩, rfl⟩ | ⟨i, c', hi, ⟨rfl, rfl⟩, hne, rfl⟩
  · skip
    have hv9 : v9 = v' := hv9.symm
    subst hv9
    rw [show List.set _ 156 _ = (zW cy ad shC (zLT cy adM (tB cy (ad 152) v1 n1 z1 k1 f1) (tB cy (ad 153) v2 n2 z2 k2 f2) (zOut cy ao (vp_updL fo 0 v9.toInt64)) (zOuD cy aod fd) Y) X') from zLW_so]
    have h0 : c9 = 0 := h0
    refine g_istore (L' := [(6, .int (nI 0)), (5, .int (nI (6 * j))), (4, .ref aod), (3, .ref ao), (2, .ref (adM 0)), (1, .ref (ad 0)), (0, .ref b)]) C dL_law_1944 (by decide) rfl ?_
    refine g_aload_n (j := 4) C dL_law_1946 rfl rfl ?_
    refine g_aload_n (j := 6) C dL_law_1947 rfl rfl ?_
    refine g_iload (j := 1) C dL_law_1948 rfl ?_
    refine g_iconst (v := (nI 1)) C dL_law_1950 (by decide) ?_
    refine g_iadd C dL_law_1951 ?_
    refine p_num (y := (nI (6 * j + 1))) (nI_add _ _) ?_
    refine n_sld C hX hbl hbA (nI_in (by omega) (by omega)) dL_law_1952 ?_
    refine p_num (y := (xs (6 * j + 1))) (by rw [nI_clamp (by omega)]) ?_
    refine g_aload_n (j := 6) C dL_law_1953 rfl rfl ?_
    refine g_iload (j := 1) C dL_law_1954 rfl ?_
    refine g_iconst (v := (nI 2)) C dL_law_1956 (by decide) ?_
    refine g_iadd C dL_law_1957 ?_
    refine p_num (y := (nI (6 * j + 2))) (nI_add _ _) ?_
    refine n_sld C hX hbl hbA (nI_in (by omega) (by omega)) dL_law_1958 ?_
    refine p_num (y := (xs (6 * j + 2))) (by rw [nI_clamp (by omega)]) ?_
    refine zG.less (ws' := (zW cy adM shM (z_rend cy ad X' 0 shC ++ ((tB cy (ad 152) v1 n1 z1 k1 f1) ++ ((tB cy (ad 153) v2 n2 z2 k2 f2) ++ [(zOut cy ao (vp_updL fo 0 v9.toInt64)), (zOuD cy aod fd)]))) Y)) (l' := (zW cy ad shC (zLT cy adM (tB cy (ad 152) v1 n1 z1 k1 f1) (tB cy (ad 153) v2 n2 z2 k2 f2) (zOut cy ao (vp_updL fo 0 v9.toInt64)) (zOuD cy aod fd) Y) X')) (zpM _ _ _ _ _ _) (List.Sublist.refl _) ?_
    refine g_vi (ws' := (zW cy adM shM (z_rend cy ad X' 0 shC ++ ((tB cy (ad 152) v1 n1 z1 k1 f1) ++ ((tB cy (ad 153) v2 n2 z2 k2 f2) ++ [(zOut cy ao (vp_updL fo 0 v9.toInt64)), (zOuD cy aod fd)]))) Y')) (As := [.int (xs (6 * j + 1)), .int (xs (6 * j + 2))]) (rest := []) (res := b9) C (c_X6_line l D cy adM (z_rend cy ad X' 0 shC ++ ((tB cy (ad 152) v1 n1 z1 k1 f1) ++ ((tB cy (ad 153) v2 n2 z2 k2 f2) ++ [(zOut cy ao (vp_updL fo 0 v9.toInt64)), (zOuD cy aod fd)]))) Y (xs (6 * j + 1)) (xs (6 * j + 2)) e2) zml_RL_229 zcv_X6_line (zW_get Y sM_0) rfl rfl rfl ⟨Nat.le_of_ble_eq_true rfl, Nat.le_of_ble_eq_true rfl⟩ rfl rfl (Nat.le_of_ble_eq_true rfl) ⟨by show cells + 1 ≤ 603072; omega, by show slots + 6 ≤ 7194730; omega⟩ dL_law_1959 ?_
    refine g_istore (L' := [(7, .int b9), (6, .int (nI 0)), (5, .int (nI (6 * j))), (4, .ref aod), (3, .ref ao), (2, .ref (adM 0)), (1, .ref (ad 0)), (0, .ref b)]) C dL_law_1962 (by decide) rfl ?_
    refine g_aload_n (j := 5) C dL_law_1964 rfl rfl ?_
    refine g_vi (ws' := (zW cy adM shM (z_rend cy ad X' 0 shC ++ ((tB cy (ad 152) v1 n1 z1 k1 f1) ++ ((tB cy (ad 153) v2 n2 z2 k2 f2) ++ [(zOut cy ao (vp_updL fo 0 v9.toInt64)), (zOuD cy aod fd)]))) Y')) (As := []) (rest := []) (res := Y' 0 0) C (c_X6_thrown l D cy adM (z_rend cy ad X' 0 shC ++ ((tB cy (ad 152) v1 n1 z1 k1 f1) ++ ((tB cy (ad 153) v2 n2 z2 k2 f2) ++ [(zOut cy ao (vp_updL fo 0 v9.toInt64)), (zOuD cy aod fd)]))) Y') zml_RL_155 zcv_X6_thrown (zW_get Y' sM_0) rfl rfl rfl ⟨Nat.le_of_ble_eq_true rfl, Nat.le_of_ble_eq_true rfl⟩ rfl rfl (Nat.le_of_ble_eq_true rfl) ⟨by show cells + 1 ≤ 603072; omega, by show slots + 6 ≤ 7194730; omega⟩ dL_law_1965 ?_
    refine zG.less (ws' := (zW cy ad shC (zLT cy adM (tB cy (ad 152) v1 n1 z1 k1 f1) (tB cy (ad 153) v2 n2 z2 k2 f2) (zOut cy ao (vp_updL fo 0 v9.toInt64)) (zOuD cy aod fd) Y') X')) (l' := (zW cy adM shM (z_rend cy ad X' 0 shC ++ ((tB cy (ad 152) v1 n1 z1 k1 f1) ++ ((tB cy (ad 153) v2 n2 z2 k2 f2) ++ [(zOut cy ao (vp_updL fo 0 v9.toInt64)), (zOuD cy aod fd)]))) Y')) (zpM _ _ _ _ _ _).symm (List.Sublist.refl _) ?_
    refine g_iload (j := 1) C dL_law_1968 rfl ?_
    refine g_icmp_eq C dL_law_1970 (tgt := 1975) (by decide) (fun _ => ?_) (fun h9 => absurd (e3.trans (by rw [h0]; rfl)) h9)
    refine g_iload (j := 1) C dL_law_1975 rfl ?_
    refine g_if_ne C dL_law_1977 (tgt := 1992) (by decide) (fun h9 => absurd nI_0 h9) (fun _ => ?_)
    refine g_aload_n (j := 4) C dL_law_1980 rfl rfl ?_
    refine g_iconst (v := (nI 0)) C dL_law_1981 (by decide) ?_
    refine n_lald (q0 := 156) (n := 1) C zLW_o (nI_in (by decide) (by decide)) dL_law_1982 ?_
    refine g_iload (j := 0) C dL_law_1983 rfl ?_
    refine n_i2l C dL_law_1985 ?_
    refine n_lcmp C dL_law_1986 ?_
    refine g_if_eq C dL_law_1987 (tgt := 1992) (by decide) (fun _ => ?_) (fun h9 => absurd (lg_cmp_rf ((updL_0 _ _).trans (congrArg Int32.toInt64 (e4 h0)))) h9)
    refine g_goto C dL_law_1992 (tgt := 2819) (by decide) ?_
    refine zG.wide (k := cells + 200) (n := slots + 3200) (by omega) (by omega) ?_
    refine zG_sub (L' := [(5, .int (nI (6 * j))), (4, .ref aod), (3, .ref ao), (2, .ref (adM 0)), (1, .ref (ad 0)), (0, .ref b)]) [2, 3, 4, 5, 6, 7] rfl ?_
    exact kk _ ⟨v1, n1, k1, z1, f1, t1, v2, n2, k2, z2, f2, t2, _, fd, X', Y', a', rfl, hP.step e5 e6⟩
  · skip
    refine g_istore (L' := [(6, .int (nI (i + 1))), (5, .int (nI (6 * j))), (4, .ref aod), (3, .ref ao), (2, .ref (adM 0)), (1, .ref (ad 0)), (0, .ref b)]) C dL_law_1944 (by decide) rfl ?_
    refine g_aload_n (j := 4) C dL_law_1946 rfl rfl ?_
    refine g_aload_n (j := 6) C dL_law_1947 rfl rfl ?_
    refine g_iload (j := 1) C dL_law_1948 rfl ?_
    refine g_iconst (v := (nI 1)) C dL_law_1950 (by decide) ?_
    refine g_iadd C dL_law_1951 ?_
    refine p_num (y := (nI (6 * j + 1))) (nI_add _ _) ?_
    refine n_sld C hX hbl hbA (nI_in (by omega) (by omega)) dL_law_1952 ?_
    refine p_num (y := (xs (6 * j + 1))) (by rw [nI_clamp (by omega)]) ?_
    refine g_aload_n (j := 6) C dL_law_1953 rfl rfl ?_
    refine g_iload (j := 1) C dL_law_1954 rfl ?_
    refine g_iconst (v := (nI 2)) C dL_law_1956 (by decide) ?_
    refine g_iadd C dL_law_1957 ?_
    refine p_num (y := (nI (6 * j + 2))) (nI_add _ _) ?_
    refine n_sld C hX hbl hbA (nI_in (by omega) (by omega)) dL_law_1958 ?_
    refine p_num (y := (xs (6 * j + 2))) (by rw [nI_clamp (by omega)]) ?_
    refine zG.less (ws' := (zW cy adM shM (z_rend cy ad X' 0 shC ++ ((tB cy (ad 152) v1 n1 z1 k1 f1) ++ ((tB cy (ad 153) v2 n2 z2 k2 f2) ++ [(zOut cy ao fo), (zOuD cy aod fd)]))) Y)) (l' := (zW cy ad shC (zLT cy adM (tB cy (ad 152) v1 n1 z1 k1 f1) (tB cy (ad 153) v2 n2 z2 k2 f2) (zOut cy ao fo) (zOuD cy aod fd) Y) X')) (zpM _ _ _ _ _ _) (List.Sublist.refl _) ?_
    refine g_vi (ws' := (zW cy adM shM (z_rend cy ad X' 0 shC ++ ((tB cy (ad 152) v1 n1 z1 k1 f1) ++ ((tB cy (ad 153) v2 n2 z2 k2 f2) ++ [(zOut cy ao fo), (zOuD cy aod fd)]))) Y')) (As := [.int (xs (6 * j + 1)), .int (xs (6 * j + 2))]) (rest := []) (res := b9) C (c_X6_line l D cy adM (z_rend cy ad X' 0 shC ++ ((tB cy (ad 152) v1 n1 z1 k1 f1) ++ ((tB cy (ad 153) v2 n2 z2 k2 f2) ++ [(zOut cy ao fo), (zOuD cy aod fd)]))) Y (xs (6 * j + 1)) (xs (6 * j + 2)) e2) zml_RL_229 zcv_X6_line (zW_get Y sM_0) rfl rfl rfl ⟨Nat.le_of_ble_eq_true rfl, Nat.le_of_ble_eq_true rfl⟩ rfl rfl (Nat.le_of_ble_eq_true rfl) ⟨by show cells + 1 ≤ 603072; omega, by show slots + 6 ≤ 7194730; omega⟩ dL_law_1959 ?_
    refine g_istore (L' := [(7, .int b9), (6, .int (nI (i + 1))), (5, .int (nI (6 * j))), (4, .ref aod), (3, .ref ao), (2, .ref (adM 0)), (1, .ref (ad 0)), (0, .ref b)]) C dL_law_1962 (by decide) rfl ?_
    refine g_aload_n (j := 5) C dL_law_1964 rfl rfl ?_
    refine g_vi (ws' := (zW cy adM shM (z_rend cy ad X' 0 shC ++ ((tB cy (ad 152) v1 n1 z1 k1 f1) ++ ((tB cy (ad 153) v2 n2 z2 k2 f2) ++ [(zOut cy ao fo), (zOuD cy aod fd)]))) Y')) (As := []) (rest := []) (res := Y' 0 0) C (c_X6_thrown l D cy adM (z_rend cy ad X' 0 shC ++ ((tB cy (ad 152) v1 n1 z1 k1 f1) ++ ((tB cy (ad 153) v2 n2 z2 k2 f2) ++ [(zOut cy ao fo), (zOuD cy aod fd)]))) Y') zml_RL_155 zcv_X6_thrown (zW_get Y' sM_0) rfl rfl rfl ⟨Nat.le_of_ble_eq_true rfl, Nat.le_of_ble_eq_true rfl⟩ rfl rfl (Nat.le_of_ble_eq_true rfl) ⟨by show cells + 1 ≤ 603072; omega, by show slots + 6 ≤ 7194730; omega⟩ dL_law_1965 ?_
    refine zG.less (ws' := (zW cy ad shC (zLT cy adM (tB cy (ad 152) v1 n1 z1 k1 f1) (tB cy (ad 153) v2 n2 z2 k2 f2) (zOut cy ao fo) (zOuD cy aod fd) Y') X')) (l' := (zW cy adM shM (z_rend cy ad X' 0 shC ++ ((tB cy (ad 152) v1 n1 z1 k1 f1) ++ ((tB cy (ad 153) v2 n2 z2 k2 f2) ++ [(zOut cy ao fo), (zOuD cy aod fd)]))) Y')) (zpM _ _ _ _ _ _).symm (List.Sublist.refl _) ?_
    refine g_iload (j := 1) C dL_law_1968 rfl ?_
    refine g_icmp_eq C dL_law_1970 (tgt := 1975) (by decide) (fun _ => ?_) (fun h9 => absurd (e3.trans (congrArg nI (kx_61 i _ hi))) h9)
    refine g_iload (j := 1) C dL_law_1975 rfl ?_
    refine g_if_ne C dL_law_1977 (tgt := 1992) (by decide) (fun _ => ?_) (fun h9 => absurd h9 (nIs_ne0 (getE_lt hi (by decide))))
    refine g_goto C dL_law_1992 (tgt := 2819) (by decide) ?_
    refine zG.wide (k := cells + 200) (n := slots + 3200) (by omega) (by omega) ?_
    refine zG_sub (L' := [(5, .int (nI (6 * j))), (4, .ref aod), (3, .ref ao), (2, .ref (adM 0)), (1, .ref (ad 0)), (0, .ref b)]) [2, 3, 4, 5, 6, 7] rfl ?_
    exact kk _ ⟨v1, n1, k1, z1, f1, t1, v2, n2, k2, z2, f2, t2, fo, fd, X', Y', a', rfl, hP.step e5 e6⟩
theorem zml_RL_232 : Cond.methodLink RL 232 yX6_used ∈ zAll := zg (z_t8 (List.mem_of_getElem? (i := 71) (by decide +kernel))) (by decide +kernel)
set_option maxRecDepth 100000 in
set_option maxHeartbeats 8000000 in
theorem law_used (C : zC p s m args meth c code 9 RL D (zTy cy) A) (hE : zEl A s s.heap) (hlt : l.stackTraces = false) (hX : va_X b N xs s s.heap) (hbl : b < s.heap.size) (hbA : ¬ A b) (j : Nat) (hj : 6 * j + 6 ≤ N) (hN : N ≤ 3072) (w : va_W) (hJ : zLJ cy ad adM ao aod w) (hc : cells + 200 ≤ 603072) (hs : slots + 3200 ≤ 7194730) (kk : ∀ w', zLJ cy ad adM ao aod w' → zG p l e room_1 s m args below meth c 9 D A (cells + 200) (slots + 3200) Q w' 2819 [(5, .int (nI (6 * j))), (4, .ref aod), (3, .ref ao), (2, .ref (adM 0)), (1, .ref (ad 0)), (0, .ref b)] []) : zG p l e room_1 s m args below meth c 9 D A cells slots Q w 1995 [(5, .int (nI (6 * j))), (4, .ref aod), (3, .ref ao), (2, .ref (adM 0)), (1, .ref (ad 0)), (0, .ref b)] [] := by
  obtain ⟨v1, n1, k1, z1, f1, t1, v2, n2, k2, z2, f2, t2, fo, fd, X, Y, a, rfl, hP⟩ := hJ
  obtain ⟨c9, v9, b9, X', Y', a', e1, e2, e3, e4, e5, e6⟩ := zSimR.up hP.1 (sim_used hP.1.1 hP.1.2.1 hP.1.2.2.1.1 (xs (6 * j + 1)) (xs (6 * j + 2)) (xs (6 * j + 3)))
  have hcd : inC [3, 1] c9 := oc_used X (xs (6 * j + 1)) (xs (6 * j + 2)) (xs (6 * j + 3)) _ e1
  have hM := (c_X5_used l hlt D cy ad (zLT cy adM (tB cy (ad 152) v1 n1 z1 k1 f1) (tB cy (ad 153) v2 n2 z2 k2 f2) (zOut cy ao fo) (zOuD cy aod fd) Y) X (xs (6 * j + 1)) (xs (6 * j + 2)) (xs (6 * j + 3)) e1).toY
  have hw := hw_used l D cy zTh_ge zEw_th _ (ad 0) _ (xs (6 * j + 1)) (xs (6 * j + 2)) (xs (6 * j + 3)) ao 156 fo 1 6 _ _ _ hM rfl rfl ⟨by decide, by decide⟩ (zW_get X sC_0) (fun v w hh => by obtain ⟨_, _, rfl⟩ := hh; exact zLW_o) (fun c w hh h0 => by obtain ⟨rfl, _⟩ := hh; simpa using hcd.ne h0)
  refine g_aload_n (j := 4) C dL_law_1995 rfl rfl ?_
  refine g_aload_n (j := 5) C dL_law_1996 rfl rfl ?_
  refine g_iload (j := 0) C dL_law_1997 rfl ?_
  refine g_iconst (v := (nI 1)) C dL_law_1999 (by decide) ?_
  refine g_iadd C dL_law_2000 ?_
  refine p_num (y := (nI (6 * j + 1))) (nI_add _ _) ?_
  refine n_sld C hX hbl hbA (nI_in (by omega) (by omega)) dL_law_2001 ?_
  refine p_num (y := (xs (6 * j + 1))) (by rw [nI_clamp (by omega)]) ?_
  refine g_aload_n (j := 5) C dL_law_2002 rfl rfl ?_
  refine g_iload (j := 0) C dL_law_2003 rfl ?_
  refine g_iconst (v := (nI 2)) C dL_law_2005 (by decide) ?_
  refine g_iadd C dL_law_2006 ?_
  refine p_num (y := (nI (6 * j + 2))) (nI_add _ _) ?_
  refine n_sld C hX hbl hbA (nI_in (by omega) (by omega)) dL_law_2007 ?_
  refine p_num (y := (xs (6 * j + 2))) (by rw [nI_clamp (by omega)]) ?_
  refine g_aload_n (j := 5) C dL_law_2008 rfl rfl ?_
  refine g_iload (j := 0) C dL_law_2009 rfl ?_
  refine g_iconst (v := (nI 3)) C dL_law_2011 (by decide) ?_
  refine g_iadd C dL_law_2012 ?_
  refine p_num (y := (nI (6 * j + 3))) (nI_add _ _) ?_
  refine n_sld C hX hbl hbA (nI_in (by omega) (by omega)) dL_law_2013 ?_
  refine p_num (y := (xs (6 * j + 3))) (by rw [nI_clamp (by omega)]) ?_
  refine g_aload_n (j := 2) C dL_law_2014 rfl rfl ?_
  refine t_SWi (As := [.ref (ad 0), .int (xs (6 * j + 1)), .int (xs (6 * j + 2)), .int (xs (6 * j + 3)), .ref ao]) (rest := []) zEw_ge hE.1 C hw zcw_used rfl rfl ⟨Nat.le_of_ble_eq_true rfl, Nat.le_of_ble_eq_true rfl⟩ rfl rfl (Nat.le_of_ble_eq_true rfl) ⟨by show cells + 1 ≤ 603072; omega, by show slots + 6 ≤ 7194730; omega⟩ dL_law_2015 ?_
  intro r w hr9
  rcases hr9 with ⟨rfl, v', w1, ⟨h0, hv9, rfl⟩, rfl⟩ | ⟨i, c', hi, ⟨rfl, rfl⟩, hne, rfl⟩
  · skip
    have hv9 : v9 = v' := hv9.symm
    subst hv9
    rw [show List.set _ 156 _ = (zW cy ad shC (zLT cy adM (tB cy (ad 152) v1 n1 z1 k1 f1) (tB cy (ad 153) v2 n2 z2 k2 f2) (zOut cy ao (vp_updL fo 0 v9.toInt64)) (zOuD cy aod fd) Y) X') from zLW_so]
    have h0 : c9 = 0 := h0
    refine g_istore (L' := [(6, .int (nI 0)), (5, .int (nI (6 * j))), (4, .ref aod), (3, .ref ao), (2, .ref (adM 0)), (1, .ref (ad 0)), (0, .ref b)]) C dL_law_2018 (by decide) rfl ?_
    refine g_aload_n (j := 4) C dL_law_2020 rfl rfl ?_
    refine g_aload_n (j := 6) C dL_law_2021 rfl rfl ?_
    refine g_iload (j := 1) C dL_law_2022 rfl ?_
    refine g_iconst (v := (nI 1)) C dL_law_2024 (by decide) ?_
    refine g_iadd C dL_law_2025 ?_
    refine p_num (y := (nI (6 * j + 1))) (nI_add _ _) ?_
    refine n_sld C hX hbl hbA (nI_in (by omega) (by omega)) dL_law_2026 ?_
    refine p_num (y := (xs (6 * j + 1))) (by rw [nI_clamp (by omega)]) ?_
    refine g_aload_n (j := 6) C dL_law_2027 rfl rfl ?_
    refine g_iload (j := 1) C dL_law_2028 rfl ?_
    refine g_iconst (v := (nI 2)) C dL_law_2030 (by decide) ?_
    refine g_iadd C dL_law_2031 ?_
    refine p_num (y := (nI (6 * j + 2))) (nI_add _ _) ?_
    refine n_sld C hX hbl hbA (nI_in (by omega) (by omega)) dL_law_2032 ?_
    refine p_num (y := (xs (6 * j + 2))) (by rw [nI_clamp (by omega)]) ?_
    refine g_aload_n (j := 6) C dL_law_2033 rfl rfl ?_
    refine g_iload (j := 1) C dL_law_2034 rfl ?_
    refine g_iconst (v := (nI 3)) C dL_law_2036 (by decide) ?_
    refine g_iadd C dL_law_2037 ?_
    refine p_num (y := (nI (6 * j + 3))) (nI_add _ _) ?_
    refine n_sld C hX hbl hbA (nI_in (by omega) (by omega)) dL_law_2038 ?_
    refine p_num (y := (xs (6 * j + 3))) (by rw [nI_clamp (by omega)]) ?_
    refine zG.less (ws' := (zW cy adM shM (z_rend cy ad X' 0 shC ++ ((tB cy (ad 152) v1 n1 z1 k1 f1) ++ ((tB cy (ad 153) v2 n2 z2 k2 f2) ++ [(zOut cy ao (vp_updL fo 0 v9.toInt64)), (zOuD cy aod fd)]))) Y)) (l' := (zW cy ad shC (zLT cy adM (tB cy (ad 152) v1 n1 z1 k1 f1) (tB cy (ad 153) v2 n2 z2 k2 f2) (zOut cy ao (vp_updL fo 0 v9.toInt64)) (zOuD cy aod fd) Y) X')) (zpM _ _ _ _ _ _) (List.Sublist.refl _) ?_
    refine g_vi (ws' := (zW cy adM shM (z_rend cy ad X' 0 shC ++ ((tB cy (ad 152) v1 n1 z1 k1 f1) ++ ((tB cy (ad 153) v2 n2 z2 k2 f2) ++ [(zOut cy ao (vp_updL fo 0 v9.toInt64)), (zOuD cy aod fd)]))) Y')) (As := [.int (xs (6 * j + 1)), .int (xs (6 * j + 2)), .int (xs (6 * j + 3))]) (rest := []) (res := b9) C (c_X6_used l D cy adM (z_rend cy ad X' 0 shC ++ ((tB cy (ad 152) v1 n1 z1 k1 f1) ++ ((tB cy (ad 153) v2 n2 z2 k2 f2) ++ [(zOut cy ao (vp_updL fo 0 v9.toInt64)), (zOuD cy aod fd)]))) Y (xs (6 * j + 1)) (xs (6 * j + 2)) (xs (6 * j + 3)) e2) zml_RL_232 zcv_X6_used (zW_get Y sM_0) rfl rfl rfl ⟨Nat.le_of_ble_eq_true rfl, Nat.le_of_ble_eq_true rfl⟩ rfl rfl (Nat.le_of_ble_eq_true rfl) ⟨by show cells + 1 ≤ 603072; omega, by show slots + 6 ≤ 7194730; omega⟩ dL_law_2039 ?_
    refine g_istore (L' := [(7, .int b9), (6, .int (nI 0)), (5, .int (nI (6 * j))), (4, .ref aod), (3, .ref ao), (2, .ref (adM 0)), (1, .ref (ad 0)), (0, .ref b)]) C dL_law_2042 (by decide) rfl ?_
    refine g_aload_n (j := 5) C dL_law_2044 rfl rfl ?_
    refine g_vi (ws' := (zW cy adM shM (z_rend cy ad X' 0 shC ++ ((tB cy (ad 152) v1 n1 z1 k1 f1) ++ ((tB cy (ad 153) v2 n2 z2 k2 f2) ++ [(zOut cy ao (vp_updL fo 0 v9.toInt64)), (zOuD cy aod fd)]))) Y')) (As := []) (rest := []) (res := Y' 0 0) C (c_X6_thrown l D cy adM (z_rend cy ad X' 0 shC ++ ((tB cy (ad 152) v1 n1 z1 k1 f1) ++ ((tB cy (ad 153) v2 n2 z2 k2 f2) ++ [(zOut cy ao (vp_updL fo 0 v9.toInt64)), (zOuD cy aod fd)]))) Y') zml_RL_155 zcv_X6_thrown (zW_get Y' sM_0) rfl rfl rfl ⟨Nat.le_of_ble_eq_true rfl, Nat.le_of_ble_eq_true rfl⟩ rfl rfl (Nat.le_of_ble_eq_true rfl) ⟨by show cells + 1 ≤ 603072; omega, by show slots + 6 ≤ 7194730; omega⟩ dL_law_2045 ?_
    refine zG.less (ws' := (zW cy ad shC (zLT cy adM (tB cy (ad 152) v1 n1 z1 k1 f1) (tB cy (ad 153) v2 n2 z2 k2 f2) (zOut cy ao (vp_updL fo 0 v9.toInt64)) (zOuD cy aod fd) Y') X')) (l' := (zW cy adM shM (z_rend cy ad X' 0 shC ++ ((tB cy (ad 152) v1 n1 z1 k1 f1) ++ ((tB cy (ad 153) v2 n2 z2 k2 f2) ++ [(zOut cy ao (vp_updL fo 0 v9.toInt64)), (zOuD cy aod fd)]))) Y')) (zpM _ _ _ _ _ _).symm (List.Sublist.refl _) ?_
    refine g_iload (j := 1) C dL_law_2048 rfl ?_
    refine g_icmp_eq C dL_law_2050 (tgt := 2055) (by decide) (fun _ => ?_) (fun h9 => absurd (e3.trans (by rw [h0]; rfl)) h9)
    refine g_iload (j := 1) C dL_law_2055 rfl ?_
    refine g_if_ne C dL_law_2057 (tgt := 2072) (by decide) (fun h9 => absurd nI_0 h9) (fun _ => ?_)
    refine g_aload_n (j := 4) C dL_law_2060 rfl rfl ?_
    refine g_iconst (v := (nI 0)) C dL_law_2061 (by decide) ?_
    refine n_lald (q0 := 156) (n := 1) C zLW_o (nI_in (by decide) (by decide)) dL_law_2062 ?_
    refine g_iload (j := 0) C dL_law_2063 rfl ?_
    refine n_i2l C dL_law_2065 ?_
    refine n_lcmp C dL_law_2066 ?_
    refine g_if_eq C dL_law_2067 (tgt := 2072) (by decide) (fun _ => ?_) (fun h9 => absurd (lg_cmp_rf ((updL_0 _ _).trans (congrArg Int32.toInt64 (e4 h0)))) h9)
    refine g_goto C dL_law_2072 (tgt := 2819) (by decide) ?_
    refine zG.wide (k := cells + 200) (n := slots + 3200) (by omega) (by omega) ?_
    refine zG_sub (L' := [(5, .int (nI (6 * j))), (4, .ref aod), (3, .ref ao), (2, .ref (adM 0)), (1, .ref (ad 0)), (0, .ref b)]) [2, 3, 4, 5, 6, 7] rfl ?_
    exact kk _ ⟨v1, n1, k1, z1, f1, t1, v2, n2, k2, z2, f2, t2, _, fd, X', Y', a', rfl, hP.step e5 e6⟩
  · skip
    refine g_istore (L' := [(6, .int (nI (i + 1))), (5, .int (nI (6 * j))), (4, .ref aod), (3, .ref ao), (2, .ref (adM 0)), (1, .ref (ad 0)), (0, .ref b)]) C dL_law_2018 (by decide) rfl ?_
    refine g_aload_n (j := 4) C dL_law_2020 rfl rfl ?_
    refine g_aload_n (j := 6) C dL_law_2021 rfl rfl ?_
    refine g_iload (j := 1) C dL_law_2022 rfl ?_
    refine g_iconst (v := (nI 1)) C dL_law_2024 (by decide) ?_
    refine g_iadd C dL_law_2025 ?_
    refine p_num (y := (nI (6 * j + 1))) (nI_add _ _) ?_
    refine n_sld C hX hbl hbA (nI_in (by omega) (by omega)) dL_law_2026 ?_
    refine p_num (y := (xs (6 * j + 1))) (by rw [nI_clamp (by omega)]) ?_
    refine g_aload_n (j := 6) C dL_law_2027 rfl rfl ?_
    refine g_iload (j := 1) C dL_law_2028 rfl ?_
    refine g_iconst (v := (nI 2)) C dL_law_2030 (by decide) ?_
    refine g_iadd C dL_law_2031 ?_
    refine p_num (y := (nI (6 * j + 2))) (nI_add _ _) ?_
    refine n_sld C hX hbl hbA (nI_in (by omega) (by omega)) dL_law_2032 ?_
    refine p_num (y := (xs (6 * j + 2))) (by rw [nI_clamp (by omega)]) ?_
    refine g_aload_n (j := 6) C dL_law_2033 rfl rfl ?_
    refine g_iload (j := 1) C dL_law_2034 rfl ?_
    refine g_iconst (v := (nI 3)) C dL_law_2036 (by decide) ?_
    refine g_iadd C dL_law_2037 ?_
    refine p_num (y := (nI (6 * j + 3))) (nI_add _ _) ?_
    refine n_sld C hX hbl hbA (nI_in (by omega) (by omega)) dL_law_2038 ?_
    refine p_num (y := (xs (6 * j + 3))) (by rw [nI_clamp (by omega)]) ?_
    refine zG.less (ws' := (zW cy adM shM (z_rend cy ad X' 0 shC ++ ((tB cy (ad 152) v1 n1 z1 k1 f1) ++ ((tB cy (ad 153) v2 n2 z2 k2 f2) ++ [(zOut cy ao fo), (zOuD cy aod fd)]))) Y)) (l' := (zW cy ad shC (zLT cy adM (tB cy (ad 152) v1 n1 z1 k1 f1) (tB cy (ad 153) v2 n2 z2 k2 f2) (zOut cy ao fo) (zOuD cy aod fd) Y) X')) (zpM _ _ _ _ _ _) (List.Sublist.refl _) ?_
    refine g_vi (ws' := (zW cy adM shM (z_rend cy ad X' 0 shC ++ ((tB cy (ad 152) v1 n1 z1 k1 f1) ++ ((tB cy (ad 153) v2 n2 z2 k2 f2) ++ [(zOut cy ao fo), (zOuD cy aod fd)]))) Y')) (As := [.int (xs (6 * j + 1)), .int (xs (6 * j + 2)), .int (xs (6 * j + 3))]) (rest := []) (res := b9) C (c_X6_used l D cy adM (z_rend cy ad X' 0 shC ++ ((tB cy (ad 152) v1 n1 z1 k1 f1) ++ ((tB cy (ad 153) v2 n2 z2 k2 f2) ++ [(zOut cy ao fo), (zOuD cy aod fd)]))) Y (xs (6 * j + 1)) (xs (6 * j + 2)) (xs (6 * j + 3)) e2) zml_RL_232 zcv_X6_used (zW_get Y sM_0) rfl rfl rfl ⟨Nat.le_of_ble_eq_true rfl, Nat.le_of_ble_eq_true rfl⟩ rfl rfl (Nat.le_of_ble_eq_true rfl) ⟨by show cells + 1 ≤ 603072; omega, by show slots + 6 ≤ 7194730; omega⟩ dL_law_2039 ?_
    refine g_istore (L' := [(7, .int b9), (6, .int (nI (i + 1))), (5, .int (nI (6 * j))), (4, .ref aod), (3, .ref ao), (2, .ref (adM 0)), (1, .ref (ad 0)), (0, .ref b)]) C dL_law_2042 (by decide) rfl ?_
    refine g_aload_n (j := 5) C dL_law_2044 rfl rfl ?_
    refine g_vi (ws' := (zW cy adM shM (z_rend cy ad X' 0 shC ++ ((tB cy (ad 152) v1 n1 z1 k1 f1) ++ ((tB cy (ad 153) v2 n2 z2 k2 f2) ++ [(zOut cy ao fo), (zOuD cy aod fd)]))) Y')) (As := []) (rest := []) (res := Y' 0 0) C (c_X6_thrown l D cy adM (z_rend cy ad X' 0 shC ++ ((tB cy (ad 152) v1 n1 z1 k1 f1) ++ ((tB cy (ad 153) v2 n2 z2 k2 f2) ++ [(zOut cy ao fo), (zOuD cy aod fd)]))) Y') zml_RL_155 zcv_X6_thrown (zW_get Y' sM_0) rfl rfl rfl ⟨Nat.le_of_ble_eq_true rfl, Nat.le_of_ble_eq_true rfl⟩ rfl rfl (Nat.le_of_ble_eq_true rfl) ⟨by show cells + 1 ≤ 603072; omega, by show slots + 6 ≤ 7194730; omega⟩ dL_law_2045 ?_
    refine zG.less (ws' := (zW cy ad shC (zLT cy adM (tB cy (ad 152) v1 n1 z1 k1 f1) (tB cy (ad 153) v2 n2 z2 k2 f2) (zOut cy ao fo) (zOuD cy aod fd) Y') X')) (l' := (zW cy adM shM (z_rend cy ad X' 0 shC ++ ((tB cy (ad 152) v1 n1 z1 k1 f1) ++ ((tB cy (ad 153) v2 n2 z2 k2 f2) ++ [(zOut cy ao fo), (zOuD cy aod fd)]))) Y')) (zpM _ _ _ _ _ _).symm (List.Sublist.refl _) ?_
    refine g_iload (j := 1) C dL_law_2048 rfl ?_
    refine g_icmp_eq C dL_law_2050 (tgt := 2055) (by decide) (fun _ => ?_) (fun h9 => absurd (e3.trans (congrArg nI (kx_31 i _ hi))) h9)
    refine g_iload (j := 1) C dL_law_2055 rfl ?_
    refine g_if_ne C dL_law_2057 (tgt := 2072) (by decide) (fun _ => ?_) (fun h9 => absurd h9 (nIs_ne0 (getE_lt hi (by decide))))
    refine g_goto C dL_law_2072 (tgt := 2819) (by decide) ?_
    refine zG.wide (k := cells + 200) (n := slots + 3200) (by omega) (by omega) ?_
    refine zG_sub (L' := [(5, .int (nI (6 * j))), (4, .ref aod), (3, .ref ao), (2, .ref (adM 0)), (1, .ref (ad 0)), (0, .ref b)]) [2, 3, 4, 5, 6, 7] rfl ?_
    exact kk _ ⟨v1, n1, k1, z1, f1, t1, v2, n2, k2, z2, f2, t2, fo, fd, X', Y', a', rfl, hP.step e5 e6⟩
end LAWC
