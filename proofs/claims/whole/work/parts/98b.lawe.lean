/-! THE LAW'S CASES with texts, doubles, and save (laid by wip/whole/mklaw2.py) -/
theorem oc_use (X : Nat → Nat → Int32) : oC [4] (f_X5_use X) := by
  unfold f_X5_use
  exact oC.bind (fun _ => oC.ite (oC.some (Or.inr (by decide))) (oC.bind (fun _ => oC.some (Or.inl rfl))))
theorem kx_ap : ∀ i c, ([1, 2] : List Nat)[i]? = some c → c = i + 1 := fun i c h => match i, h with
  | 0, h => by cases h; rfl
  | 1, h => by cases h; rfl
theorem vf_0 (f : Nat → UInt64) (x : UInt64) : vf_upd f 0 x (nI 0).toNatClampNeg = x := by rw [nI_clamp (by decide)]; exact if_pos rfl
theorem zcp_120 {n k : Nat} (hn : n ≤ 120) (hk : k < 60) : zcp n (k + 1) ≤ 120 := by
  by_cases h : k + 1 ≤ n
  · rw [show zcp n (k + 1) = n from if_pos h]; exact hn
  · rw [show zcp n (k + 1) = zcap n (k + 1) from if_neg h]
    unfold zcap
    split <;> omega
section LAWC
variable {p : Program} {l : Launch} {e : Env} {s : State} {m : MethodId} {args : Array Value} {below : List Frame} {meth : Method} {c : Code} {D : va_G} {A : Nat → Prop} {cells slots : Nat} {Q : State → Prop} {cy : Nat → ClassId} {ad adM : Nat → Nat} {ao aod b N : Nat} {xs : Nat → Int32}
theorem n_dnum {R : Room} {nL : Nat} {ws : va_W} {pc : Nat} {L : List (Nat × Value)} {st : List Value} {x y : UInt64} (h : x = y) (kk : zG p l e R s m args below meth c nL D A cells slots Q ws pc L (.double y :: st)) : zG p l e R s m args below meth c nL D A cells slots Q ws pc L (.double x :: st) := by
  rw [h]; exact kk
theorem zml_RL_273 : Cond.methodLink RL 273 yX5_save ∈ zAll := zg (z_t1 (List.mem_of_getElem? (i := 236) (by decide +kernel))) (by decide +kernel)
theorem zml_RL_276 : Cond.methodLink RL 276 yX6_save ∈ zAll := zg (z_t8 (List.mem_of_getElem? (i := 193) (by decide +kernel))) (by decide +kernel)
set_option maxRecDepth 100000 in
set_option maxHeartbeats 8000000 in
theorem law_save (C : zC p s m args meth c code 9 RL D (zTy cy) A) (hE : zEl A s s.heap) (hlt : l.stackTraces = false) (hX : va_X b N xs s s.heap) (hbl : b < s.heap.size) (hbA : ¬ A b) (j : Nat) (hj : 6 * j + 6 ≤ N) (hN : N ≤ 3072) (w : va_W) (hJ : zLJ cy ad adM ao aod w) (hc : cells + 200 ≤ 603072) (hs : slots + 3200 ≤ 7194730) (kk : ∀ w', zLJ cy ad adM ao aod w' → zG p l e room_1 s m args below meth c 9 D A (cells + 200) (slots + 3200) Q w' 2819 [(5, .int (nI (6 * j))), (4, .ref aod), (3, .ref ao), (2, .ref (adM 0)), (1, .ref (ad 0)), (0, .ref b)] []) : zG p l e room_1 s m args below meth c 9 D A cells slots Q w 2762 [(5, .int (nI (6 * j))), (4, .ref aod), (3, .ref ao), (2, .ref (adM 0)), (1, .ref (ad 0)), (0, .ref b)] [] := by
  obtain ⟨v1, n1, k1, z1, f1, t1, v2, n2, k2, z2, f2, t2, fo, fd, X, Y, a, rfl, hP⟩ := hJ
  obtain ⟨c9, v9, b9, X', Y', a', e1, e2, e3, e4, e5, e6⟩ := sim_save hP.1
  have h0 : (f_X5_save X).1 = 0 := rfl
  have hM := (c_X5_save l hlt D cy ad (zLT cy adM (tB cy (ad 152) v1 n1 z1 k1 f1) (tB cy (ad 153) v2 n2 z2 k2 f2) (zOut cy ao fo) (zOuD cy aod fd) Y) X).toY
  rw [Option.some.inj e1] at hM h0
  refine g_aload_n (j := 4) C dL_law_2762 rfl rfl ?_
  refine w_Yi (As := []) (rest := []) zTh_ge (zEw_th _ _ _ hE.1) C hM zml_RL_273 zcv_X5_save (zRec.of C (ci := 9) (q0 := 0) rfl (zW_get X sC_0)) rfl rfl ⟨Nat.le_of_ble_eq_true rfl, Nat.le_of_ble_eq_true rfl⟩ rfl rfl (Nat.le_of_ble_eq_true rfl) ⟨by show cells + 1 ≤ 603072; omega, by show slots + 6 ≤ 7194730; omega⟩ dL_law_2763 (fun code w hh hne => absurd (hh.1.trans h0) hne) (fun r w hh => ?_)
  obtain ⟨_, hv9, rfl⟩ := hh
  have hv9 : v9 = r := hv9.symm
  subst hv9
  refine g_aload_n (j := 3) C dL_law_2766 rfl rfl ?_
  refine zG.less (ws' := (zW cy adM shM (z_rend cy ad X' 0 shC ++ ((tB cy (ad 152) v1 n1 z1 k1 f1) ++ ((tB cy (ad 153) v2 n2 z2 k2 f2) ++ [(zOut cy ao fo), (zOuD cy aod fd)]))) Y)) (l' := (zW cy ad shC (zLT cy adM (tB cy (ad 152) v1 n1 z1 k1 f1) (tB cy (ad 153) v2 n2 z2 k2 f2) (zOut cy ao fo) (zOuD cy aod fd) Y) X')) (zpM _ _ _ _ _ _) (List.Sublist.refl _) ?_
  refine g_vi (ws' := (zW cy adM shM (z_rend cy ad X' 0 shC ++ ((tB cy (ad 152) v1 n1 z1 k1 f1) ++ ((tB cy (ad 153) v2 n2 z2 k2 f2) ++ [(zOut cy ao fo), (zOuD cy aod fd)]))) Y')) (As := []) (rest := [.int v9]) (res := b9) C (c_X6_save l D cy adM (z_rend cy ad X' 0 shC ++ ((tB cy (ad 152) v1 n1 z1 k1 f1) ++ ((tB cy (ad 153) v2 n2 z2 k2 f2) ++ [(zOut cy ao fo), (zOuD cy aod fd)]))) Y e2) zml_RL_276 zcv_X6_save (zW_get Y sM_0) rfl rfl rfl ⟨Nat.le_of_ble_eq_true rfl, Nat.le_of_ble_eq_true rfl⟩ rfl rfl (Nat.le_of_ble_eq_true rfl) ⟨by show cells + 1 ≤ 603072; omega, by show slots + 6 ≤ 7194730; omega⟩ dL_law_2767 ?_
  refine zG.less (ws' := (zW cy ad shC (zLT cy adM (tB cy (ad 152) v1 n1 z1 k1 f1) (tB cy (ad 153) v2 n2 z2 k2 f2) (zOut cy ao fo) (zOuD cy aod fd) Y') X')) (l' := (zW cy adM shM (z_rend cy ad X' 0 shC ++ ((tB cy (ad 152) v1 n1 z1 k1 f1) ++ ((tB cy (ad 153) v2 n2 z2 k2 f2) ++ [(zOut cy ao fo), (zOuD cy aod fd)]))) Y')) (zpM _ _ _ _ _ _).symm (List.Sublist.refl _) ?_
  refine g_icmp_eq C dL_law_2770 (tgt := 2819) (by decide) (fun _ => ?_) (fun h9 => absurd (e4 h0) h9)
  refine zG.wide (k := cells + 200) (n := slots + 3200) (by omega) (by omega) ?_
  refine zG_sub (L' := [(5, .int (nI (6 * j))), (4, .ref aod), (3, .ref ao), (2, .ref (adM 0)), (1, .ref (ad 0)), (0, .ref b)]) [0, 1, 2, 3, 4, 5] rfl ?_
  exact kk _ ⟨v1, n1, k1, z1, f1, t1, v2, n2, k2, z2, f2, t2, fo, fd, X', Y', a', rfl, hP.step e5 e6⟩
theorem zml_RL_259 : Cond.methodLink RL 259 yX6_written ∈ zAll := zg (z_t8 (List.mem_of_getElem? (i := 133) (by decide +kernel))) (by decide +kernel)
set_option maxRecDepth 100000 in
set_option maxHeartbeats 8000000 in
theorem law_written (C : zC p s m args meth c code 9 RL D (zTy cy) A) (hE : zEl A s s.heap) (hlt : l.stackTraces = false) (hX : va_X b N xs s s.heap) (hbl : b < s.heap.size) (hbA : ¬ A b) (j : Nat) (hj : 6 * j + 6 ≤ N) (hN : N ≤ 3072) (w : va_W) (hJ : zLJ cy ad adM ao aod w) (hc : cells + 200 ≤ 603072) (hs : slots + 3200 ≤ 7194730) (kk : ∀ w', zLJ cy ad adM ao aod w' → zG p l e room_1 s m args below meth c 9 D A (cells + 200) (slots + 3200) Q w' 2819 [(5, .int (nI (6 * j))), (4, .ref aod), (3, .ref ao), (2, .ref (adM 0)), (1, .ref (ad 0)), (0, .ref b)] []) : zG p l e room_1 s m args below meth c 9 D A cells slots Q w 2516 [(5, .int (nI (6 * j))), (4, .ref aod), (3, .ref ao), (2, .ref (adM 0)), (1, .ref (ad 0)), (0, .ref b)] [] := by
  obtain ⟨v1, n1, k1, z1, f1, t1, v2, n2, k2, z2, f2, t2, fo, fd, X, Y, a, rfl, hP⟩ := hJ
  obtain ⟨b9, e2, e4⟩ := sim_written hP.2.2.1 hP.2.2.2.1 (xs (6 * j + 1))
  have hM := c_X5_written l hlt D cy ad ((tB cy (ad 152) v1 n1 z1 k1 f1) ++ ((zOut cy ao fo) :: (zOuD cy aod fd) :: z_rend cy adM Y 0 shM)) X (xs (6 * j + 1)) v2 n2 k2 z2 f2 hP.2.2.2.2.2.1 (by have := hP.2.2.2.2.2.2.2; omega)
  obtain ⟨c9, v9, e1⟩ : ∃ c9 v9, f_X5_written k2 f2 (xs (6 * j + 1)) = (c9, v9) := ⟨_, _, rfl⟩
  have hcd : inC [3] c9 := by have h := oc_written k2 f2 (xs (6 * j + 1)); rw [e1] at h; exact h
  rw [e1] at hM e2 e4
  have hw := hw_written l D cy zE5_ge zEw_e5 _ (ad 0) _ (xs (6 * j + 1)) ao 156 fo 1 6 _ _ _ hM rfl rfl ⟨by decide, by decide⟩ (zW_get X sC_0) (fun v w hh => by obtain ⟨_, _, rfl⟩ := hh; exact zLW_o) (fun c w hh h0 => by obtain ⟨rfl, _⟩ := hh; simpa using hcd.ne h0)
  refine g_aload_n (j := 4) C dL_law_2516 rfl rfl ?_
  refine g_aload_n (j := 5) C dL_law_2517 rfl rfl ?_
  refine g_iload (j := 0) C dL_law_2518 rfl ?_
  refine g_iconst (v := (nI 1)) C dL_law_2520 (by decide) ?_
  refine g_iadd C dL_law_2521 ?_
  refine p_num (y := (nI (6 * j + 1))) (nI_add _ _) ?_
  refine n_sld C hX hbl hbA (nI_in (by omega) (by omega)) dL_law_2522 ?_
  refine p_num (y := (xs (6 * j + 1))) (by rw [nI_clamp (by omega)]) ?_
  refine g_aload_n (j := 2) C dL_law_2523 rfl rfl ?_
  refine zG.less (ws' := (zW cy ad shC ((tB cy (ad 153) v2 n2 z2 k2 f2) ++ ((tB cy (ad 152) v1 n1 z1 k1 f1) ++ ((zOut cy ao fo) :: (zOuD cy aod fd) :: z_rend cy adM Y 0 shM))) X)) (l' := (zW cy ad shC (zLT cy adM (tB cy (ad 152) v1 n1 z1 k1 f1) (tB cy (ad 153) v2 n2 z2 k2 f2) (zOut cy ao fo) (zOuD cy aod fd) Y) X)) (zpB _ _ _ _) (List.Sublist.refl _) ?_
  refine t_SWi (As := [.ref (ad 0), .int (xs (6 * j + 1)), .ref ao]) (rest := []) zEw_ge hE.1 C hw zcw_written rfl rfl ⟨Nat.le_of_ble_eq_true rfl, Nat.le_of_ble_eq_true rfl⟩ rfl rfl (Nat.le_of_ble_eq_true rfl) ⟨by show cells + 1 ≤ 603072; omega, by show slots + 6 ≤ 7194730; omega⟩ dL_law_2524 ?_
  intro r w hr9
  rcases hr9 with ⟨rfl, v', w1, ⟨h0, hv9, rfl⟩, rfl⟩ | ⟨i, c', hi, ⟨rfl, rfl⟩, hne, rfl⟩
  · skip
    have hv9 : v9 = v' := hv9.symm
    subst hv9
    rw [show List.set _ 156 _ = (zW cy ad shC ((tB cy (ad 153) v2 n2 z2 k2 f2) ++ ((tB cy (ad 152) v1 n1 z1 k1 f1) ++ ((zOut cy ao (vp_updL fo 0 v9.toInt64)) :: (zOuD cy aod fd) :: z_rend cy adM Y 0 shM))) X) from zLW_so]
    have h0 : c9 = 0 := h0
    obtain ⟨Y', hY⟩ : ∃ Y', Y' = zU Y 0 0 (nI (Ku c9)) := ⟨_, rfl⟩
    rw [← hY] at e2
    have e3 : Y' 0 0 = nI (Ku c9) := by rw [hY]; exact zU_s _ _ _ _
    refine zG.less (ws' := (zW cy ad shC (zLT cy adM (tB cy (ad 152) v1 n1 z1 k1 f1) (tB cy (ad 153) v2 n2 z2 k2 f2) (zOut cy ao (vp_updL fo 0 v9.toInt64)) (zOuD cy aod fd) Y) X)) (l' := (zW cy ad shC ((tB cy (ad 153) v2 n2 z2 k2 f2) ++ ((tB cy (ad 152) v1 n1 z1 k1 f1) ++ ((zOut cy ao (vp_updL fo 0 v9.toInt64)) :: (zOuD cy aod fd) :: z_rend cy adM Y 0 shM))) X)) (zpB _ _ _ _).symm (List.Sublist.refl _) ?_
    refine g_istore (L' := [(6, .int (nI 0)), (5, .int (nI (6 * j))), (4, .ref aod), (3, .ref ao), (2, .ref (adM 0)), (1, .ref (ad 0)), (0, .ref b)]) C dL_law_2527 (by decide) rfl ?_
    refine g_aload_n (j := 4) C dL_law_2529 rfl rfl ?_
    refine g_aload_n (j := 6) C dL_law_2530 rfl rfl ?_
    refine g_iload (j := 1) C dL_law_2531 rfl ?_
    refine g_iconst (v := (nI 1)) C dL_law_2533 (by decide) ?_
    refine g_iadd C dL_law_2534 ?_
    refine p_num (y := (nI (6 * j + 1))) (nI_add _ _) ?_
    refine n_sld C hX hbl hbA (nI_in (by omega) (by omega)) dL_law_2535 ?_
    refine p_num (y := (xs (6 * j + 1))) (by rw [nI_clamp (by omega)]) ?_
    refine zG.less (ws' := (zW cy adM shM (z_rend cy ad X 0 shC ++ ((tB cy (ad 152) v1 n1 z1 k1 f1) ++ ((tB cy (ad 153) v2 n2 z2 k2 f2) ++ [(zOut cy ao (vp_updL fo 0 v9.toInt64)), (zOuD cy aod fd)]))) Y)) (l' := (zW cy ad shC (zLT cy adM (tB cy (ad 152) v1 n1 z1 k1 f1) (tB cy (ad 153) v2 n2 z2 k2 f2) (zOut cy ao (vp_updL fo 0 v9.toInt64)) (zOuD cy aod fd) Y) X)) (zpM _ _ _ _ _ _) (List.Sublist.refl _) ?_
    refine g_vi (ws' := (zW cy adM shM (z_rend cy ad X 0 shC ++ ((tB cy (ad 152) v1 n1 z1 k1 f1) ++ ((tB cy (ad 153) v2 n2 z2 k2 f2) ++ [(zOut cy ao (vp_updL fo 0 v9.toInt64)), (zOuD cy aod fd)]))) Y')) (As := [.int (xs (6 * j + 1))]) (rest := []) (res := b9) C (c_X6_written l D cy adM (z_rend cy ad X 0 shC ++ ((tB cy (ad 152) v1 n1 z1 k1 f1) ++ ((tB cy (ad 153) v2 n2 z2 k2 f2) ++ [(zOut cy ao (vp_updL fo 0 v9.toInt64)), (zOuD cy aod fd)]))) Y (xs (6 * j + 1)) e2) zml_RL_259 zcv_X6_written (zW_get Y sM_0) rfl rfl rfl ⟨Nat.le_of_ble_eq_true rfl, Nat.le_of_ble_eq_true rfl⟩ rfl rfl (Nat.le_of_ble_eq_true rfl) ⟨by show cells + 1 ≤ 603072; omega, by show slots + 6 ≤ 7194730; omega⟩ dL_law_2536 ?_
    refine g_istore (L' := [(7, .int b9), (6, .int (nI 0)), (5, .int (nI (6 * j))), (4, .ref aod), (3, .ref ao), (2, .ref (adM 0)), (1, .ref (ad 0)), (0, .ref b)]) C dL_law_2539 (by decide) rfl ?_
    refine g_aload_n (j := 5) C dL_law_2541 rfl rfl ?_
    refine g_vi (ws' := (zW cy adM shM (z_rend cy ad X 0 shC ++ ((tB cy (ad 152) v1 n1 z1 k1 f1) ++ ((tB cy (ad 153) v2 n2 z2 k2 f2) ++ [(zOut cy ao (vp_updL fo 0 v9.toInt64)), (zOuD cy aod fd)]))) Y')) (As := []) (rest := []) (res := Y' 0 0) C (c_X6_thrown l D cy adM (z_rend cy ad X 0 shC ++ ((tB cy (ad 152) v1 n1 z1 k1 f1) ++ ((tB cy (ad 153) v2 n2 z2 k2 f2) ++ [(zOut cy ao (vp_updL fo 0 v9.toInt64)), (zOuD cy aod fd)]))) Y') zml_RL_155 zcv_X6_thrown (zW_get Y' sM_0) rfl rfl rfl ⟨Nat.le_of_ble_eq_true rfl, Nat.le_of_ble_eq_true rfl⟩ rfl rfl (Nat.le_of_ble_eq_true rfl) ⟨by show cells + 1 ≤ 603072; omega, by show slots + 6 ≤ 7194730; omega⟩ dL_law_2542 ?_
    refine zG.less (ws' := (zW cy ad shC (zLT cy adM (tB cy (ad 152) v1 n1 z1 k1 f1) (tB cy (ad 153) v2 n2 z2 k2 f2) (zOut cy ao (vp_updL fo 0 v9.toInt64)) (zOuD cy aod fd) Y') X)) (l' := (zW cy adM shM (z_rend cy ad X 0 shC ++ ((tB cy (ad 152) v1 n1 z1 k1 f1) ++ ((tB cy (ad 153) v2 n2 z2 k2 f2) ++ [(zOut cy ao (vp_updL fo 0 v9.toInt64)), (zOuD cy aod fd)]))) Y')) (zpM _ _ _ _ _ _).symm (List.Sublist.refl _) ?_
    refine g_iload (j := 1) C dL_law_2545 rfl ?_
    refine g_icmp_eq C dL_law_2547 (tgt := 2552) (by decide) (fun _ => ?_) (fun h9 => absurd (e3.trans (by rw [h0]; rfl)) h9)
    refine g_iload (j := 1) C dL_law_2552 rfl ?_
    refine g_if_ne C dL_law_2554 (tgt := 2569) (by decide) (fun h9 => absurd nI_0 h9) (fun _ => ?_)
    refine g_aload_n (j := 4) C dL_law_2557 rfl rfl ?_
    refine g_iconst (v := (nI 0)) C dL_law_2558 (by decide) ?_
    refine n_lald (q0 := 156) (n := 1) C zLW_o (nI_in (by decide) (by decide)) dL_law_2559 ?_
    refine g_iload (j := 0) C dL_law_2560 rfl ?_
    refine n_i2l C dL_law_2562 ?_
    refine n_lcmp C dL_law_2563 ?_
    refine g_if_eq C dL_law_2564 (tgt := 2569) (by decide) (fun _ => ?_) (fun h9 => absurd (lg_cmp_rf ((updL_0 _ _).trans (congrArg Int32.toInt64 (e4 h0)))) h9)
    refine g_goto C dL_law_2569 (tgt := 2819) (by decide) ?_
    refine zG.wide (k := cells + 200) (n := slots + 3200) (by omega) (by omega) ?_
    refine zG_sub (L' := [(5, .int (nI (6 * j))), (4, .ref aod), (3, .ref ao), (2, .ref (adM 0)), (1, .ref (ad 0)), (0, .ref b)]) [2, 3, 4, 5, 6, 7] rfl ?_
    exact kk _ ⟨v1, n1, k1, z1, f1, t1, v2, n2, k2, z2, f2, t2, _, fd, X, Y', a, rfl, by rw [hY]; exact hP.step (hP.1.u0 _) (FY.u0 Y _).txt⟩
  · skip
    obtain ⟨Y', hY, e3⟩ : ∃ Y', f_X6_written Y (xs (6 * j + 1)) = some (b9, Y') ∧ (Y' 0 0 = nI (i + 1) ∧ Y' = zU Y 0 0 (nI (i + 1))) := ⟨_, e2, (zU_s _ _ _ _).trans (congrArg nI (kx_u3 i _ hi)), congrArg (fun x => zU Y 0 0 (nI x)) (kx_u3 i _ hi)⟩
    refine zG.less (ws' := (zW cy ad shC (zLT cy adM (tB cy (ad 152) v1 n1 z1 k1 f1) (tB cy (ad 153) v2 n2 z2 k2 f2) (zOut cy ao fo) (zOuD cy aod fd) Y) X)) (l' := (zW cy ad shC ((tB cy (ad 153) v2 n2 z2 k2 f2) ++ ((tB cy (ad 152) v1 n1 z1 k1 f1) ++ ((zOut cy ao fo) :: (zOuD cy aod fd) :: z_rend cy adM Y 0 shM))) X)) (zpB _ _ _ _).symm (List.Sublist.refl _) ?_
    refine g_istore (L' := [(6, .int (nI (i + 1))), (5, .int (nI (6 * j))), (4, .ref aod), (3, .ref ao), (2, .ref (adM 0)), (1, .ref (ad 0)), (0, .ref b)]) C dL_law_2527 (by decide) rfl ?_
    refine g_aload_n (j := 4) C dL_law_2529 rfl rfl ?_
    refine g_aload_n (j := 6) C dL_law_2530 rfl rfl ?_
    refine g_iload (j := 1) C dL_law_2531 rfl ?_
    refine g_iconst (v := (nI 1)) C dL_law_2533 (by decide) ?_
    refine g_iadd C dL_law_2534 ?_
    refine p_num (y := (nI (6 * j + 1))) (nI_add _ _) ?_
    refine n_sld C hX hbl hbA (nI_in (by omega) (by omega)) dL_law_2535 ?_
    refine p_num (y := (xs (6 * j + 1))) (by rw [nI_clamp (by omega)]) ?_
    refine zG.less (ws' := (zW cy adM shM (z_rend cy ad X 0 shC ++ ((tB cy (ad 152) v1 n1 z1 k1 f1) ++ ((tB cy (ad 153) v2 n2 z2 k2 f2) ++ [(zOut cy ao fo), (zOuD cy aod fd)]))) Y)) (l' := (zW cy ad shC (zLT cy adM (tB cy (ad 152) v1 n1 z1 k1 f1) (tB cy (ad 153) v2 n2 z2 k2 f2) (zOut cy ao fo) (zOuD cy aod fd) Y) X)) (zpM _ _ _ _ _ _) (List.Sublist.refl _) ?_
    refine g_vi (ws' := (zW cy adM shM (z_rend cy ad X 0 shC ++ ((tB cy (ad 152) v1 n1 z1 k1 f1) ++ ((tB cy (ad 153) v2 n2 z2 k2 f2) ++ [(zOut cy ao fo), (zOuD cy aod fd)]))) Y')) (As := [.int (xs (6 * j + 1))]) (rest := []) (res := b9) C (c_X6_written l D cy adM (z_rend cy ad X 0 shC ++ ((tB cy (ad 152) v1 n1 z1 k1 f1) ++ ((tB cy (ad 153) v2 n2 z2 k2 f2) ++ [(zOut cy ao fo), (zOuD cy aod fd)]))) Y (xs (6 * j + 1)) hY) zml_RL_259 zcv_X6_written (zW_get Y sM_0) rfl rfl rfl ⟨Nat.le_of_ble_eq_true rfl, Nat.le_of_ble_eq_true rfl⟩ rfl rfl (Nat.le_of_ble_eq_true rfl) ⟨by show cells + 1 ≤ 603072; omega, by show slots + 6 ≤ 7194730; omega⟩ dL_law_2536 ?_
    refine g_istore (L' := [(7, .int b9), (6, .int (nI (i + 1))), (5, .int (nI (6 * j))), (4, .ref aod), (3, .ref ao), (2, .ref (adM 0)), (1, .ref (ad 0)), (0, .ref b)]) C dL_law_2539 (by decide) rfl ?_
    refine g_aload_n (j := 5) C dL_law_2541 rfl rfl ?_
    refine g_vi (ws' := (zW cy adM shM (z_rend cy ad X 0 shC ++ ((tB cy (ad 152) v1 n1 z1 k1 f1) ++ ((tB cy (ad 153) v2 n2 z2 k2 f2) ++ [(zOut cy ao fo), (zOuD cy aod fd)]))) Y')) (As := []) (rest := []) (res := Y' 0 0) C (c_X6_thrown l D cy adM (z_rend cy ad X 0 shC ++ ((tB cy (ad 152) v1 n1 z1 k1 f1) ++ ((tB cy (ad 153) v2 n2 z2 k2 f2) ++ [(zOut cy ao fo), (zOuD cy aod fd)]))) Y') zml_RL_155 zcv_X6_thrown (zW_get Y' sM_0) rfl rfl rfl ⟨Nat.le_of_ble_eq_true rfl, Nat.le_of_ble_eq_true rfl⟩ rfl rfl (Nat.le_of_ble_eq_true rfl) ⟨by show cells + 1 ≤ 603072; omega, by show slots + 6 ≤ 7194730; omega⟩ dL_law_2542 ?_
    refine zG.less (ws' := (zW cy ad shC (zLT cy adM (tB cy (ad 152) v1 n1 z1 k1 f1) (tB cy (ad 153) v2 n2 z2 k2 f2) (zOut cy ao fo) (zOuD cy aod fd) Y') X)) (l' := (zW cy adM shM (z_rend cy ad X 0 shC ++ ((tB cy (ad 152) v1 n1 z1 k1 f1) ++ ((tB cy (ad 153) v2 n2 z2 k2 f2) ++ [(zOut cy ao fo), (zOuD cy aod fd)]))) Y')) (zpM _ _ _ _ _ _).symm (List.Sublist.refl _) ?_
    refine g_iload (j := 1) C dL_law_2545 rfl ?_
    refine g_icmp_eq C dL_law_2547 (tgt := 2552) (by decide) (fun _ => ?_) (fun h9 => absurd e3.1 h9)
    refine g_iload (j := 1) C dL_law_2552 rfl ?_
    refine g_if_ne C dL_law_2554 (tgt := 2569) (by decide) (fun _ => ?_) (fun h9 => absurd h9 (nIs_ne0 (getE_lt hi (by decide))))
    refine g_goto C dL_law_2569 (tgt := 2819) (by decide) ?_
    refine zG.wide (k := cells + 200) (n := slots + 3200) (by omega) (by omega) ?_
    refine zG_sub (L' := [(5, .int (nI (6 * j))), (4, .ref aod), (3, .ref ao), (2, .ref (adM 0)), (1, .ref (ad 0)), (0, .ref b)]) [2, 3, 4, 5, 6, 7] rfl ?_
    exact kk _ ⟨v1, n1, k1, z1, f1, t1, v2, n2, k2, z2, f2, t2, fo, fd, X, Y', a, rfl, by rw [e3.2]; exact hP.step (hP.1.u0 _) (FY.u0 Y _).txt⟩
theorem zml_RL_263 : Cond.methodLink RL 263 yX6_append ∈ zAll := zg (z_t8 (List.mem_of_getElem? (i := 137) (by decide +kernel))) (by decide +kernel)
set_option maxRecDepth 100000 in
set_option maxHeartbeats 8000000 in
theorem law_append (C : zC p s m args meth c code 9 RL D (zTy cy) A) (hE : zEl A s s.heap) (hlt : l.stackTraces = false) (hX : va_X b N xs s s.heap) (hbl : b < s.heap.size) (hbA : ¬ A b) (j : Nat) (hj : 6 * j + 6 ≤ N) (hN : N ≤ 3072) (w : va_W) (hJ : zLJ cy ad adM ao aod w) (hc : cells + 200 ≤ 603072) (hs : slots + 3200 ≤ 7194730) (kk : ∀ w', zLJ cy ad adM ao aod w' → zG p l e room_1 s m args below meth c 9 D A (cells + 200) (slots + 3200) Q w' 2819 [(5, .int (nI (6 * j))), (4, .ref aod), (3, .ref ao), (2, .ref (adM 0)), (1, .ref (ad 0)), (0, .ref b)] []) : zG p l e room_1 s m args below meth c 9 D A cells slots Q w 2572 [(5, .int (nI (6 * j))), (4, .ref aod), (3, .ref ao), (2, .ref (adM 0)), (1, .ref (ad 0)), (0, .ref b)] [] := by
  obtain ⟨v1, n1, k1, z1, f1, t1, v2, n2, k2, z2, f2, t2, fo, fd, X, Y, a, rfl, hP⟩ := hJ
  obtain ⟨c0, hc0, e0⟩ : ∃ c0, c0 < 65536 ∧ ((xs (6 * j + 1)).toUInt32 % 65536).toInt32 = nI c0 := ⟨_, Nat.mod_lt _ (by decide), pk_char _⟩
  obtain ⟨b9, Y', e2, hsim⟩ := sim_append hP.1 hP.2.1.1 hc0
  have hM := c_X5_append l hlt D cy ad ((tB cy (ad 153) v2 n2 z2 k2 f2) ++ ((zOut cy ao fo) :: (zOuD cy aod fd) :: z_rend cy adM Y 0 shM)) X c0 hc0 v1 n1 k1 z1 f1 t1 hP.2.1.2.1 hP.2.1.2.2.1 hP.2.1.2.2.2.1 (by have := hP.2.1.2.2.2.2; omega) hP.2.1.1.1
  have hw := hw_append l D cy zE5_ge zEw_e5 _ (ad 0) _ (nI c0) ao 156 fo 1 122 _ _ _ hM rfl rfl ⟨by decide, by decide⟩ (zW_get X sC_0) (fun v w hh => by obtain ⟨_, _, _, _, _, rfl, _, _⟩ := hh; exact zLW_o) (fun c w hh h0 => by obtain ⟨_, ⟨_, h1⟩ | ⟨_, _, h1⟩⟩ := hh; exact Or.inl h1; exact Or.inr h1)
  refine g_aload_n (j := 4) C dL_law_2572 rfl rfl ?_
  refine g_aload_n (j := 5) C dL_law_2573 rfl rfl ?_
  refine g_iload (j := 0) C dL_law_2574 rfl ?_
  refine g_iconst (v := (nI 1)) C dL_law_2576 (by decide) ?_
  refine g_iadd C dL_law_2577 ?_
  refine p_num (y := (nI (6 * j + 1))) (nI_add _ _) ?_
  refine n_sld C hX hbl hbA (nI_in (by omega) (by omega)) dL_law_2578 ?_
  refine p_num (y := (xs (6 * j + 1))) (by rw [nI_clamp (by omega)]) ?_
  refine g_i2c C dL_law_2579 e0 ?_
  refine g_aload_n (j := 2) C dL_law_2580 rfl rfl ?_
  refine t_SWi (As := [.ref (ad 0), .int (nI c0), .ref ao]) (rest := []) zEw_ge hE.1 C hw zcw_append rfl rfl ⟨Nat.le_of_ble_eq_true rfl, Nat.le_of_ble_eq_true rfl⟩ rfl rfl (Nat.le_of_ble_eq_true rfl) ⟨by show cells + 1 ≤ 603072; omega, by show slots + 122 ≤ 7194730; omega⟩ dL_law_2581 ?_
  intro r w hr9
  rcases hr9 with ⟨rfl, v', w1, ⟨hi9, hk9, rfl, v3, f3, rfl, hL3, hF3⟩, rfl⟩ | ⟨i, c', hi, ⟨rfl, hcs⟩, hne, rfl⟩
  · skip
    rw [show List.set _ 156 _ = (zW cy ad shC (zLT cy adM (tB cy (ad 152) v3 (zcp n1 (k1 + 1)) z1 (k1 + 1) f3) (tB cy (ad 153) v2 n2 z2 k2 f2) (zOut cy ao (vp_updL fo 0 (nI (k1 + 1)).toInt64)) (zOuD cy aod fd) Y) X) from zLW_so]
    obtain ⟨h1, h2, h3, h4, h5, h6⟩ : b9 = nI (k1 + 1) ∧ Y' 0 0 = nI 0 ∧ zInv 0 X Y' a ∧ zTIn (sb_cat t1 k1 (fun _ => c0)) (k1 + 1) Y' ∧ Y' 6 = Y 6 ∧ Y' 0 14 = Y 0 14 := by
      rcases hsim with ⟨h1, _⟩ | ⟨_, h1, _⟩ | ⟨_, _, h1⟩
      · exact absurd h1 hi9
      · exact absurd hk9 (by omega)
      · exact h1
    refine g_istore (L' := [(6, .int (nI 0)), (5, .int (nI (6 * j))), (4, .ref aod), (3, .ref ao), (2, .ref (adM 0)), (1, .ref (ad 0)), (0, .ref b)]) C dL_law_2584 (by decide) rfl ?_
    refine g_aload_n (j := 4) C dL_law_2586 rfl rfl ?_
    refine g_aload_n (j := 6) C dL_law_2587 rfl rfl ?_
    refine g_iload (j := 1) C dL_law_2588 rfl ?_
    refine g_iconst (v := (nI 1)) C dL_law_2590 (by decide) ?_
    refine g_iadd C dL_law_2591 ?_
    refine p_num (y := (nI (6 * j + 1))) (nI_add _ _) ?_
    refine n_sld C hX hbl hbA (nI_in (by omega) (by omega)) dL_law_2592 ?_
    refine p_num (y := (xs (6 * j + 1))) (by rw [nI_clamp (by omega)]) ?_
    refine g_i2c C dL_law_2593 e0 ?_
    refine zG.less (ws' := (zW cy adM shM (z_rend cy ad X 0 shC ++ ((tB cy (ad 152) v3 (zcp n1 (k1 + 1)) z1 (k1 + 1) f3) ++ ((tB cy (ad 153) v2 n2 z2 k2 f2) ++ [(zOut cy ao (vp_updL fo 0 (nI (k1 + 1)).toInt64)), (zOuD cy aod fd)]))) Y)) (l' := (zW cy ad shC (zLT cy adM (tB cy (ad 152) v3 (zcp n1 (k1 + 1)) z1 (k1 + 1) f3) (tB cy (ad 153) v2 n2 z2 k2 f2) (zOut cy ao (vp_updL fo 0 (nI (k1 + 1)).toInt64)) (zOuD cy aod fd) Y) X)) (zpM _ _ _ _ _ _) (List.Sublist.refl _) ?_
    refine g_vi (ws' := (zW cy adM shM (z_rend cy ad X 0 shC ++ ((tB cy (ad 152) v3 (zcp n1 (k1 + 1)) z1 (k1 + 1) f3) ++ ((tB cy (ad 153) v2 n2 z2 k2 f2) ++ [(zOut cy ao (vp_updL fo 0 (nI (k1 + 1)).toInt64)), (zOuD cy aod fd)]))) Y')) (As := [.int (nI c0)]) (rest := []) (res := b9) C (c_X6_append l D cy adM (z_rend cy ad X 0 shC ++ ((tB cy (ad 152) v3 (zcp n1 (k1 + 1)) z1 (k1 + 1) f3) ++ ((tB cy (ad 153) v2 n2 z2 k2 f2) ++ [(zOut cy ao (vp_updL fo 0 (nI (k1 + 1)).toInt64)), (zOuD cy aod fd)]))) Y (nI c0) e2) zml_RL_263 zcv_X6_append (zW_get Y sM_0) rfl rfl rfl ⟨Nat.le_of_ble_eq_true rfl, Nat.le_of_ble_eq_true rfl⟩ rfl rfl (Nat.le_of_ble_eq_true rfl) ⟨by show cells + 1 ≤ 603072; omega, by show slots + 122 ≤ 7194730; omega⟩ dL_law_2594 ?_
    refine g_istore (L' := [(7, .int b9), (6, .int (nI 0)), (5, .int (nI (6 * j))), (4, .ref aod), (3, .ref ao), (2, .ref (adM 0)), (1, .ref (ad 0)), (0, .ref b)]) C dL_law_2597 (by decide) rfl ?_
    refine g_aload_n (j := 5) C dL_law_2599 rfl rfl ?_
    refine g_vi (ws' := (zW cy adM shM (z_rend cy ad X 0 shC ++ ((tB cy (ad 152) v3 (zcp n1 (k1 + 1)) z1 (k1 + 1) f3) ++ ((tB cy (ad 153) v2 n2 z2 k2 f2) ++ [(zOut cy ao (vp_updL fo 0 (nI (k1 + 1)).toInt64)), (zOuD cy aod fd)]))) Y')) (As := []) (rest := []) (res := Y' 0 0) C (c_X6_thrown l D cy adM (z_rend cy ad X 0 shC ++ ((tB cy (ad 152) v3 (zcp n1 (k1 + 1)) z1 (k1 + 1) f3) ++ ((tB cy (ad 153) v2 n2 z2 k2 f2) ++ [(zOut cy ao (vp_updL fo 0 (nI (k1 + 1)).toInt64)), (zOuD cy aod fd)]))) Y') zml_RL_155 zcv_X6_thrown (zW_get Y' sM_0) rfl rfl rfl ⟨Nat.le_of_ble_eq_true rfl, Nat.le_of_ble_eq_true rfl⟩ rfl rfl (Nat.le_of_ble_eq_true rfl) ⟨by show cells + 1 ≤ 603072; omega, by show slots + 122 ≤ 7194730; omega⟩ dL_law_2600 ?_
    refine zG.less (ws' := (zW cy ad shC (zLT cy adM (tB cy (ad 152) v3 (zcp n1 (k1 + 1)) z1 (k1 + 1) f3) (tB cy (ad 153) v2 n2 z2 k2 f2) (zOut cy ao (vp_updL fo 0 (nI (k1 + 1)).toInt64)) (zOuD cy aod fd) Y') X)) (l' := (zW cy adM shM (z_rend cy ad X 0 shC ++ ((tB cy (ad 152) v3 (zcp n1 (k1 + 1)) z1 (k1 + 1) f3) ++ ((tB cy (ad 153) v2 n2 z2 k2 f2) ++ [(zOut cy ao (vp_updL fo 0 (nI (k1 + 1)).toInt64)), (zOuD cy aod fd)]))) Y')) (zpM _ _ _ _ _ _).symm (List.Sublist.refl _) ?_
    refine g_iload (j := 1) C dL_law_2603 rfl ?_
    refine g_icmp_eq C dL_law_2605 (tgt := 2610) (by decide) (fun _ => ?_) (fun h9 => absurd h2 h9)
    refine g_iload (j := 1) C dL_law_2610 rfl ?_
    refine g_if_ne C dL_law_2612 (tgt := 2627) (by decide) (fun h9 => absurd nI_0 h9) (fun _ => ?_)
    refine g_aload_n (j := 4) C dL_law_2615 rfl rfl ?_
    refine g_iconst (v := (nI 0)) C dL_law_2616 (by decide) ?_
    refine n_lald (q0 := 156) (n := 1) C zLW_o (nI_in (by decide) (by decide)) dL_law_2617 ?_
    refine g_iload (j := 0) C dL_law_2618 rfl ?_
    refine n_i2l C dL_law_2620 ?_
    refine n_lcmp C dL_law_2621 ?_
    refine g_if_eq C dL_law_2622 (tgt := 2627) (by decide) (fun _ => ?_) (fun h9 => absurd (lg_cmp_rf ((updL_0 _ _).trans (congrArg Int32.toInt64 h1.symm))) h9)
    refine g_goto C dL_law_2627 (tgt := 2819) (by decide) ?_
    refine zG.wide (k := cells + 200) (n := slots + 3200) (by omega) (by omega) ?_
    refine zG_sub (L' := [(5, .int (nI (6 * j))), (4, .ref aod), (3, .ref ao), (2, .ref (adM 0)), (1, .ref (ad 0)), (0, .ref b)]) [2, 3, 4, 5, 6, 7] rfl ?_
    exact kk _ ⟨v3, zcp n1 (k1 + 1), k1 + 1, z1, f3, sb_cat t1 k1 (fun _ => c0), v2, n2, k2, z2, f2, t2, _, fd, X, Y', a, rfl, h3, ⟨h4, hL3, hF3, (zcp_ge _ _).1, zcp_120 hP.2.1.2.2.2.2 hk9⟩, ⟨hP.2.2.1.txt h5 h6, hP.2.2.2⟩⟩
  · skip
    have hY : Y' = zU Y 0 0 (nI (i + 1)) := by
      have h9 := kx_ap i c' hi
      rcases hcs with ⟨h1, h2⟩ | ⟨h1, h3, h2⟩
      · rcases hsim with ⟨_, h4⟩ | ⟨h5, _⟩ | ⟨h5, _⟩
        · rw [h4, ← h9, h2]
        · exact absurd h1 h5
        · exact absurd h1 h5
      · rcases hsim with ⟨h5, _⟩ | ⟨_, _, h4⟩ | ⟨_, h5, _⟩
        · exact absurd h5 h1
        · rw [h4, ← h9, h2]
        · exact absurd h5 (by omega)
    have e3 : Y' 0 0 = nI (i + 1) := by rw [hY]; exact zU_s _ _ _ _
    refine g_istore (L' := [(6, .int (nI (i + 1))), (5, .int (nI (6 * j))), (4, .ref aod), (3, .ref ao), (2, .ref (adM 0)), (1, .ref (ad 0)), (0, .ref b)]) C dL_law_2584 (by decide) rfl ?_
    refine g_aload_n (j := 4) C dL_law_2586 rfl rfl ?_
    refine g_aload_n (j := 6) C dL_law_2587 rfl rfl ?_
    refine g_iload (j := 1) C dL_law_2588 rfl ?_
    refine g_iconst (v := (nI 1)) C dL_law_2590 (by decide) ?_
    refine g_iadd C dL_law_2591 ?_
    refine p_num (y := (nI (6 * j + 1))) (nI_add _ _) ?_
    refine n_sld C hX hbl hbA (nI_in (by omega) (by omega)) dL_law_2592 ?_
    refine p_num (y := (xs (6 * j + 1))) (by rw [nI_clamp (by omega)]) ?_
    refine g_i2c C dL_law_2593 e0 ?_
    refine zG.less (ws' := (zW cy adM shM (z_rend cy ad X 0 shC ++ ((tB cy (ad 152) v1 n1 z1 k1 f1) ++ ((tB cy (ad 153) v2 n2 z2 k2 f2) ++ [(zOut cy ao fo), (zOuD cy aod fd)]))) Y)) (l' := (zW cy ad shC (zLT cy adM (tB cy (ad 152) v1 n1 z1 k1 f1) (tB cy (ad 153) v2 n2 z2 k2 f2) (zOut cy ao fo) (zOuD cy aod fd) Y) X)) (zpM _ _ _ _ _ _) (List.Sublist.refl _) ?_
    refine g_vi (ws' := (zW cy adM shM (z_rend cy ad X 0 shC ++ ((tB cy (ad 152) v1 n1 z1 k1 f1) ++ ((tB cy (ad 153) v2 n2 z2 k2 f2) ++ [(zOut cy ao fo), (zOuD cy aod fd)]))) Y')) (As := [.int (nI c0)]) (rest := []) (res := b9) C (c_X6_append l D cy adM (z_rend cy ad X 0 shC ++ ((tB cy (ad 152) v1 n1 z1 k1 f1) ++ ((tB cy (ad 153) v2 n2 z2 k2 f2) ++ [(zOut cy ao fo), (zOuD cy aod fd)]))) Y (nI c0) e2) zml_RL_263 zcv_X6_append (zW_get Y sM_0) rfl rfl rfl ⟨Nat.le_of_ble_eq_true rfl, Nat.le_of_ble_eq_true rfl⟩ rfl rfl (Nat.le_of_ble_eq_true rfl) ⟨by show cells + 1 ≤ 603072; omega, by show slots + 122 ≤ 7194730; omega⟩ dL_law_2594 ?_
    refine g_istore (L' := [(7, .int b9), (6, .int (nI (i + 1))), (5, .int (nI (6 * j))), (4, .ref aod), (3, .ref ao), (2, .ref (adM 0)), (1, .ref (ad 0)), (0, .ref b)]) C dL_law_2597 (by decide) rfl ?_
    refine g_aload_n (j := 5) C dL_law_2599 rfl rfl ?_
    refine g_vi (ws' := (zW cy adM shM (z_rend cy ad X 0 shC ++ ((tB cy (ad 152) v1 n1 z1 k1 f1) ++ ((tB cy (ad 153) v2 n2 z2 k2 f2) ++ [(zOut cy ao fo), (zOuD cy aod fd)]))) Y')) (As := []) (rest := []) (res := Y' 0 0) C (c_X6_thrown l D cy adM (z_rend cy ad X 0 shC ++ ((tB cy (ad 152) v1 n1 z1 k1 f1) ++ ((tB cy (ad 153) v2 n2 z2 k2 f2) ++ [(zOut cy ao fo), (zOuD cy aod fd)]))) Y') zml_RL_155 zcv_X6_thrown (zW_get Y' sM_0) rfl rfl rfl ⟨Nat.le_of_ble_eq_true rfl, Nat.le_of_ble_eq_true rfl⟩ rfl rfl (Nat.le_of_ble_eq_true rfl) ⟨by show cells + 1 ≤ 603072; omega, by show slots + 122 ≤ 7194730; omega⟩ dL_law_2600 ?_
    refine zG.less (ws' := (zW cy ad shC (zLT cy adM (tB cy (ad 152) v1 n1 z1 k1 f1) (tB cy (ad 153) v2 n2 z2 k2 f2) (zOut cy ao fo) (zOuD cy aod fd) Y') X)) (l' := (zW cy adM shM (z_rend cy ad X 0 shC ++ ((tB cy (ad 152) v1 n1 z1 k1 f1) ++ ((tB cy (ad 153) v2 n2 z2 k2 f2) ++ [(zOut cy ao fo), (zOuD cy aod fd)]))) Y')) (zpM _ _ _ _ _ _).symm (List.Sublist.refl _) ?_
    refine g_iload (j := 1) C dL_law_2603 rfl ?_
    refine g_icmp_eq C dL_law_2605 (tgt := 2610) (by decide) (fun _ => ?_) (fun h9 => absurd e3 h9)
    refine g_iload (j := 1) C dL_law_2610 rfl ?_
    refine g_if_ne C dL_law_2612 (tgt := 2627) (by decide) (fun _ => ?_) (fun h9 => absurd h9 (nIs_ne0 (getE_lt hi (by decide))))
    refine g_goto C dL_law_2627 (tgt := 2819) (by decide) ?_
    refine zG.wide (k := cells + 200) (n := slots + 3200) (by omega) (by omega) ?_
    refine zG_sub (L' := [(5, .int (nI (6 * j))), (4, .ref aod), (3, .ref ao), (2, .ref (adM 0)), (1, .ref (ad 0)), (0, .ref b)]) [2, 3, 4, 5, 6, 7] rfl ?_
    exact kk _ ⟨v1, n1, k1, z1, f1, t1, v2, n2, k2, z2, f2, t2, fo, fd, X, Y', a, rfl, by rw [hY]; exact hP.step (hP.1.u0 _) (FY.u0 Y _).txt⟩
theorem zml_RL_266 : Cond.methodLink RL 266 yX6_perform ∈ zAll := zg (z_t8 (List.mem_of_getElem? (i := 141) (by decide +kernel))) (by decide +kernel)
set_option maxRecDepth 100000 in
set_option maxHeartbeats 8000000 in
theorem law_perform (C : zC p s m args meth c code 9 RL D (zTy cy) A) (hE : zEl A s s.heap) (hlt : l.stackTraces = false) (hX : va_X b N xs s s.heap) (hbl : b < s.heap.size) (hbA : ¬ A b) (j : Nat) (hj : 6 * j + 6 ≤ N) (hN : N ≤ 3072) (w : va_W) (hJ : zLJ cy ad adM ao aod w) (hc : cells + 200 ≤ 603072) (hs : slots + 3200 ≤ 7194730) (kk : ∀ w', zLJ cy ad adM ao aod w' → zG p l e room_1 s m args below meth c 9 D A (cells + 200) (slots + 3200) Q w' 2819 [(5, .int (nI (6 * j))), (4, .ref aod), (3, .ref ao), (2, .ref (adM 0)), (1, .ref (ad 0)), (0, .ref b)] []) : zG p l e room_1 s m args below meth c 9 D A cells slots Q w 2630 [(5, .int (nI (6 * j))), (4, .ref aod), (3, .ref ao), (2, .ref (adM 0)), (1, .ref (ad 0)), (0, .ref b)] [] := by
  obtain ⟨v1, n1, k1, z1, f1, t1, v2, n2, k2, z2, f2, t2, fo, fd, X, Y, a, rfl, hP⟩ := hJ
  obtain ⟨c9, v9, b9, X', Y', a', e1, e2, e3, e4, e5, e6, e7, e8⟩ := sim_perform hP.1 hP.2.1.1 hP.2.1.2.1
  have hcd : inC [1, 5] c9 := oc_perform k1 f1 X _ e1
  have hM := c_X5_perform l hlt D cy ad ((tB cy (ad 153) v2 n2 z2 k2 f2) ++ ((zOut cy ao fo) :: (zOuD cy aod fd) :: z_rend cy adM Y 0 shM)) X v1 n1 k1 z1 f1 hP.2.1.2.2.2.1 (by have := hP.2.1.2.2.2.2; omega) e1
  have hw := hw_perform l D cy zE5_ge zEw_e5 _ (ad 0) _ ao 156 fo 1 6 _ _ _ hM rfl rfl ⟨by decide, by decide⟩ (zW_get X sC_0) (fun v w hh => by obtain ⟨_, _, _, rfl⟩ := hh; exact zLW_o) (fun c w hh h0 => by obtain ⟨rfl, _⟩ := hh; simpa using hcd.ne h0)
  refine g_aload_n (j := 4) C dL_law_2630 rfl rfl ?_
  refine g_aload_n (j := 2) C dL_law_2631 rfl rfl ?_
  refine t_SWi (As := [.ref (ad 0), .ref ao]) (rest := []) zEw_ge hE.1 C hw zcw_perform rfl rfl ⟨Nat.le_of_ble_eq_true rfl, Nat.le_of_ble_eq_true rfl⟩ rfl rfl (Nat.le_of_ble_eq_true rfl) ⟨by show cells + 1 ≤ 603072; omega, by show slots + 6 ≤ 7194730; omega⟩ dL_law_2632 ?_
  intro r w hr9
  rcases hr9 with ⟨rfl, v', w1, ⟨h0, hv9, z3, rfl⟩, rfl⟩ | ⟨i, c', hi, ⟨rfl, z3, rfl⟩, hne, rfl⟩
  · skip
    have hv9 : v9 = v' := hv9.symm
    subst hv9
    rw [show List.set _ 156 _ = (zW cy ad shC (zLT cy adM (tB cy (ad 152) v1 n1 z3 0 f1) (tB cy (ad 153) v2 n2 z2 k2 f2) (zOut cy ao (vp_updL fo 0 v9.toInt64)) (zOuD cy aod fd) Y) X') from zLW_so]
    have h0 : c9 = 0 := h0
    refine g_istore (L' := [(6, .int (nI 0)), (5, .int (nI (6 * j))), (4, .ref aod), (3, .ref ao), (2, .ref (adM 0)), (1, .ref (ad 0)), (0, .ref b)]) C dL_law_2635 (by decide) rfl ?_
    refine g_aload_n (j := 4) C dL_law_2637 rfl rfl ?_
    refine zG.less (ws' := (zW cy adM shM (z_rend cy ad X' 0 shC ++ ((tB cy (ad 152) v1 n1 z3 0 f1) ++ ((tB cy (ad 153) v2 n2 z2 k2 f2) ++ [(zOut cy ao (vp_updL fo 0 v9.toInt64)), (zOuD cy aod fd)]))) Y)) (l' := (zW cy ad shC (zLT cy adM (tB cy (ad 152) v1 n1 z3 0 f1) (tB cy (ad 153) v2 n2 z2 k2 f2) (zOut cy ao (vp_updL fo 0 v9.toInt64)) (zOuD cy aod fd) Y) X')) (zpM _ _ _ _ _ _) (List.Sublist.refl _) ?_
    refine t_Vi (As := []) (rest := []) zEm_ge hE.2 C (c_X6_perform l D cy adM (z_rend cy ad X' 0 shC ++ ((tB cy (ad 152) v1 n1 z3 0 f1) ++ ((tB cy (ad 153) v2 n2 z2 k2 f2) ++ [(zOut cy ao (vp_updL fo 0 v9.toInt64)), (zOuD cy aod fd)]))) Y e2) zml_RL_266 zcv_X6_perform (zRec.of C (ci := 10) (q0 := 0) rfl (zW_get Y sM_0)) rfl rfl ⟨Nat.le_of_ble_eq_true rfl, Nat.le_of_ble_eq_true rfl⟩ rfl rfl (Nat.le_of_ble_eq_true rfl) ⟨by show cells + 1 + 0 ≤ 603072; omega, by show slots + 6 + 0 ≤ 7194730; omega⟩ dL_law_2638 ?_
    intro r6 w6 h6
    obtain ⟨h6, rfl⟩ := h6
    have h6 : b9 = r6 := h6.symm
    subst h6
    refine g_istore (L' := [(7, .int b9), (6, .int (nI 0)), (5, .int (nI (6 * j))), (4, .ref aod), (3, .ref ao), (2, .ref (adM 0)), (1, .ref (ad 0)), (0, .ref b)]) C dL_law_2641 (by decide) rfl ?_
    refine g_aload_n (j := 5) C dL_law_2643 rfl rfl ?_
    refine g_vi (ws' := (zW cy adM shM (z_rend cy ad X' 0 shC ++ ((tB cy (ad 152) v1 n1 z3 0 f1) ++ ((tB cy (ad 153) v2 n2 z2 k2 f2) ++ [(zOut cy ao (vp_updL fo 0 v9.toInt64)), (zOuD cy aod fd)]))) Y')) (As := []) (rest := []) (res := Y' 0 0) C (c_X6_thrown l D cy adM (z_rend cy ad X' 0 shC ++ ((tB cy (ad 152) v1 n1 z3 0 f1) ++ ((tB cy (ad 153) v2 n2 z2 k2 f2) ++ [(zOut cy ao (vp_updL fo 0 v9.toInt64)), (zOuD cy aod fd)]))) Y') zml_RL_155 zcv_X6_thrown (zW_get Y' sM_0) rfl rfl rfl ⟨Nat.le_of_ble_eq_true rfl, Nat.le_of_ble_eq_true rfl⟩ rfl rfl (Nat.le_of_ble_eq_true rfl) ⟨by show cells + 1 + 0 ≤ 603072; omega, by show slots + 6 + 0 ≤ 7194730; omega⟩ dL_law_2644 ?_
    refine zG.less (ws' := (zW cy ad shC (zLT cy adM (tB cy (ad 152) v1 n1 z3 0 f1) (tB cy (ad 153) v2 n2 z2 k2 f2) (zOut cy ao (vp_updL fo 0 v9.toInt64)) (zOuD cy aod fd) Y') X')) (l' := (zW cy adM shM (z_rend cy ad X' 0 shC ++ ((tB cy (ad 152) v1 n1 z3 0 f1) ++ ((tB cy (ad 153) v2 n2 z2 k2 f2) ++ [(zOut cy ao (vp_updL fo 0 v9.toInt64)), (zOuD cy aod fd)]))) Y')) (zpM _ _ _ _ _ _).symm (List.Sublist.refl _) ?_
    refine g_iload (j := 1) C dL_law_2647 rfl ?_
    refine g_icmp_eq C dL_law_2649 (tgt := 2654) (by decide) (fun _ => ?_) (fun h9 => absurd (e3.trans (by rw [h0]; rfl)) h9)
    refine g_iload (j := 1) C dL_law_2654 rfl ?_
    refine g_if_ne C dL_law_2656 (tgt := 2671) (by decide) (fun h9 => absurd nI_0 h9) (fun _ => ?_)
    refine g_aload_n (j := 4) C dL_law_2659 rfl rfl ?_
    refine g_iconst (v := (nI 0)) C dL_law_2660 (by decide) ?_
    refine n_lald (q0 := 156) (n := 1) C zLW_o (nI_in (by decide) (by decide)) dL_law_2661 ?_
    refine g_iload (j := 0) C dL_law_2662 rfl ?_
    refine n_i2l C dL_law_2664 ?_
    refine n_lcmp C dL_law_2665 ?_
    refine g_if_eq C dL_law_2666 (tgt := 2671) (by decide) (fun _ => ?_) (fun h9 => absurd (lg_cmp_rf ((updL_0 _ _).trans (congrArg Int32.toInt64 (e4 h0)))) h9)
    refine g_goto C dL_law_2671 (tgt := 2819) (by decide) ?_
    refine zG.wide (k := cells + 200) (n := slots + 3200) (by omega) (by omega) ?_
    refine zG_sub (L' := [(5, .int (nI (6 * j))), (4, .ref aod), (3, .ref ao), (2, .ref (adM 0)), (1, .ref (ad 0)), (0, .ref b)]) [2, 3, 4, 5, 6, 7] rfl ?_
    exact kk _ ⟨v1, n1, 0, z3, f1, t1, v2, n2, k2, z2, f2, t2, _, fd, X', Y', a', rfl, ⟨e5, ⟨⟨Nat.zero_le _, e6, fun j hj => absurd hj (Nat.not_lt_zero j)⟩, fun j hj => absurd hj (Nat.not_lt_zero j), hP.2.1.2.2.1, Nat.zero_le _, hP.2.1.2.2.2.2⟩, ⟨hP.2.2.1.txt e7 e8, hP.2.2.2⟩⟩⟩
  · skip
    refine g_istore (L' := [(6, .int (nI (i + 1))), (5, .int (nI (6 * j))), (4, .ref aod), (3, .ref ao), (2, .ref (adM 0)), (1, .ref (ad 0)), (0, .ref b)]) C dL_law_2635 (by decide) rfl ?_
    refine g_aload_n (j := 4) C dL_law_2637 rfl rfl ?_
    refine zG.less (ws' := (zW cy adM shM (z_rend cy ad X' 0 shC ++ ((tB cy (ad 152) v1 n1 z3 0 f1) ++ ((tB cy (ad 153) v2 n2 z2 k2 f2) ++ [(zOut cy ao fo), (zOuD cy aod fd)]))) Y)) (l' := (zW cy ad shC (zLT cy adM (tB cy (ad 152) v1 n1 z3 0 f1) (tB cy (ad 153) v2 n2 z2 k2 f2) (zOut cy ao fo) (zOuD cy aod fd) Y) X')) (zpM _ _ _ _ _ _) (List.Sublist.refl _) ?_
    refine t_Vi (As := []) (rest := []) zEm_ge hE.2 C (c_X6_perform l D cy adM (z_rend cy ad X' 0 shC ++ ((tB cy (ad 152) v1 n1 z3 0 f1) ++ ((tB cy (ad 153) v2 n2 z2 k2 f2) ++ [(zOut cy ao fo), (zOuD cy aod fd)]))) Y e2) zml_RL_266 zcv_X6_perform (zRec.of C (ci := 10) (q0 := 0) rfl (zW_get Y sM_0)) rfl rfl ⟨Nat.le_of_ble_eq_true rfl, Nat.le_of_ble_eq_true rfl⟩ rfl rfl (Nat.le_of_ble_eq_true rfl) ⟨by show cells + 1 + 0 ≤ 603072; omega, by show slots + 6 + 0 ≤ 7194730; omega⟩ dL_law_2638 ?_
    intro r6 w6 h6
    obtain ⟨h6, rfl⟩ := h6
    have h6 : b9 = r6 := h6.symm
    subst h6
    refine g_istore (L' := [(7, .int b9), (6, .int (nI (i + 1))), (5, .int (nI (6 * j))), (4, .ref aod), (3, .ref ao), (2, .ref (adM 0)), (1, .ref (ad 0)), (0, .ref b)]) C dL_law_2641 (by decide) rfl ?_
    refine g_aload_n (j := 5) C dL_law_2643 rfl rfl ?_
    refine g_vi (ws' := (zW cy adM shM (z_rend cy ad X' 0 shC ++ ((tB cy (ad 152) v1 n1 z3 0 f1) ++ ((tB cy (ad 153) v2 n2 z2 k2 f2) ++ [(zOut cy ao fo), (zOuD cy aod fd)]))) Y')) (As := []) (rest := []) (res := Y' 0 0) C (c_X6_thrown l D cy adM (z_rend cy ad X' 0 shC ++ ((tB cy (ad 152) v1 n1 z3 0 f1) ++ ((tB cy (ad 153) v2 n2 z2 k2 f2) ++ [(zOut cy ao fo), (zOuD cy aod fd)]))) Y') zml_RL_155 zcv_X6_thrown (zW_get Y' sM_0) rfl rfl rfl ⟨Nat.le_of_ble_eq_true rfl, Nat.le_of_ble_eq_true rfl⟩ rfl rfl (Nat.le_of_ble_eq_true rfl) ⟨by show cells + 1 + 0 ≤ 603072; omega, by show slots + 6 + 0 ≤ 7194730; omega⟩ dL_law_2644 ?_
    refine zG.less (ws' := (zW cy ad shC (zLT cy adM (tB cy (ad 152) v1 n1 z3 0 f1) (tB cy (ad 153) v2 n2 z2 k2 f2) (zOut cy ao fo) (zOuD cy aod fd) Y') X')) (l' := (zW cy adM shM (z_rend cy ad X' 0 shC ++ ((tB cy (ad 152) v1 n1 z3 0 f1) ++ ((tB cy (ad 153) v2 n2 z2 k2 f2) ++ [(zOut cy ao fo), (zOuD cy aod fd)]))) Y')) (zpM _ _ _ _ _ _).symm (List.Sublist.refl _) ?_
    refine g_iload (j := 1) C dL_law_2647 rfl ?_
    refine g_icmp_eq C dL_law_2649 (tgt := 2654) (by decide) (fun _ => ?_) (fun h9 => absurd (e3.trans (congrArg nI (kx_15 i _ hi))) h9)
    refine g_iload (j := 1) C dL_law_2654 rfl ?_
    refine g_if_ne C dL_law_2656 (tgt := 2671) (by decide) (fun _ => ?_) (fun h9 => absurd h9 (nIs_ne0 (getE_lt hi (by decide))))
    refine g_goto C dL_law_2671 (tgt := 2819) (by decide) ?_
    refine zG.wide (k := cells + 200) (n := slots + 3200) (by omega) (by omega) ?_
    refine zG_sub (L' := [(5, .int (nI (6 * j))), (4, .ref aod), (3, .ref ao), (2, .ref (adM 0)), (1, .ref (ad 0)), (0, .ref b)]) [2, 3, 4, 5, 6, 7] rfl ?_
    exact kk _ ⟨v1, n1, 0, z3, f1, t1, v2, n2, k2, z2, f2, t2, fo, fd, X', Y', a', rfl, ⟨e5, ⟨⟨Nat.zero_le _, e6, fun j hj => absurd hj (Nat.not_lt_zero j)⟩, fun j hj => absurd hj (Nat.not_lt_zero j), hP.2.1.2.2.1, Nat.zero_le _, hP.2.1.2.2.2.2⟩, ⟨hP.2.2.1.txt e7 e8, hP.2.2.2⟩⟩⟩
theorem zml_RL_256 : Cond.methodLink RL 256 yX6_write ∈ zAll := zg (z_t8 (List.mem_of_getElem? (i := 107) (by decide +kernel))) (by decide +kernel)
set_option maxRecDepth 100000 in
set_option maxHeartbeats 8000000 in
theorem law_write (C : zC p s m args meth c code 9 RL D (zTy cy) A) (hE : zEl A s s.heap) (hlt : l.stackTraces = false) (hX : va_X b N xs s s.heap) (hbl : b < s.heap.size) (hbA : ¬ A b) (j : Nat) (hj : 6 * j + 6 ≤ N) (hN : N ≤ 3072) (w : va_W) (hJ : zLJ cy ad adM ao aod w) (hc : cells + 200 ≤ 603072) (hs : slots + 3200 ≤ 7194730) (kk : ∀ w', zLJ cy ad adM ao aod w' → zG p l e room_1 s m args below meth c 9 D A (cells + 200) (slots + 3200) Q w' 2819 [(5, .int (nI (6 * j))), (4, .ref aod), (3, .ref ao), (2, .ref (adM 0)), (1, .ref (ad 0)), (0, .ref b)] []) : zG p l e room_1 s m args below meth c 9 D A cells slots Q w 2448 [(5, .int (nI (6 * j))), (4, .ref aod), (3, .ref ao), (2, .ref (adM 0)), (1, .ref (ad 0)), (0, .ref b)] [] := by
  obtain ⟨v1, n1, k1, z1, f1, t1, v2, n2, k2, z2, f2, t2, fo, fd, X, Y, a, rfl, hP⟩ := hJ
  obtain ⟨c9, ps, b9, Y', e1, hps, e2, e3, e4, e5⟩ := sim_write hP.1 (xs (6 * j + 1)) (xs (6 * j + 2))
  have hcd : inC [3, 1] c9 := oc_write X (xs (6 * j + 1)) (xs (6 * j + 2)) _ e1
  have hM := c_X5_write l hlt D cy ad ((tB cy (ad 152) v1 n1 z1 k1 f1) ++ ((zOut cy ao fo) :: (zOuD cy aod fd) :: z_rend cy adM Y 0 shM)) X (xs (6 * j + 1)) (xs (6 * j + 2)) v2 n2 k2 z2 f2 t2 hP.2.2.2.1 hP.2.2.2.2.1 hP.2.2.2.2.2.1 hP.2.2.2.2.2.2.1 hP.2.2.2.2.2.2.2 e1 hps
  have hw := hw_write l D cy zE5_ge zEw_e5 _ (ad 0) _ (xs (6 * j + 1)) (xs (6 * j + 2)) ao 156 fo 200 3200 _ _ _ hM rfl rfl ⟨by decide, by decide⟩ (zW_get X sC_0) (fun v w hh => by obtain ⟨_, _, _, _, _, _, rfl, _⟩ := hh; exact zLW_o) (fun c w hh h0 => by obtain ⟨rfl, _⟩ := hh; simpa using hcd.ne h0)
  refine g_aload_n (j := 4) C dL_law_2448 rfl rfl ?_
  refine g_aload_n (j := 5) C dL_law_2449 rfl rfl ?_
  refine g_iload (j := 0) C dL_law_2450 rfl ?_
  refine g_iconst (v := (nI 1)) C dL_law_2452 (by decide) ?_
  refine g_iadd C dL_law_2453 ?_
  refine p_num (y := (nI (6 * j + 1))) (nI_add _ _) ?_
  refine n_sld C hX hbl hbA (nI_in (by omega) (by omega)) dL_law_2454 ?_
  refine p_num (y := (xs (6 * j + 1))) (by rw [nI_clamp (by omega)]) ?_
  refine g_aload_n (j := 5) C dL_law_2455 rfl rfl ?_
  refine g_iload (j := 0) C dL_law_2456 rfl ?_
  refine g_iconst (v := (nI 2)) C dL_law_2458 (by decide) ?_
  refine g_iadd C dL_law_2459 ?_
  refine p_num (y := (nI (6 * j + 2))) (nI_add _ _) ?_
  refine n_sld C hX hbl hbA (nI_in (by omega) (by omega)) dL_law_2460 ?_
  refine p_num (y := (xs (6 * j + 2))) (by rw [nI_clamp (by omega)]) ?_
  refine g_aload_n (j := 2) C dL_law_2461 rfl rfl ?_
  refine zG.less (ws' := (zW cy ad shC ((tB cy (ad 153) v2 n2 z2 k2 f2) ++ ((tB cy (ad 152) v1 n1 z1 k1 f1) ++ ((zOut cy ao fo) :: (zOuD cy aod fd) :: z_rend cy adM Y 0 shM))) X)) (l' := (zW cy ad shC (zLT cy adM (tB cy (ad 152) v1 n1 z1 k1 f1) (tB cy (ad 153) v2 n2 z2 k2 f2) (zOut cy ao fo) (zOuD cy aod fd) Y) X)) (zpB _ _ _ _) (List.Sublist.refl _) ?_
  refine t_SWi (As := [.ref (ad 0), .int (xs (6 * j + 1)), .int (xs (6 * j + 2)), .ref ao]) (rest := []) zEw_ge hE.1 C hw zcw_write rfl rfl ⟨Nat.le_of_ble_eq_true rfl, Nat.le_of_ble_eq_true rfl⟩ rfl rfl (Nat.le_of_ble_eq_true rfl) ⟨by show cells + 200 ≤ 603072; omega, by show slots + 3200 ≤ 7194730; omega⟩ dL_law_2462 ?_
  intro r w hr9
  rcases hr9 with ⟨rfl, v', w1, ⟨h0, hv9, v3, n3, z3, f3, rfl, hL3, hF3, hk3, hn3, hn4⟩, rfl⟩ | ⟨i, c', hi, ⟨rfl, _, rfl⟩, hne, rfl⟩
  · skip
    have hv9 : nI (zlen ps) = v' := hv9.symm
    subst hv9
    rw [show List.set _ 156 _ = (zW cy ad shC ((tB cy (ad 153) v3 n3 z3 (zlen ps) f3) ++ ((tB cy (ad 152) v1 n1 z1 k1 f1) ++ ((zOut cy ao (vp_updL fo 0 (nI (zlen ps)).toInt64)) :: (zOuD cy aod fd) :: z_rend cy adM Y 0 shM))) X) from zLW_so]
    have h0 : c9 = 0 := h0
    obtain ⟨g1, g2, g3, g4, g5⟩ := e5 h0
    refine zG.less (ws' := (zW cy ad shC (zLT cy adM (tB cy (ad 152) v1 n1 z1 k1 f1) (tB cy (ad 153) v3 n3 z3 (zlen ps) f3) (zOut cy ao (vp_updL fo 0 (nI (zlen ps)).toInt64)) (zOuD cy aod fd) Y) X)) (l' := (zW cy ad shC ((tB cy (ad 153) v3 n3 z3 (zlen ps) f3) ++ ((tB cy (ad 152) v1 n1 z1 k1 f1) ++ ((zOut cy ao (vp_updL fo 0 (nI (zlen ps)).toInt64)) :: (zOuD cy aod fd) :: z_rend cy adM Y 0 shM))) X)) (zpB _ _ _ _).symm (List.Sublist.refl _) ?_
    refine g_istore (L' := [(6, .int (nI 0)), (5, .int (nI (6 * j))), (4, .ref aod), (3, .ref ao), (2, .ref (adM 0)), (1, .ref (ad 0)), (0, .ref b)]) C dL_law_2465 (by decide) rfl ?_
    refine g_aload_n (j := 4) C dL_law_2467 rfl rfl ?_
    refine g_aload_n (j := 6) C dL_law_2468 rfl rfl ?_
    refine g_iload (j := 1) C dL_law_2469 rfl ?_
    refine g_iconst (v := (nI 1)) C dL_law_2471 (by decide) ?_
    refine g_iadd C dL_law_2472 ?_
    refine p_num (y := (nI (6 * j + 1))) (nI_add _ _) ?_
    refine n_sld C hX hbl hbA (nI_in (by omega) (by omega)) dL_law_2473 ?_
    refine p_num (y := (xs (6 * j + 1))) (by rw [nI_clamp (by omega)]) ?_
    refine g_aload_n (j := 6) C dL_law_2474 rfl rfl ?_
    refine g_iload (j := 1) C dL_law_2475 rfl ?_
    refine g_iconst (v := (nI 2)) C dL_law_2477 (by decide) ?_
    refine g_iadd C dL_law_2478 ?_
    refine p_num (y := (nI (6 * j + 2))) (nI_add _ _) ?_
    refine n_sld C hX hbl hbA (nI_in (by omega) (by omega)) dL_law_2479 ?_
    refine p_num (y := (xs (6 * j + 2))) (by rw [nI_clamp (by omega)]) ?_
    refine zG.less (ws' := (zW cy adM shM (z_rend cy ad X 0 shC ++ ((tB cy (ad 152) v1 n1 z1 k1 f1) ++ ((tB cy (ad 153) v3 n3 z3 (zlen ps) f3) ++ [(zOut cy ao (vp_updL fo 0 (nI (zlen ps)).toInt64)), (zOuD cy aod fd)]))) Y)) (l' := (zW cy ad shC (zLT cy adM (tB cy (ad 152) v1 n1 z1 k1 f1) (tB cy (ad 153) v3 n3 z3 (zlen ps) f3) (zOut cy ao (vp_updL fo 0 (nI (zlen ps)).toInt64)) (zOuD cy aod fd) Y) X)) (zpM _ _ _ _ _ _) (List.Sublist.refl _) ?_
    refine t_Vi (As := [.int (xs (6 * j + 1)), .int (xs (6 * j + 2))]) (rest := []) zEm_ge hE.2 C (c_X6_write l D cy adM (z_rend cy ad X 0 shC ++ ((tB cy (ad 152) v1 n1 z1 k1 f1) ++ ((tB cy (ad 153) v3 n3 z3 (zlen ps) f3) ++ [(zOut cy ao (vp_updL fo 0 (nI (zlen ps)).toInt64)), (zOuD cy aod fd)]))) Y (xs (6 * j + 1)) (xs (6 * j + 2)) e2) zml_RL_256 zcv_X6_write (zRec.of C (ci := 10) (q0 := 0) rfl (zW_get Y sM_0)) rfl rfl ⟨Nat.le_of_ble_eq_true rfl, Nat.le_of_ble_eq_true rfl⟩ rfl rfl (Nat.le_of_ble_eq_true rfl) ⟨by show cells + 200 + 0 ≤ 603072; omega, by show slots + 3200 + 0 ≤ 7194730; omega⟩ dL_law_2480 ?_
    intro r6 w6 h6
    obtain ⟨h6, rfl⟩ := h6
    have h6 : b9 = r6 := h6.symm
    subst h6
    refine g_istore (L' := [(7, .int b9), (6, .int (nI 0)), (5, .int (nI (6 * j))), (4, .ref aod), (3, .ref ao), (2, .ref (adM 0)), (1, .ref (ad 0)), (0, .ref b)]) C dL_law_2483 (by decide) rfl ?_
    refine g_aload_n (j := 5) C dL_law_2485 rfl rfl ?_
    refine g_vi (ws' := (zW cy adM shM (z_rend cy ad X 0 shC ++ ((tB cy (ad 152) v1 n1 z1 k1 f1) ++ ((tB cy (ad 153) v3 n3 z3 (zlen ps) f3) ++ [(zOut cy ao (vp_updL fo 0 (nI (zlen ps)).toInt64)), (zOuD cy aod fd)]))) Y')) (As := []) (rest := []) (res := Y' 0 0) C (c_X6_thrown l D cy adM (z_rend cy ad X 0 shC ++ ((tB cy (ad 152) v1 n1 z1 k1 f1) ++ ((tB cy (ad 153) v3 n3 z3 (zlen ps) f3) ++ [(zOut cy ao (vp_updL fo 0 (nI (zlen ps)).toInt64)), (zOuD cy aod fd)]))) Y') zml_RL_155 zcv_X6_thrown (zW_get Y' sM_0) rfl rfl rfl ⟨Nat.le_of_ble_eq_true rfl, Nat.le_of_ble_eq_true rfl⟩ rfl rfl (Nat.le_of_ble_eq_true rfl) ⟨by show cells + 200 + 0 ≤ 603072; omega, by show slots + 3200 + 0 ≤ 7194730; omega⟩ dL_law_2486 ?_
    refine zG.less (ws' := (zW cy ad shC (zLT cy adM (tB cy (ad 152) v1 n1 z1 k1 f1) (tB cy (ad 153) v3 n3 z3 (zlen ps) f3) (zOut cy ao (vp_updL fo 0 (nI (zlen ps)).toInt64)) (zOuD cy aod fd) Y') X)) (l' := (zW cy adM shM (z_rend cy ad X 0 shC ++ ((tB cy (ad 152) v1 n1 z1 k1 f1) ++ ((tB cy (ad 153) v3 n3 z3 (zlen ps) f3) ++ [(zOut cy ao (vp_updL fo 0 (nI (zlen ps)).toInt64)), (zOuD cy aod fd)]))) Y')) (zpM _ _ _ _ _ _).symm (List.Sublist.refl _) ?_
    refine g_iload (j := 1) C dL_law_2489 rfl ?_
    refine g_icmp_eq C dL_law_2491 (tgt := 2496) (by decide) (fun _ => ?_) (fun h9 => absurd (e3.trans (by rw [h0]; rfl)) h9)
    refine g_iload (j := 1) C dL_law_2496 rfl ?_
    refine g_if_ne C dL_law_2498 (tgt := 2513) (by decide) (fun h9 => absurd nI_0 h9) (fun _ => ?_)
    refine g_aload_n (j := 4) C dL_law_2501 rfl rfl ?_
    refine g_iconst (v := (nI 0)) C dL_law_2502 (by decide) ?_
    refine n_lald (q0 := 156) (n := 1) C zLW_o (nI_in (by decide) (by decide)) dL_law_2503 ?_
    refine g_iload (j := 0) C dL_law_2504 rfl ?_
    refine n_i2l C dL_law_2506 ?_
    refine n_lcmp C dL_law_2507 ?_
    refine g_if_eq C dL_law_2508 (tgt := 2513) (by decide) (fun _ => ?_) (fun h9 => absurd (lg_cmp_rf ((updL_0 _ _).trans (congrArg Int32.toInt64 g1.symm))) h9)
    refine g_goto C dL_law_2513 (tgt := 2819) (by decide) ?_
    refine zG.wide (k := cells + 200) (n := slots + 3200) (by omega) (by omega) ?_
    refine zG_sub (L' := [(5, .int (nI (6 * j))), (4, .ref aod), (3, .ref ao), (2, .ref (adM 0)), (1, .ref (ad 0)), (0, .ref b)]) [2, 3, 4, 5, 6, 7] rfl ?_
    exact kk _ ⟨v1, n1, k1, z1, f1, t1, v3, n3, zlen ps, z3, f3, _, _, fd, X, Y', a, rfl, g2, ⟨hP.2.1.1.txt g4 g5, hP.2.1.2⟩, ⟨g3, hL3, hF3, hk3, hn3, hn4⟩⟩
  · skip
    refine zG.less (ws' := (zW cy ad shC (zLT cy adM (tB cy (ad 152) v1 n1 z1 k1 f1) (tB cy (ad 153) v2 n2 z2 k2 f2) (zOut cy ao fo) (zOuD cy aod fd) Y) X)) (l' := (zW cy ad shC ((tB cy (ad 153) v2 n2 z2 k2 f2) ++ ((tB cy (ad 152) v1 n1 z1 k1 f1) ++ ((zOut cy ao fo) :: (zOuD cy aod fd) :: z_rend cy adM Y 0 shM))) X)) (zpB _ _ _ _).symm (List.Sublist.refl _) ?_
    refine g_istore (L' := [(6, .int (nI (i + 1))), (5, .int (nI (6 * j))), (4, .ref aod), (3, .ref ao), (2, .ref (adM 0)), (1, .ref (ad 0)), (0, .ref b)]) C dL_law_2465 (by decide) rfl ?_
    refine g_aload_n (j := 4) C dL_law_2467 rfl rfl ?_
    refine g_aload_n (j := 6) C dL_law_2468 rfl rfl ?_
    refine g_iload (j := 1) C dL_law_2469 rfl ?_
    refine g_iconst (v := (nI 1)) C dL_law_2471 (by decide) ?_
    refine g_iadd C dL_law_2472 ?_
    refine p_num (y := (nI (6 * j + 1))) (nI_add _ _) ?_
    refine n_sld C hX hbl hbA (nI_in (by omega) (by omega)) dL_law_2473 ?_
    refine p_num (y := (xs (6 * j + 1))) (by rw [nI_clamp (by omega)]) ?_
    refine g_aload_n (j := 6) C dL_law_2474 rfl rfl ?_
    refine g_iload (j := 1) C dL_law_2475 rfl ?_
    refine g_iconst (v := (nI 2)) C dL_law_2477 (by decide) ?_
    refine g_iadd C dL_law_2478 ?_
    refine p_num (y := (nI (6 * j + 2))) (nI_add _ _) ?_
    refine n_sld C hX hbl hbA (nI_in (by omega) (by omega)) dL_law_2479 ?_
    refine p_num (y := (xs (6 * j + 2))) (by rw [nI_clamp (by omega)]) ?_
    refine zG.less (ws' := (zW cy adM shM (z_rend cy ad X 0 shC ++ ((tB cy (ad 152) v1 n1 z1 k1 f1) ++ ((tB cy (ad 153) v2 n2 z2 k2 f2) ++ [(zOut cy ao fo), (zOuD cy aod fd)]))) Y)) (l' := (zW cy ad shC (zLT cy adM (tB cy (ad 152) v1 n1 z1 k1 f1) (tB cy (ad 153) v2 n2 z2 k2 f2) (zOut cy ao fo) (zOuD cy aod fd) Y) X)) (zpM _ _ _ _ _ _) (List.Sublist.refl _) ?_
    refine t_Vi (As := [.int (xs (6 * j + 1)), .int (xs (6 * j + 2))]) (rest := []) zEm_ge hE.2 C (c_X6_write l D cy adM (z_rend cy ad X 0 shC ++ ((tB cy (ad 152) v1 n1 z1 k1 f1) ++ ((tB cy (ad 153) v2 n2 z2 k2 f2) ++ [(zOut cy ao fo), (zOuD cy aod fd)]))) Y (xs (6 * j + 1)) (xs (6 * j + 2)) e2) zml_RL_256 zcv_X6_write (zRec.of C (ci := 10) (q0 := 0) rfl (zW_get Y sM_0)) rfl rfl ⟨Nat.le_of_ble_eq_true rfl, Nat.le_of_ble_eq_true rfl⟩ rfl rfl (Nat.le_of_ble_eq_true rfl) ⟨by show cells + 200 + 0 ≤ 603072; omega, by show slots + 3200 + 0 ≤ 7194730; omega⟩ dL_law_2480 ?_
    intro r6 w6 h6
    obtain ⟨h6, rfl⟩ := h6
    have h6 : b9 = r6 := h6.symm
    subst h6
    refine g_istore (L' := [(7, .int b9), (6, .int (nI (i + 1))), (5, .int (nI (6 * j))), (4, .ref aod), (3, .ref ao), (2, .ref (adM 0)), (1, .ref (ad 0)), (0, .ref b)]) C dL_law_2483 (by decide) rfl ?_
    refine g_aload_n (j := 5) C dL_law_2485 rfl rfl ?_
    refine g_vi (ws' := (zW cy adM shM (z_rend cy ad X 0 shC ++ ((tB cy (ad 152) v1 n1 z1 k1 f1) ++ ((tB cy (ad 153) v2 n2 z2 k2 f2) ++ [(zOut cy ao fo), (zOuD cy aod fd)]))) Y')) (As := []) (rest := []) (res := Y' 0 0) C (c_X6_thrown l D cy adM (z_rend cy ad X 0 shC ++ ((tB cy (ad 152) v1 n1 z1 k1 f1) ++ ((tB cy (ad 153) v2 n2 z2 k2 f2) ++ [(zOut cy ao fo), (zOuD cy aod fd)]))) Y') zml_RL_155 zcv_X6_thrown (zW_get Y' sM_0) rfl rfl rfl ⟨Nat.le_of_ble_eq_true rfl, Nat.le_of_ble_eq_true rfl⟩ rfl rfl (Nat.le_of_ble_eq_true rfl) ⟨by show cells + 200 + 0 ≤ 603072; omega, by show slots + 3200 + 0 ≤ 7194730; omega⟩ dL_law_2486 ?_
    refine zG.less (ws' := (zW cy ad shC (zLT cy adM (tB cy (ad 152) v1 n1 z1 k1 f1) (tB cy (ad 153) v2 n2 z2 k2 f2) (zOut cy ao fo) (zOuD cy aod fd) Y') X)) (l' := (zW cy adM shM (z_rend cy ad X 0 shC ++ ((tB cy (ad 152) v1 n1 z1 k1 f1) ++ ((tB cy (ad 153) v2 n2 z2 k2 f2) ++ [(zOut cy ao fo), (zOuD cy aod fd)]))) Y')) (zpM _ _ _ _ _ _).symm (List.Sublist.refl _) ?_
    refine g_iload (j := 1) C dL_law_2489 rfl ?_
    refine g_icmp_eq C dL_law_2491 (tgt := 2496) (by decide) (fun _ => ?_) (fun h9 => absurd (e3.trans (congrArg nI (kx_31 i _ hi))) h9)
    refine g_iload (j := 1) C dL_law_2496 rfl ?_
    refine g_if_ne C dL_law_2498 (tgt := 2513) (by decide) (fun _ => ?_) (fun h9 => absurd h9 (nIs_ne0 (getE_lt hi (by decide))))
    refine g_goto C dL_law_2513 (tgt := 2819) (by decide) ?_
    refine zG.wide (k := cells + 200) (n := slots + 3200) (by omega) (by omega) ?_
    refine zG_sub (L' := [(5, .int (nI (6 * j))), (4, .ref aod), (3, .ref ao), (2, .ref (adM 0)), (1, .ref (ad 0)), (0, .ref b)]) [2, 3, 4, 5, 6, 7] rfl ?_
    exact kk _ ⟨v1, n1, k1, z1, f1, t1, v2, n2, k2, z2, f2, t2, fo, fd, X, Y', a, rfl, by rw [e4 hne]; exact hP.step (hP.1.u0 _) (FY.u0 Y _).txt⟩
theorem zml_RL_253 : Cond.methodLink RL 253 yX6_use ∈ zAll := zg (z_t8 (List.mem_of_getElem? (i := 103) (by decide +kernel))) (by decide +kernel)
set_option maxRecDepth 100000 in
set_option maxHeartbeats 8000000 in
theorem law_use (C : zC p s m args meth c code 9 RL D (zTy cy) A) (hE : zEl A s s.heap) (hlt : l.stackTraces = false) (hX : va_X b N xs s s.heap) (hbl : b < s.heap.size) (hbA : ¬ A b) (j : Nat) (hj : 6 * j + 6 ≤ N) (hN : N ≤ 3072) (w : va_W) (hJ : zLJ cy ad adM ao aod w) (hc : cells + 200 ≤ 603072) (hs : slots + 3200 ≤ 7194730) (kk : ∀ w', zLJ cy ad adM ao aod w' → zG p l e room_1 s m args below meth c 9 D A (cells + 200) (slots + 3200) Q w' 2819 [(5, .int (nI (6 * j))), (4, .ref aod), (3, .ref ao), (2, .ref (adM 0)), (1, .ref (ad 0)), (0, .ref b)] []) : zG p l e room_1 s m args below meth c 9 D A cells slots Q w 2383 [(5, .int (nI (6 * j))), (4, .ref aod), (3, .ref ao), (2, .ref (adM 0)), (1, .ref (ad 0)), (0, .ref b)] [] := by
  obtain ⟨v1, n1, k1, z1, f1, t1, v2, n2, k2, z2, f2, t2, fo, fd, X, Y, a, rfl, hP⟩ := hJ
  obtain ⟨c9, v9, b9, e1, e2, e4⟩ := sim_use hP.1
  have hcd : inC [4] c9 := oc_use X _ e1
  have hM := c_X5_use l hlt D cy ad (zLT cy adM (tB cy (ad 152) v1 n1 z1 k1 f1) (tB cy (ad 153) v2 n2 z2 k2 f2) (zOut cy ao fo) (zOuD cy aod fd) Y) X e1
  have hw := hw_use l D cy zE5_ge zEw_e5 _ (ad 0) _ aod 157 fd 1 6 _ _ _ hM rfl rfl ⟨by decide, by decide⟩ (zW_get X sC_0) (fun v w hh => by obtain ⟨_, _, rfl⟩ := hh; exact zLW_d) (fun c w hh h0 => by obtain ⟨rfl, _⟩ := hh; simpa using hcd.ne h0)
  refine g_aload_n (j := 4) C dL_law_2383 rfl rfl ?_
  refine g_aload (j := 1) C dL_law_2384 rfl ?_
  refine t_SWi (As := [.ref (ad 0), .ref aod]) (rest := []) zEw_ge hE.1 C hw zcw_use rfl rfl ⟨Nat.le_of_ble_eq_true rfl, Nat.le_of_ble_eq_true rfl⟩ rfl rfl (Nat.le_of_ble_eq_true rfl) ⟨by show cells + 1 ≤ 603072; omega, by show slots + 6 ≤ 7194730; omega⟩ dL_law_2386 ?_
  intro r w hr9
  rcases hr9 with ⟨rfl, v', w1, ⟨h0, hv9, rfl⟩, rfl⟩ | ⟨i, c', hi, ⟨rfl, rfl⟩, hne, rfl⟩
  · skip
    have h0 : c9 = 0 := h0
    have hv9 : b9 = v' := (hv9.trans (e4 h0)).symm
    subst hv9
    rw [show List.set _ 157 _ = (zW cy ad shC (zLT cy adM (tB cy (ad 152) v1 n1 z1 k1 f1) (tB cy (ad 153) v2 n2 z2 k2 f2) (zOut cy ao fo) (zOuD cy aod (vf_upd fd 0 b9)) Y) X) from zLW_sd]
    obtain ⟨Y', hY, e3⟩ : ∃ Y', f_X6_use Y = some (b9, Y') ∧ (Y' 0 0 = nI 0 ∧ Y' = zU Y 0 0 (nI 0)) := ⟨_, e2, (zU_s _ _ _ _).trans (by rw [h0]; rfl), by rw [h0]; rfl⟩
    refine g_istore (L' := [(6, .int (nI 0)), (5, .int (nI (6 * j))), (4, .ref aod), (3, .ref ao), (2, .ref (adM 0)), (1, .ref (ad 0)), (0, .ref b)]) C dL_law_2389 (by decide) rfl ?_
    refine g_aload_n (j := 4) C dL_law_2391 rfl rfl ?_
    refine zG.less (ws' := (zW cy adM shM (z_rend cy ad X 0 shC ++ ((tB cy (ad 152) v1 n1 z1 k1 f1) ++ ((tB cy (ad 153) v2 n2 z2 k2 f2) ++ [(zOut cy ao fo), (zOuD cy aod (vf_upd fd 0 b9))]))) Y)) (l' := (zW cy ad shC (zLT cy adM (tB cy (ad 152) v1 n1 z1 k1 f1) (tB cy (ad 153) v2 n2 z2 k2 f2) (zOut cy ao fo) (zOuD cy aod (vf_upd fd 0 b9)) Y) X)) (zpM _ _ _ _ _ _) (List.Sublist.refl _) ?_
    refine t_Vd (As := []) (rest := []) zEm_ge hE.2 C (c_X6_use l D cy adM (z_rend cy ad X 0 shC ++ ((tB cy (ad 152) v1 n1 z1 k1 f1) ++ ((tB cy (ad 153) v2 n2 z2 k2 f2) ++ [(zOut cy ao fo), (zOuD cy aod (vf_upd fd 0 b9))]))) Y hY) zml_RL_253 zcv_X6_use (zRec.of C (ci := 10) (q0 := 0) rfl (zW_get Y sM_0)) rfl rfl ⟨Nat.le_of_ble_eq_true rfl, Nat.le_of_ble_eq_true rfl⟩ rfl rfl (Nat.le_of_ble_eq_true rfl) ⟨by show cells + 1 + 0 ≤ 603072; omega, by show slots + 6 + 0 ≤ 7194730; omega⟩ dL_law_2392 ?_
    intro r6 w6 h6
    obtain ⟨h6, rfl⟩ := h6
    have h6 : b9 = r6 := h6.symm
    subst h6
    refine n_dstore (L' := [(7, .double b9), (6, .int (nI 0)), (5, .int (nI (6 * j))), (4, .ref aod), (3, .ref ao), (2, .ref (adM 0)), (1, .ref (ad 0)), (0, .ref b)]) C dL_law_2395 (by decide) rfl ?_
    refine g_aload_n (j := 5) C dL_law_2397 rfl rfl ?_
    refine g_vi (ws' := (zW cy adM shM (z_rend cy ad X 0 shC ++ ((tB cy (ad 152) v1 n1 z1 k1 f1) ++ ((tB cy (ad 153) v2 n2 z2 k2 f2) ++ [(zOut cy ao fo), (zOuD cy aod (vf_upd fd 0 b9))]))) Y')) (As := []) (rest := []) (res := Y' 0 0) C (c_X6_thrown l D cy adM (z_rend cy ad X 0 shC ++ ((tB cy (ad 152) v1 n1 z1 k1 f1) ++ ((tB cy (ad 153) v2 n2 z2 k2 f2) ++ [(zOut cy ao fo), (zOuD cy aod (vf_upd fd 0 b9))]))) Y') zml_RL_155 zcv_X6_thrown (zW_get Y' sM_0) rfl rfl rfl ⟨Nat.le_of_ble_eq_true rfl, Nat.le_of_ble_eq_true rfl⟩ rfl rfl (Nat.le_of_ble_eq_true rfl) ⟨by show cells + 1 + 0 ≤ 603072; omega, by show slots + 6 + 0 ≤ 7194730; omega⟩ dL_law_2398 ?_
    refine zG.less (ws' := (zW cy ad shC (zLT cy adM (tB cy (ad 152) v1 n1 z1 k1 f1) (tB cy (ad 153) v2 n2 z2 k2 f2) (zOut cy ao fo) (zOuD cy aod (vf_upd fd 0 b9)) Y') X)) (l' := (zW cy adM shM (z_rend cy ad X 0 shC ++ ((tB cy (ad 152) v1 n1 z1 k1 f1) ++ ((tB cy (ad 153) v2 n2 z2 k2 f2) ++ [(zOut cy ao fo), (zOuD cy aod (vf_upd fd 0 b9))]))) Y')) (zpM _ _ _ _ _ _).symm (List.Sublist.refl _) ?_
    refine g_iload (j := 1) C dL_law_2401 rfl ?_
    refine g_icmp_eq C dL_law_2403 (tgt := 2408) (by decide) (fun _ => ?_) (fun h9 => absurd e3.1 h9)
    refine g_iload (j := 1) C dL_law_2408 rfl ?_
    refine g_if_ne C dL_law_2410 (tgt := 2445) (by decide) (fun h9 => absurd nI_0 h9) (fun _ => ?_)
    refine g_aload (j := 3) C dL_law_2413 rfl ?_
    refine g_iconst (v := (nI 0)) C dL_law_2415 (by decide) ?_
    refine n_dald (q0 := 157) (n := 1) C zLW_d (nI_in (by decide) (by decide)) dL_law_2416 ?_
    refine n_dnum (y := b9) (vf_0 _ _) ?_
    refine n_dload (j := 0) C dL_law_2417 rfl ?_
    refine n_dcmp C dL_law_2419 ?_
    refine g_if_eq C dL_law_2420 (tgt := 2445) (by decide) (fun h9 => ?_) (fun h9 => ?_)
    · skip
      refine g_goto C dL_law_2445 (tgt := 2819) (by decide) ?_
      refine zG.wide (k := cells + 200) (n := slots + 3200) (by omega) (by omega) ?_
      refine zG_sub (L' := [(5, .int (nI (6 * j))), (4, .ref aod), (3, .ref ao), (2, .ref (adM 0)), (1, .ref (ad 0)), (0, .ref b)]) [2, 3, 4, 5, 6, 7] rfl ?_
      exact kk _ ⟨v1, n1, k1, z1, f1, t1, v2, n2, k2, z2, f2, t2, fo, _, X, Y', a, rfl, by rw [e3.2]; exact hP.step (hP.1.u0 _) (FY.u0 Y _).txt⟩
    · skip
      refine g_aload (j := 3) C dL_law_2423 rfl ?_
      refine g_iconst (v := (nI 0)) C dL_law_2425 (by decide) ?_
      refine n_dald (q0 := 157) (n := 1) C zLW_d (nI_in (by decide) (by decide)) dL_law_2426 ?_
      refine n_dnum (y := b9) (vf_0 _ _) ?_
      refine g_aload (j := 3) C dL_law_2427 rfl ?_
      refine g_iconst (v := (nI 0)) C dL_law_2429 (by decide) ?_
      refine n_dald (q0 := 157) (n := 1) C zLW_d (nI_in (by decide) (by decide)) dL_law_2430 ?_
      refine n_dnum (y := b9) (vf_0 _ _) ?_
      refine n_dcmp C dL_law_2431 ?_
      refine g_if_eq C dL_law_2432 (tgt := 2443) (by decide) (fun h8 => absurd h8 h9) (fun _ => ?_)
      refine n_dload (j := 0) C dL_law_2435 rfl ?_
      refine n_dload (j := 0) C dL_law_2437 rfl ?_
      refine n_dcmp C dL_law_2439 ?_
      refine g_if_ne C dL_law_2440 (tgt := 2445) (by decide) (fun _ => ?_) (fun h8 => absurd h8 h9)
      refine g_goto C dL_law_2445 (tgt := 2819) (by decide) ?_
      refine zG.wide (k := cells + 200) (n := slots + 3200) (by omega) (by omega) ?_
      refine zG_sub (L' := [(5, .int (nI (6 * j))), (4, .ref aod), (3, .ref ao), (2, .ref (adM 0)), (1, .ref (ad 0)), (0, .ref b)]) [2, 3, 4, 5, 6, 7] rfl ?_
      exact kk _ ⟨v1, n1, k1, z1, f1, t1, v2, n2, k2, z2, f2, t2, fo, _, X, Y', a, rfl, by rw [e3.2]; exact hP.step (hP.1.u0 _) (FY.u0 Y _).txt⟩
  · skip
    obtain ⟨Y', hY, e3⟩ : ∃ Y', f_X6_use Y = some (b9, Y') ∧ (Y' 0 0 = nI (i + 1) ∧ Y' = zU Y 0 0 (nI (i + 1))) := ⟨_, e2, (zU_s _ _ _ _).trans (congrArg nI (kx_u4 i _ hi)), congrArg (fun x => zU Y 0 0 (nI x)) (kx_u4 i _ hi)⟩
    refine g_istore (L' := [(6, .int (nI (i + 1))), (5, .int (nI (6 * j))), (4, .ref aod), (3, .ref ao), (2, .ref (adM 0)), (1, .ref (ad 0)), (0, .ref b)]) C dL_law_2389 (by decide) rfl ?_
    refine g_aload_n (j := 4) C dL_law_2391 rfl rfl ?_
    refine zG.less (ws' := (zW cy adM shM (z_rend cy ad X 0 shC ++ ((tB cy (ad 152) v1 n1 z1 k1 f1) ++ ((tB cy (ad 153) v2 n2 z2 k2 f2) ++ [(zOut cy ao fo), (zOuD cy aod fd)]))) Y)) (l' := (zW cy ad shC (zLT cy adM (tB cy (ad 152) v1 n1 z1 k1 f1) (tB cy (ad 153) v2 n2 z2 k2 f2) (zOut cy ao fo) (zOuD cy aod fd) Y) X)) (zpM _ _ _ _ _ _) (List.Sublist.refl _) ?_
    refine t_Vd (As := []) (rest := []) zEm_ge hE.2 C (c_X6_use l D cy adM (z_rend cy ad X 0 shC ++ ((tB cy (ad 152) v1 n1 z1 k1 f1) ++ ((tB cy (ad 153) v2 n2 z2 k2 f2) ++ [(zOut cy ao fo), (zOuD cy aod fd)]))) Y hY) zml_RL_253 zcv_X6_use (zRec.of C (ci := 10) (q0 := 0) rfl (zW_get Y sM_0)) rfl rfl ⟨Nat.le_of_ble_eq_true rfl, Nat.le_of_ble_eq_true rfl⟩ rfl rfl (Nat.le_of_ble_eq_true rfl) ⟨by show cells + 1 + 0 ≤ 603072; omega, by show slots + 6 + 0 ≤ 7194730; omega⟩ dL_law_2392 ?_
    intro r6 w6 h6
    obtain ⟨h6, rfl⟩ := h6
    have h6 : b9 = r6 := h6.symm
    subst h6
    refine n_dstore (L' := [(7, .double b9), (6, .int (nI (i + 1))), (5, .int (nI (6 * j))), (4, .ref aod), (3, .ref ao), (2, .ref (adM 0)), (1, .ref (ad 0)), (0, .ref b)]) C dL_law_2395 (by decide) rfl ?_
    refine g_aload_n (j := 5) C dL_law_2397 rfl rfl ?_
    refine g_vi (ws' := (zW cy adM shM (z_rend cy ad X 0 shC ++ ((tB cy (ad 152) v1 n1 z1 k1 f1) ++ ((tB cy (ad 153) v2 n2 z2 k2 f2) ++ [(zOut cy ao fo), (zOuD cy aod fd)]))) Y')) (As := []) (rest := []) (res := Y' 0 0) C (c_X6_thrown l D cy adM (z_rend cy ad X 0 shC ++ ((tB cy (ad 152) v1 n1 z1 k1 f1) ++ ((tB cy (ad 153) v2 n2 z2 k2 f2) ++ [(zOut cy ao fo), (zOuD cy aod fd)]))) Y') zml_RL_155 zcv_X6_thrown (zW_get Y' sM_0) rfl rfl rfl ⟨Nat.le_of_ble_eq_true rfl, Nat.le_of_ble_eq_true rfl⟩ rfl rfl (Nat.le_of_ble_eq_true rfl) ⟨by show cells + 1 + 0 ≤ 603072; omega, by show slots + 6 + 0 ≤ 7194730; omega⟩ dL_law_2398 ?_
    refine zG.less (ws' := (zW cy ad shC (zLT cy adM (tB cy (ad 152) v1 n1 z1 k1 f1) (tB cy (ad 153) v2 n2 z2 k2 f2) (zOut cy ao fo) (zOuD cy aod fd) Y') X)) (l' := (zW cy adM shM (z_rend cy ad X 0 shC ++ ((tB cy (ad 152) v1 n1 z1 k1 f1) ++ ((tB cy (ad 153) v2 n2 z2 k2 f2) ++ [(zOut cy ao fo), (zOuD cy aod fd)]))) Y')) (zpM _ _ _ _ _ _).symm (List.Sublist.refl _) ?_
    refine g_iload (j := 1) C dL_law_2401 rfl ?_
    refine g_icmp_eq C dL_law_2403 (tgt := 2408) (by decide) (fun _ => ?_) (fun h9 => absurd e3.1 h9)
    refine g_iload (j := 1) C dL_law_2408 rfl ?_
    refine g_if_ne C dL_law_2410 (tgt := 2445) (by decide) (fun _ => ?_) (fun h9 => absurd h9 (nIs_ne0 (getE_lt hi (by decide))))
    refine g_goto C dL_law_2445 (tgt := 2819) (by decide) ?_
    refine zG.wide (k := cells + 200) (n := slots + 3200) (by omega) (by omega) ?_
    refine zG_sub (L' := [(5, .int (nI (6 * j))), (4, .ref aod), (3, .ref ao), (2, .ref (adM 0)), (1, .ref (ad 0)), (0, .ref b)]) [2, 3, 4, 5, 6, 7] rfl ?_
    exact kk _ ⟨v1, n1, k1, z1, f1, t1, v2, n2, k2, z2, f2, t2, fo, fd, X, Y', a, rfl, by rw [e3.2]; exact hP.step (hP.1.u0 _) (FY.u0 Y _).txt⟩
end LAWC
