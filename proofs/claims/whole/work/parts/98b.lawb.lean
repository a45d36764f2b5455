/-! THE LAW'S CASES (laid by wip/whole/mklaw.py) -/
section LAWC
variable {p : Program} {l : Launch} {e : Env} {s : State} {m : MethodId} {args : Array Value} {below : List Frame} {meth : Method} {c : Code} {D : va_G} {A : Nat → Prop} {cells slots : Nat} {Q : State → Prop} {cy : Nat → ClassId} {ad adM : Nat → Nat} {ao aod b N : Nat} {xs : Nat → Int32}
theorem zml_RL_185 : Cond.methodLink RL 185 yX6_film ∈ zAll := zg (z_t7 (List.mem_of_getElem? (i := 131) (by decide +kernel))) (by decide +kernel)
set_option maxRecDepth 100000 in
set_option maxHeartbeats 8000000 in
theorem law_film (C : zC p s m args meth c code 9 RL D (zTy cy) A) (hE : zEl A s s.heap) (hlt : l.stackTraces = false) (hX : va_X b N xs s s.heap) (hbl : b < s.heap.size) (hbA : ¬ A b) (j : Nat) (hj : 6 * j + 6 ≤ N) (hN : N ≤ 3072) (w : va_W) (hJ : zLJ cy ad adM ao aod w) (hc : cells + 200 ≤ 603072) (hs : slots + 3200 ≤ 7194730) (kk : ∀ w', zLJ cy ad adM ao aod w' → zG p l e room_1 s m args below meth c 9 D A (cells + 200) (slots + 3200) Q w' 2819 [(5, .int (nI (6 * j))), (4, .ref aod), (3, .ref ao), (2, .ref (adM 0)), (1, .ref (ad 0)), (0, .ref b)] []) : zG p l e room_1 s m args below meth c 9 D A cells slots Q w 840 [(5, .int (nI (6 * j))), (4, .ref aod), (3, .ref ao), (2, .ref (adM 0)), (1, .ref (ad 0)), (0, .ref b)] [] := by
  obtain ⟨v1, n1, k1, z1, f1, t1, v2, n2, k2, z2, f2, t2, fo, fd, X, Y, a, rfl, hP⟩ := hJ
  obtain ⟨c9, v9, b9, X', Y', a', e1, e2, e3, e4, e5, e6⟩ := zSimR.up hP.1 (sim_film hP.1.1 hP.1.2.1 hP.1.2.2.1.1 (xs (6 * j + 1)) (xs (6 * j + 2)))
  have hcd : inC [3, 1] c9 := oc_film X (xs (6 * j + 1)) (xs (6 * j + 2)) _ e1
  have hM := (c_X5_film l hlt D cy ad (zLT cy adM (tB cy (ad 152) v1 n1 z1 k1 f1) (tB cy (ad 153) v2 n2 z2 k2 f2) (zOut cy ao fo) (zOuD cy aod fd) Y) X (xs (6 * j + 1)) (xs (6 * j + 2)) e1).toY
  have hw := hw_film l D cy zTh_ge zEw_th _ (ad 0) _ (xs (6 * j + 1)) (xs (6 * j + 2)) ao 156 fo 1 6 _ _ _ hM rfl rfl ⟨by decide, by decide⟩ (zW_get X sC_0) (fun v w hh => by obtain ⟨_, _, rfl⟩ := hh; exact zLW_o) (fun c w hh h0 => by obtain ⟨rfl, _⟩ := hh; simpa using hcd.ne h0)
  refine g_aload_n (j := 4) C dL_law_840 rfl rfl ?_
  refine g_aload_n (j := 5) C dL_law_841 rfl rfl ?_
  refine g_iload (j := 0) C dL_law_842 rfl ?_
  refine g_iconst (v := (nI 1)) C dL_law_844 (by decide) ?_
  refine g_iadd C dL_law_845 ?_
  refine p_num (y := (nI (6 * j + 1))) (nI_add _ _) ?_
  refine n_sld C hX hbl hbA (nI_in (by omega) (by omega)) dL_law_846 ?_
  refine p_num (y := (xs (6 * j + 1))) (by rw [nI_clamp (by omega)]) ?_
  refine g_aload_n (j := 5) C dL_law_847 rfl rfl ?_
  refine g_iload (j := 0) C dL_law_848 rfl ?_
  refine g_iconst (v := (nI 2)) C dL_law_850 (by decide) ?_
  refine g_iadd C dL_law_851 ?_
  refine p_num (y := (nI (6 * j + 2))) (nI_add _ _) ?_
  refine n_sld C hX hbl hbA (nI_in (by omega) (by omega)) dL_law_852 ?_
  refine p_num (y := (xs (6 * j + 2))) (by rw [nI_clamp (by omega)]) ?_
  refine g_aload_n (j := 2) C dL_law_853 rfl rfl ?_
  refine t_SWi (As := [.ref (ad 0), .int (xs (6 * j + 1)), .int (xs (6 * j + 2)), .ref ao]) (rest := []) zEw_ge hE.1 C hw zcw_film rfl rfl ⟨Nat.le_of_ble_eq_true rfl, Nat.le_of_ble_eq_true rfl⟩ rfl rfl (Nat.le_of_ble_eq_true rfl) ⟨by show cells + 1 ≤ 603072; omega, by show slots + 6 ≤ 7194730; omega⟩ dL_law_854 ?_
  intro r w hr9
  rcases hr9 with ⟨rfl, v', w1, ⟨h0, hv9, rfl⟩, rfl⟩ | ⟨i, c', hi, ⟨rfl, rfl⟩, hne, rfl⟩
  · skip
    have hv9 : v9 = v' := hv9.symm
    subst hv9
    rw [show List.set _ 156 _ = (zW cy ad shC (zLT cy adM (tB cy (ad 152) v1 n1 z1 k1 f1) (tB cy (ad 153) v2 n2 z2 k2 f2) (zOut cy ao (vp_updL fo 0 v9.toInt64)) (zOuD cy aod fd) Y) X') from zLW_so]
    have h0 : c9 = 0 := h0
    refine g_istore (L' := [(6, .int (nI 0)), (5, .int (nI (6 * j))), (4, .ref aod), (3, .ref ao), (2, .ref (adM 0)), (1, .ref (ad 0)), (0, .ref b)]) C dL_law_857 (by decide) rfl ?_
    refine g_aload_n (j := 4) C dL_law_859 rfl rfl ?_
    refine g_aload_n (j := 6) C dL_law_860 rfl rfl ?_
    refine g_iload (j := 1) C dL_law_861 rfl ?_
    refine g_iconst (v := (nI 1)) C dL_law_863 (by decide) ?_
    refine g_iadd C dL_law_864 ?_
    refine p_num (y := (nI (6 * j + 1))) (nI_add _ _) ?_
    refine n_sld C hX hbl hbA (nI_in (by omega) (by omega)) dL_law_865 ?_
    refine p_num (y := (xs (6 * j + 1))) (by rw [nI_clamp (by omega)]) ?_
    refine g_aload_n (j := 6) C dL_law_866 rfl rfl ?_
    refine g_iload (j := 1) C dL_law_867 rfl ?_
    refine g_iconst (v := (nI 2)) C dL_law_869 (by decide) ?_
    refine g_iadd C dL_law_870 ?_
    refine p_num (y := (nI (6 * j + 2))) (nI_add _ _) ?_
    refine n_sld C hX hbl hbA (nI_in (by omega) (by omega)) dL_law_871 ?_
    refine p_num (y := (xs (6 * j + 2))) (by rw [nI_clamp (by omega)]) ?_
    refine zG.less (ws' := (zW cy adM shM (z_rend cy ad X' 0 shC ++ ((tB cy (ad 152) v1 n1 z1 k1 f1) ++ ((tB cy (ad 153) v2 n2 z2 k2 f2) ++ [(zOut cy ao (vp_updL fo 0 v9.toInt64)), (zOuD cy aod fd)]))) Y)) (l' := (zW cy ad shC (zLT cy adM (tB cy (ad 152) v1 n1 z1 k1 f1) (tB cy (ad 153) v2 n2 z2 k2 f2) (zOut cy ao (vp_updL fo 0 v9.toInt64)) (zOuD cy aod fd) Y) X')) (zpM _ _ _ _ _ _) (List.Sublist.refl _) ?_
    refine g_vi (ws' := (zW cy adM shM (z_rend cy ad X' 0 shC ++ ((tB cy (ad 152) v1 n1 z1 k1 f1) ++ ((tB cy (ad 153) v2 n2 z2 k2 f2) ++ [(zOut cy ao (vp_updL fo 0 v9.toInt64)), (zOuD cy aod fd)]))) Y')) (As := [.int (xs (6 * j + 1)), .int (xs (6 * j + 2))]) (rest := []) (res := b9) C (c_X6_film l D cy adM (z_rend cy ad X' 0 shC ++ ((tB cy (ad 152) v1 n1 z1 k1 f1) ++ ((tB cy (ad 153) v2 n2 z2 k2 f2) ++ [(zOut cy ao (vp_updL fo 0 v9.toInt64)), (zOuD cy aod fd)]))) Y (xs (6 * j + 1)) (xs (6 * j + 2)) e2) zml_RL_185 zcv_X6_film (zW_get Y sM_0) rfl rfl rfl ⟨Nat.le_of_ble_eq_true rfl, Nat.le_of_ble_eq_true rfl⟩ rfl rfl (Nat.le_of_ble_eq_true rfl) ⟨by show cells + 1 ≤ 603072; omega, by show slots + 6 ≤ 7194730; omega⟩ dL_law_872 ?_
    refine g_istore (L' := [(7, .int b9), (6, .int (nI 0)), (5, .int (nI (6 * j))), (4, .ref aod), (3, .ref ao), (2, .ref (adM 0)), (1, .ref (ad 0)), (0, .ref b)]) C dL_law_875 (by decide) rfl ?_
    refine g_aload_n (j := 5) C dL_law_877 rfl rfl ?_
    refine g_vi (ws' := (zW cy adM shM (z_rend cy ad X' 0 shC ++ ((tB cy (ad 152) v1 n1 z1 k1 f1) ++ ((tB cy (ad 153) v2 n2 z2 k2 f2) ++ [(zOut cy ao (vp_updL fo 0 v9.toInt64)), (zOuD cy aod fd)]))) Y')) (As := []) (rest := []) (res := Y' 0 0) C (c_X6_thrown l D cy adM (z_rend cy ad X' 0 shC ++ ((tB cy (ad 152) v1 n1 z1 k1 f1) ++ ((tB cy (ad 153) v2 n2 z2 k2 f2) ++ [(zOut cy ao (vp_updL fo 0 v9.toInt64)), (zOuD cy aod fd)]))) Y') zml_RL_155 zcv_X6_thrown (zW_get Y' sM_0) rfl rfl rfl ⟨Nat.le_of_ble_eq_true rfl, Nat.le_of_ble_eq_true rfl⟩ rfl rfl (Nat.le_of_ble_eq_true rfl) ⟨by show cells + 1 ≤ 603072; omega, by show slots + 6 ≤ 7194730; omega⟩ dL_law_878 ?_
    refine zG.less (ws' := (zW cy ad shC (zLT cy adM (tB cy (ad 152) v1 n1 z1 k1 f1) (tB cy (ad 153) v2 n2 z2 k2 f2) (zOut cy ao (vp_updL fo 0 v9.toInt64)) (zOuD cy aod fd) Y') X')) (l' := (zW cy adM shM (z_rend cy ad X' 0 shC ++ ((tB cy (ad 152) v1 n1 z1 k1 f1) ++ ((tB cy (ad 153) v2 n2 z2 k2 f2) ++ [(zOut cy ao (vp_updL fo 0 v9.toInt64)), (zOuD cy aod fd)]))) Y')) (zpM _ _ _ _ _ _).symm (List.Sublist.refl _) ?_
    refine g_iload (j := 1) C dL_law_881 rfl ?_
    refine g_icmp_eq C dL_law_883 (tgt := 888) (by decide) (fun _ => ?_) (fun h9 => absurd (e3.trans (by rw [h0]; rfl)) h9)
    refine g_iload (j := 1) C dL_law_888 rfl ?_
    refine g_if_ne C dL_law_890 (tgt := 905) (by decide) (fun h9 => absurd nI_0 h9) (fun _ => ?_)
    refine g_aload_n (j := 4) C dL_law_893 rfl rfl ?_
    refine g_iconst (v := (nI 0)) C dL_law_894 (by decide) ?_
    refine n_lald (q0 := 156) (n := 1) C zLW_o (nI_in (by decide) (by decide)) dL_law_895 ?_
    refine g_iload (j := 0) C dL_law_896 rfl ?_
    refine n_i2l C dL_law_898 ?_
    refine n_lcmp C dL_law_899 ?_
    refine g_if_eq C dL_law_900 (tgt := 905) (by decide) (fun _ => ?_) (fun h9 => absurd (lg_cmp_rf ((updL_0 _ _).trans (congrArg Int32.toInt64 (e4 h0)))) h9)
    refine g_goto C dL_law_905 (tgt := 2819) (by decide) ?_
    refine zG.wide (k := cells + 200) (n := slots + 3200) (by omega) (by omega) ?_
    refine zG_sub (L' := [(5, .int (nI (6 * j))), (4, .ref aod), (3, .ref ao), (2, .ref (adM 0)), (1, .ref (ad 0)), (0, .ref b)]) [2, 3, 4, 5, 6, 7] rfl ?_
    exact kk _ ⟨v1, n1, k1, z1, f1, t1, v2, n2, k2, z2, f2, t2, _, fd, X', Y', a', rfl, hP.step e5 e6⟩
  · skip
    refine g_istore (L' := [(6, .int (nI (i + 1))), (5, .int (nI (6 * j))), (4, .ref aod), (3, .ref ao), (2, .ref (adM 0)), (1, .ref (ad 0)), (0, .ref b)]) C dL_law_857 (by decide) rfl ?_
    refine g_aload_n (j := 4) C dL_law_859 rfl rfl ?_
    refine g_aload_n (j := 6) C dL_law_860 rfl rfl ?_
    refine g_iload (j := 1) C dL_law_861 rfl ?_
    refine g_iconst (v := (nI 1)) C dL_law_863 (by decide) ?_
    refine g_iadd C dL_law_864 ?_
    refine p_num (y := (nI (6 * j + 1))) (nI_add _ _) ?_
    refine n_sld C hX hbl hbA (nI_in (by omega) (by omega)) dL_law_865 ?_
    refine p_num (y := (xs (6 * j + 1))) (by rw [nI_clamp (by omega)]) ?_
    refine g_aload_n (j := 6) C dL_law_866 rfl rfl ?_
    refine g_iload (j := 1) C dL_law_867 rfl ?_
    refine g_iconst (v := (nI 2)) C dL_law_869 (by decide) ?_
    refine g_iadd C dL_law_870 ?_
    refine p_num (y := (nI (6 * j + 2))) (nI_add _ _) ?_
    refine n_sld C hX hbl hbA (nI_in (by omega) (by omega)) dL_law_871 ?_
    refine p_num (y := (xs (6 * j + 2))) (by rw [nI_clamp (by omega)]) ?_
    refine zG.less (ws' := (zW cy adM shM (z_rend cy ad X' 0 shC ++ ((tB cy (ad 152) v1 n1 z1 k1 f1) ++ ((tB cy (ad 153) v2 n2 z2 k2 f2) ++ [(zOut cy ao fo), (zOuD cy aod fd)]))) Y)) (l' := (zW cy ad shC (zLT cy adM (tB cy (ad 152) v1 n1 z1 k1 f1) (tB cy (ad 153) v2 n2 z2 k2 f2) (zOut cy ao fo) (zOuD cy aod fd) Y) X')) (zpM _ _ _ _ _ _) (List.Sublist.refl _) ?_
    refine g_vi (ws' := (zW cy adM shM (z_rend cy ad X' 0 shC ++ ((tB cy (ad 152) v1 n1 z1 k1 f1) ++ ((tB cy (ad 153) v2 n2 z2 k2 f2) ++ [(zOut cy ao fo), (zOuD cy aod fd)]))) Y')) (As := [.int (xs (6 * j + 1)), .int (xs (6 * j + 2))]) (rest := []) (res := b9) C (c_X6_film l D cy adM (z_rend cy ad X' 0 shC ++ ((tB cy (ad 152) v1 n1 z1 k1 f1) ++ ((tB cy (ad 153) v2 n2 z2 k2 f2) ++ [(zOut cy ao fo), (zOuD cy aod fd)]))) Y (xs (6 * j + 1)) (xs (6 * j + 2)) e2) zml_RL_185 zcv_X6_film (zW_get Y sM_0) rfl rfl rfl ⟨Nat.le_of_ble_eq_true rfl, Nat.le_of_ble_eq_true rfl⟩ rfl rfl (Nat.le_of_ble_eq_true rfl) ⟨by show cells + 1 ≤ 603072; omega, by show slots + 6 ≤ 7194730; omega⟩ dL_law_872 ?_
    refine g_istore (L' := [(7, .int b9), (6, .int (nI (i + 1))), (5, .int (nI (6 * j))), (4, .ref aod), (3, .ref ao), (2, .ref (adM 0)), (1, .ref (ad 0)), (0, .ref b)]) C dL_law_875 (by decide) rfl ?_
    refine g_aload_n (j := 5) C dL_law_877 rfl rfl ?_
    refine g_vi (ws' := (zW cy adM shM (z_rend cy ad X' 0 shC ++ ((tB cy (ad 152) v1 n1 z1 k1 f1) ++ ((tB cy (ad 153) v2 n2 z2 k2 f2) ++ [(zOut cy ao fo), (zOuD cy aod fd)]))) Y')) (As := []) (rest := []) (res := Y' 0 0) C (c_X6_thrown l D cy adM (z_rend cy ad X' 0 shC ++ ((tB cy (ad 152) v1 n1 z1 k1 f1) ++ ((tB cy (ad 153) v2 n2 z2 k2 f2) ++ [(zOut cy ao fo), (zOuD cy aod fd)]))) Y') zml_RL_155 zcv_X6_thrown (zW_get Y' sM_0) rfl rfl rfl ⟨Nat.le_of_ble_eq_true rfl, Nat.le_of_ble_eq_true rfl⟩ rfl rfl (Nat.le_of_ble_eq_true rfl) ⟨by show cells + 1 ≤ 603072; omega, by show slots + 6 ≤ 7194730; omega⟩ dL_law_878 ?_
    refine zG.less (ws' := (zW cy ad shC (zLT cy adM (tB cy (ad 152) v1 n1 z1 k1 f1) (tB cy (ad 153) v2 n2 z2 k2 f2) (zOut cy ao fo) (zOuD cy aod fd) Y') X')) (l' := (zW cy adM shM (z_rend cy ad X' 0 shC ++ ((tB cy (ad 152) v1 n1 z1 k1 f1) ++ ((tB cy (ad 153) v2 n2 z2 k2 f2) ++ [(zOut cy ao fo), (zOuD cy aod fd)]))) Y')) (zpM _ _ _ _ _ _).symm (List.Sublist.refl _) ?_
    refine g_iload (j := 1) C dL_law_881 rfl ?_
    refine g_icmp_eq C dL_law_883 (tgt := 888) (by decide) (fun _ => ?_) (fun h9 => absurd (e3.trans (congrArg nI (kx_31 i _ hi))) h9)
    refine g_iload (j := 1) C dL_law_888 rfl ?_
    refine g_if_ne C dL_law_890 (tgt := 905) (by decide) (fun _ => ?_) (fun h9 => absurd h9 (nIs_ne0 (getE_lt hi (by decide))))
    refine g_goto C dL_law_905 (tgt := 2819) (by decide) ?_
    refine zG.wide (k := cells + 200) (n := slots + 3200) (by omega) (by omega) ?_
    refine zG_sub (L' := [(5, .int (nI (6 * j))), (4, .ref aod), (3, .ref ao), (2, .ref (adM 0)), (1, .ref (ad 0)), (0, .ref b)]) [2, 3, 4, 5, 6, 7] rfl ?_
    exact kk _ ⟨v1, n1, k1, z1, f1, t1, v2, n2, k2, z2, f2, t2, fo, fd, X', Y', a', rfl, hP.step e5 e6⟩
theorem zml_RL_188 : Cond.methodLink RL 188 yX6_share ∈ zAll := zg (z_t7 (List.mem_of_getElem? (i := 147) (by decide +kernel))) (by decide +kernel)
set_option maxRecDepth 100000 in
set_option maxHeartbeats 8000000 in
theorem law_share (C : zC p s m args meth c code 9 RL D (zTy cy) A) (hE : zEl A s s.heap) (hlt : l.stackTraces = false) (hX : va_X b N xs s s.heap) (hbl : b < s.heap.size) (hbA : ¬ A b) (j : Nat) (hj : 6 * j + 6 ≤ N) (hN : N ≤ 3072) (w : va_W) (hJ : zLJ cy ad adM ao aod w) (hc : cells + 200 ≤ 603072) (hs : slots + 3200 ≤ 7194730) (kk : ∀ w', zLJ cy ad adM ao aod w' → zG p l e room_1 s m args below meth c 9 D A (cells + 200) (slots + 3200) Q w' 2819 [(5, .int (nI (6 * j))), (4, .ref aod), (3, .ref ao), (2, .ref (adM 0)), (1, .ref (ad 0)), (0, .ref b)] []) : zG p l e room_1 s m args below meth c 9 D A cells slots Q w 908 [(5, .int (nI (6 * j))), (4, .ref aod), (3, .ref ao), (2, .ref (adM 0)), (1, .ref (ad 0)), (0, .ref b)] [] := by
  obtain ⟨v1, n1, k1, z1, f1, t1, v2, n2, k2, z2, f2, t2, fo, fd, X, Y, a, rfl, hP⟩ := hJ
  obtain ⟨c9, v9, b9, X', Y', a', e1, e2, e3, e4, e5, e6⟩ := zSimR.up hP.1 (sim_share hP.1.1 hP.1.2.1 hP.1.2.2.1.1 (xs (6 * j + 1)) (xs (6 * j + 2)))
  have hcd : inC [3, 1, 6] c9 := (oc_share X (xs (6 * j + 1)) (xs (6 * j + 2))).o _ e1
  have hM := (c_X5_share l hlt D cy ad (zLT cy adM (tB cy (ad 152) v1 n1 z1 k1 f1) (tB cy (ad 153) v2 n2 z2 k2 f2) (zOut cy ao fo) (zOuD cy aod fd) Y) X (xs (6 * j + 1)) (xs (6 * j + 2))).toY
  rw [Option.some.inj e1] at hM
  have hw := hw_share l D cy zTh_ge zEw_th _ (ad 0) _ (xs (6 * j + 1)) (xs (6 * j + 2)) ao 156 fo 1 6 _ _ _ hM rfl rfl ⟨by decide, by decide⟩ (zW_get X sC_0) (fun v w hh => by obtain ⟨_, _, rfl⟩ := hh; exact zLW_o) (fun c w hh h0 => by obtain ⟨rfl, _⟩ := hh; simpa using hcd.ne h0)
  refine g_aload_n (j := 4) C dL_law_908 rfl rfl ?_
  refine g_aload_n (j := 5) C dL_law_909 rfl rfl ?_
  refine g_iload (j := 0) C dL_law_910 rfl ?_
  refine g_iconst (v := (nI 1)) C dL_law_912 (by decide) ?_
  refine g_iadd C dL_law_913 ?_
  refine p_num (y := (nI (6 * j + 1))) (nI_add _ _) ?_
  refine n_sld C hX hbl hbA (nI_in (by omega) (by omega)) dL_law_914 ?_
  refine p_num (y := (xs (6 * j + 1))) (by rw [nI_clamp (by omega)]) ?_
  refine g_aload_n (j := 5) C dL_law_915 rfl rfl ?_
  refine g_iload (j := 0) C dL_law_916 rfl ?_
  refine g_iconst (v := (nI 2)) C dL_law_918 (by decide) ?_
  refine g_iadd C dL_law_919 ?_
  refine p_num (y := (nI (6 * j + 2))) (nI_add _ _) ?_
  refine n_sld C hX hbl hbA (nI_in (by omega) (by omega)) dL_law_920 ?_
  refine p_num (y := (xs (6 * j + 2))) (by rw [nI_clamp (by omega)]) ?_
  refine g_aload_n (j := 2) C dL_law_921 rfl rfl ?_
  refine t_SWi (As := [.ref (ad 0), .int (xs (6 * j + 1)), .int (xs (6 * j + 2)), .ref ao]) (rest := []) zEw_ge hE.1 C hw zcw_share rfl rfl ⟨Nat.le_of_ble_eq_true rfl, Nat.le_of_ble_eq_true rfl⟩ rfl rfl (Nat.le_of_ble_eq_true rfl) ⟨by show cells + 1 ≤ 603072; omega, by show slots + 6 ≤ 7194730; omega⟩ dL_law_922 ?_
  intro r w hr9
  rcases hr9 with ⟨rfl, v', w1, ⟨h0, hv9, rfl⟩, rfl⟩ | ⟨i, c', hi, ⟨rfl, rfl⟩, hne, rfl⟩
  · skip
    have hv9 : v9 = v' := hv9.symm
    subst hv9
    rw [show List.set _ 156 _ = (zW cy ad shC (zLT cy adM (tB cy (ad 152) v1 n1 z1 k1 f1) (tB cy (ad 153) v2 n2 z2 k2 f2) (zOut cy ao (vp_updL fo 0 v9.toInt64)) (zOuD cy aod fd) Y) X') from zLW_so]
    have h0 : c9 = 0 := h0
    refine g_istore (L' := [(6, .int (nI 0)), (5, .int (nI (6 * j))), (4, .ref aod), (3, .ref ao), (2, .ref (adM 0)), (1, .ref (ad 0)), (0, .ref b)]) C dL_law_925 (by decide) rfl ?_
    refine g_aload_n (j := 4) C dL_law_927 rfl rfl ?_
    refine g_aload_n (j := 6) C dL_law_928 rfl rfl ?_
    refine g_iload (j := 1) C dL_law_929 rfl ?_
    refine g_iconst (v := (nI 1)) C dL_law_931 (by decide) ?_
    refine g_iadd C dL_law_932 ?_
    refine p_num (y := (nI (6 * j + 1))) (nI_add _ _) ?_
    refine n_sld C hX hbl hbA (nI_in (by omega) (by omega)) dL_law_933 ?_
    refine p_num (y := (xs (6 * j + 1))) (by rw [nI_clamp (by omega)]) ?_
    refine g_aload_n (j := 6) C dL_law_934 rfl rfl ?_
    refine g_iload (j := 1) C dL_law_935 rfl ?_
    refine g_iconst (v := (nI 2)) C dL_law_937 (by decide) ?_
    refine g_iadd C dL_law_938 ?_
    refine p_num (y := (nI (6 * j + 2))) (nI_add _ _) ?_
    refine n_sld C hX hbl hbA (nI_in (by omega) (by omega)) dL_law_939 ?_
    refine p_num (y := (xs (6 * j + 2))) (by rw [nI_clamp (by omega)]) ?_
    refine zG.less (ws' := (zW cy adM shM (z_rend cy ad X' 0 shC ++ ((tB cy (ad 152) v1 n1 z1 k1 f1) ++ ((tB cy (ad 153) v2 n2 z2 k2 f2) ++ [(zOut cy ao (vp_updL fo 0 v9.toInt64)), (zOuD cy aod fd)]))) Y)) (l' := (zW cy ad shC (zLT cy adM (tB cy (ad 152) v1 n1 z1 k1 f1) (tB cy (ad 153) v2 n2 z2 k2 f2) (zOut cy ao (vp_updL fo 0 v9.toInt64)) (zOuD cy aod fd) Y) X')) (zpM _ _ _ _ _ _) (List.Sublist.refl _) ?_
    refine g_vi (ws' := (zW cy adM shM (z_rend cy ad X' 0 shC ++ ((tB cy (ad 152) v1 n1 z1 k1 f1) ++ ((tB cy (ad 153) v2 n2 z2 k2 f2) ++ [(zOut cy ao (vp_updL fo 0 v9.toInt64)), (zOuD cy aod fd)]))) Y')) (As := [.int (xs (6 * j + 1)), .int (xs (6 * j + 2))]) (rest := []) (res := b9) C (c_X6_share l D cy adM (z_rend cy ad X' 0 shC ++ ((tB cy (ad 152) v1 n1 z1 k1 f1) ++ ((tB cy (ad 153) v2 n2 z2 k2 f2) ++ [(zOut cy ao (vp_updL fo 0 v9.toInt64)), (zOuD cy aod fd)]))) Y (xs (6 * j + 1)) (xs (6 * j + 2)) e2) zml_RL_188 zcv_X6_share (zW_get Y sM_0) rfl rfl rfl ⟨Nat.le_of_ble_eq_true rfl, Nat.le_of_ble_eq_true rfl⟩ rfl rfl (Nat.le_of_ble_eq_true rfl) ⟨by show cells + 1 ≤ 603072; omega, by show slots + 6 ≤ 7194730; omega⟩ dL_law_940 ?_
    refine g_istore (L' := [(7, .int b9), (6, .int (nI 0)), (5, .int (nI (6 * j))), (4, .ref aod), (3, .ref ao), (2, .ref (adM 0)), (1, .ref (ad 0)), (0, .ref b)]) C dL_law_943 (by decide) rfl ?_
    refine g_aload_n (j := 5) C dL_law_945 rfl rfl ?_
    refine g_vi (ws' := (zW cy adM shM (z_rend cy ad X' 0 shC ++ ((tB cy (ad 152) v1 n1 z1 k1 f1) ++ ((tB cy (ad 153) v2 n2 z2 k2 f2) ++ [(zOut cy ao (vp_updL fo 0 v9.toInt64)), (zOuD cy aod fd)]))) Y')) (As := []) (rest := []) (res := Y' 0 0) C (c_X6_thrown l D cy adM (z_rend cy ad X' 0 shC ++ ((tB cy (ad 152) v1 n1 z1 k1 f1) ++ ((tB cy (ad 153) v2 n2 z2 k2 f2) ++ [(zOut cy ao (vp_updL fo 0 v9.toInt64)), (zOuD cy aod fd)]))) Y') zml_RL_155 zcv_X6_thrown (zW_get Y' sM_0) rfl rfl rfl ⟨Nat.le_of_ble_eq_true rfl, Nat.le_of_ble_eq_true rfl⟩ rfl rfl (Nat.le_of_ble_eq_true rfl) ⟨by show cells + 1 ≤ 603072; omega, by show slots + 6 ≤ 7194730; omega⟩ dL_law_946 ?_
    refine zG.less (ws' := (zW cy ad shC (zLT cy adM (tB cy (ad 152) v1 n1 z1 k1 f1) (tB cy (ad 153) v2 n2 z2 k2 f2) (zOut cy ao (vp_updL fo 0 v9.toInt64)) (zOuD cy aod fd) Y') X')) (l' := (zW cy adM shM (z_rend cy ad X' 0 shC ++ ((tB cy (ad 152) v1 n1 z1 k1 f1) ++ ((tB cy (ad 153) v2 n2 z2 k2 f2) ++ [(zOut cy ao (vp_updL fo 0 v9.toInt64)), (zOuD cy aod fd)]))) Y')) (zpM _ _ _ _ _ _).symm (List.Sublist.refl _) ?_
    refine g_iload (j := 1) C dL_law_949 rfl ?_
    refine g_icmp_eq C dL_law_951 (tgt := 956) (by decide) (fun _ => ?_) (fun h9 => absurd (e3.trans (by rw [h0]; rfl)) h9)
    refine g_iload (j := 1) C dL_law_956 rfl ?_
    refine g_if_ne C dL_law_958 (tgt := 973) (by decide) (fun h9 => absurd nI_0 h9) (fun _ => ?_)
    refine g_aload_n (j := 4) C dL_law_961 rfl rfl ?_
    refine g_iconst (v := (nI 0)) C dL_law_962 (by decide) ?_
    refine n_lald (q0 := 156) (n := 1) C zLW_o (nI_in (by decide) (by decide)) dL_law_963 ?_
    refine g_iload (j := 0) C dL_law_964 rfl ?_
    refine n_i2l C dL_law_966 ?_
    refine n_lcmp C dL_law_967 ?_
    refine g_if_eq C dL_law_968 (tgt := 973) (by decide) (fun _ => ?_) (fun h9 => absurd (lg_cmp_rf ((updL_0 _ _).trans (congrArg Int32.toInt64 (e4 h0)))) h9)
    refine g_goto C dL_law_973 (tgt := 2819) (by decide) ?_
    refine zG.wide (k := cells + 200) (n := slots + 3200) (by omega) (by omega) ?_
    refine zG_sub (L' := [(5, .int (nI (6 * j))), (4, .ref aod), (3, .ref ao), (2, .ref (adM 0)), (1, .ref (ad 0)), (0, .ref b)]) [2, 3, 4, 5, 6, 7] rfl ?_
    exact kk _ ⟨v1, n1, k1, z1, f1, t1, v2, n2, k2, z2, f2, t2, _, fd, X', Y', a', rfl, hP.step e5 e6⟩
  · skip
    refine g_istore (L' := [(6, .int (nI (i + 1))), (5, .int (nI (6 * j))), (4, .ref aod), (3, .ref ao), (2, .ref (adM 0)), (1, .ref (ad 0)), (0, .ref b)]) C dL_law_925 (by decide) rfl ?_
    refine g_aload_n (j := 4) C dL_law_927 rfl rfl ?_
    refine g_aload_n (j := 6) C dL_law_928 rfl rfl ?_
    refine g_iload (j := 1) C dL_law_929 rfl ?_
    refine g_iconst (v := (nI 1)) C dL_law_931 (by decide) ?_
    refine g_iadd C dL_law_932 ?_
    refine p_num (y := (nI (6 * j + 1))) (nI_add _ _) ?_
    refine n_sld C hX hbl hbA (nI_in (by omega) (by omega)) dL_law_933 ?_
    refine p_num (y := (xs (6 * j + 1))) (by rw [nI_clamp (by omega)]) ?_
    refine g_aload_n (j := 6) C dL_law_934 rfl rfl ?_
    refine g_iload (j := 1) C dL_law_935 rfl ?_
    refine g_iconst (v := (nI 2)) C dL_law_937 (by decide) ?_
    refine g_iadd C dL_law_938 ?_
    refine p_num (y := (nI (6 * j + 2))) (nI_add _ _) ?_
    refine n_sld C hX hbl hbA (nI_in (by omega) (by omega)) dL_law_939 ?_
    refine p_num (y := (xs (6 * j + 2))) (by rw [nI_clamp (by omega)]) ?_
    refine zG.less (ws' := (zW cy adM shM (z_rend cy ad X' 0 shC ++ ((tB cy (ad 152) v1 n1 z1 k1 f1) ++ ((tB cy (ad 153) v2 n2 z2 k2 f2) ++ [(zOut cy ao fo), (zOuD cy aod fd)]))) Y)) (l' := (zW cy ad shC (zLT cy adM (tB cy (ad 152) v1 n1 z1 k1 f1) (tB cy (ad 153) v2 n2 z2 k2 f2) (zOut cy ao fo) (zOuD cy aod fd) Y) X')) (zpM _ _ _ _ _ _) (List.Sublist.refl _) ?_
    refine g_vi (ws' := (zW cy adM shM (z_rend cy ad X' 0 shC ++ ((tB cy (ad 152) v1 n1 z1 k1 f1) ++ ((tB cy (ad 153) v2 n2 z2 k2 f2) ++ [(zOut cy ao fo), (zOuD cy aod fd)]))) Y')) (As := [.int (xs (6 * j + 1)), .int (xs (6 * j + 2))]) (rest := []) (res := b9) C (c_X6_share l D cy adM (z_rend cy ad X' 0 shC ++ ((tB cy (ad 152) v1 n1 z1 k1 f1) ++ ((tB cy (ad 153) v2 n2 z2 k2 f2) ++ [(zOut cy ao fo), (zOuD cy aod fd)]))) Y (xs (6 * j + 1)) (xs (6 * j + 2)) e2) zml_RL_188 zcv_X6_share (zW_get Y sM_0) rfl rfl rfl ⟨Nat.le_of_ble_eq_true rfl, Nat.le_of_ble_eq_true rfl⟩ rfl rfl (Nat.le_of_ble_eq_true rfl) ⟨by show cells + 1 ≤ 603072; omega, by show slots + 6 ≤ 7194730; omega⟩ dL_law_940 ?_
    refine g_istore (L' := [(7, .int b9), (6, .int (nI (i + 1))), (5, .int (nI (6 * j))), (4, .ref aod), (3, .ref ao), (2, .ref (adM 0)), (1, .ref (ad 0)), (0, .ref b)]) C dL_law_943 (by decide) rfl ?_
    refine g_aload_n (j := 5) C dL_law_945 rfl rfl ?_
    refine g_vi (ws' := (zW cy adM shM (z_rend cy ad X' 0 shC ++ ((tB cy (ad 152) v1 n1 z1 k1 f1) ++ ((tB cy (ad 153) v2 n2 z2 k2 f2) ++ [(zOut cy ao fo), (zOuD cy aod fd)]))) Y')) (As := []) (rest := []) (res := Y' 0 0) C (c_X6_thrown l D cy adM (z_rend cy ad X' 0 shC ++ ((tB cy (ad 152) v1 n1 z1 k1 f1) ++ ((tB cy (ad 153) v2 n2 z2 k2 f2) ++ [(zOut cy ao fo), (zOuD cy aod fd)]))) Y') zml_RL_155 zcv_X6_thrown (zW_get Y' sM_0) rfl rfl rfl ⟨Nat.le_of_ble_eq_true rfl, Nat.le_of_ble_eq_true rfl⟩ rfl rfl (Nat.le_of_ble_eq_true rfl) ⟨by show cells + 1 ≤ 603072; omega, by show slots + 6 ≤ 7194730; omega⟩ dL_law_946 ?_
    refine zG.less (ws' := (zW cy ad shC (zLT cy adM (tB cy (ad 152) v1 n1 z1 k1 f1) (tB cy (ad 153) v2 n2 z2 k2 f2) (zOut cy ao fo) (zOuD cy aod fd) Y') X')) (l' := (zW cy adM shM (z_rend cy ad X' 0 shC ++ ((tB cy (ad 152) v1 n1 z1 k1 f1) ++ ((tB cy (ad 153) v2 n2 z2 k2 f2) ++ [(zOut cy ao fo), (zOuD cy aod fd)]))) Y')) (zpM _ _ _ _ _ _).symm (List.Sublist.refl _) ?_
    refine g_iload (j := 1) C dL_law_949 rfl ?_
    refine g_icmp_eq C dL_law_951 (tgt := 956) (by decide) (fun _ => ?_) (fun h9 => absurd (e3.trans (congrArg nI (kx_316 i _ hi))) h9)
    refine g_iload (j := 1) C dL_law_956 rfl ?_
    refine g_if_ne C dL_law_958 (tgt := 973) (by decide) (fun _ => ?_) (fun h9 => absurd h9 (nIs_ne0 (getE_lt hi (by decide))))
    refine g_goto C dL_law_973 (tgt := 2819) (by decide) ?_
    refine zG.wide (k := cells + 200) (n := slots + 3200) (by omega) (by omega) ?_
    refine zG_sub (L' := [(5, .int (nI (6 * j))), (4, .ref aod), (3, .ref ao), (2, .ref (adM 0)), (1, .ref (ad 0)), (0, .ref b)]) [2, 3, 4, 5, 6, 7] rfl ?_
    exact kk _ ⟨v1, n1, k1, z1, f1, t1, v2, n2, k2, z2, f2, t2, fo, fd, X', Y', a', rfl, hP.step e5 e6⟩
theorem zml_RL_191 : Cond.methodLink RL 191 yX6_trailer ∈ zAll := zg (z_t7 (List.mem_of_getElem? (i := 151) (by decide +kernel))) (by decide +kernel)
set_option maxRecDepth 100000 in
set_option maxHeartbeats 8000000 in
theorem law_trailer (C : zC p s m args meth c code 9 RL D (zTy cy) A) (hE : zEl A s s.heap) (hlt : l.stackTraces = false) (hX : va_X b N xs s s.heap) (hbl : b < s.heap.size) (hbA : ¬ A b) (j : Nat) (hj : 6 * j + 6 ≤ N) (hN : N ≤ 3072) (w : va_W) (hJ : zLJ cy ad adM ao aod w) (hc : cells + 200 ≤ 603072) (hs : slots + 3200 ≤ 7194730) (kk : ∀ w', zLJ cy ad adM ao aod w' → zG p l e room_1 s m args below meth c 9 D A (cells + 200) (slots + 3200) Q w' 2819 [(5, .int (nI (6 * j))), (4, .ref aod), (3, .ref ao), (2, .ref (adM 0)), (1, .ref (ad 0)), (0, .ref b)] []) : zG p l e room_1 s m args below meth c 9 D A cells slots Q w 976 [(5, .int (nI (6 * j))), (4, .ref aod), (3, .ref ao), (2, .ref (adM 0)), (1, .ref (ad 0)), (0, .ref b)] [] := by
  obtain ⟨v1, n1, k1, z1, f1, t1, v2, n2, k2, z2, f2, t2, fo, fd, X, Y, a, rfl, hP⟩ := hJ
  obtain ⟨c9, v9, b9, X', Y', a', e1, e2, e3, e4, e5, e6⟩ := zSimR.up hP.1 (sim_trailer hP.1.1 hP.1.2.1 hP.1.2.2.1.1 (xs (6 * j + 1)) (xs (6 * j + 2)))
  have hcd : inC [3, 1] c9 := (oc_trailer X (xs (6 * j + 1)) (xs (6 * j + 2))).o _ e1
  have hM := (c_X5_trailer l hlt D cy ad (zLT cy adM (tB cy (ad 152) v1 n1 z1 k1 f1) (tB cy (ad 153) v2 n2 z2 k2 f2) (zOut cy ao fo) (zOuD cy aod fd) Y) X (xs (6 * j + 1)) (xs (6 * j + 2))).toY
  rw [Option.some.inj e1] at hM
  have hw := hw_trailer l D cy zTh_ge zEw_th _ (ad 0) _ (xs (6 * j + 1)) (xs (6 * j + 2)) ao 156 fo 1 6 _ _ _ hM rfl rfl ⟨by decide, by decide⟩ (zW_get X sC_0) (fun v w hh => by obtain ⟨_, _, rfl⟩ := hh; exact zLW_o) (fun c w hh h0 => by obtain ⟨rfl, _⟩ := hh; simpa using hcd.ne h0)
  refine g_aload_n (j := 4) C dL_law_976 rfl rfl ?_
  refine g_aload_n (j := 5) C dL_law_977 rfl rfl ?_
  refine g_iload (j := 0) C dL_law_978 rfl ?_
  refine g_iconst (v := (nI 1)) C dL_law_980 (by decide) ?_
  refine g_iadd C dL_law_981 ?_
  refine p_num (y := (nI (6 * j + 1))) (nI_add _ _) ?_
  refine n_sld C hX hbl hbA (nI_in (by omega) (by omega)) dL_law_982 ?_
  refine p_num (y := (xs (6 * j + 1))) (by rw [nI_clamp (by omega)]) ?_
  refine g_aload_n (j := 5) C dL_law_983 rfl rfl ?_
  refine g_iload (j := 0) C dL_law_984 rfl ?_
  refine g_iconst (v := (nI 2)) C dL_law_986 (by decide) ?_
  refine g_iadd C dL_law_987 ?_
  refine p_num (y := (nI (6 * j + 2))) (nI_add _ _) ?_
  refine n_sld C hX hbl hbA (nI_in (by omega) (by omega)) dL_law_988 ?_
  refine p_num (y := (xs (6 * j + 2))) (by rw [nI_clamp (by omega)]) ?_
  refine g_aload_n (j := 2) C dL_law_989 rfl rfl ?_
  refine t_SWi (As := [.ref (ad 0), .int (xs (6 * j + 1)), .int (xs (6 * j + 2)), .ref ao]) (rest := []) zEw_ge hE.1 C hw zcw_trailer rfl rfl ⟨Nat.le_of_ble_eq_true rfl, Nat.le_of_ble_eq_true rfl⟩ rfl rfl (Nat.le_of_ble_eq_true rfl) ⟨by show cells + 1 ≤ 603072; omega, by show slots + 6 ≤ 7194730; omega⟩ dL_law_990 ?_
  intro r w hr9
  rcases hr9 with ⟨rfl, v', w1, ⟨h0, hv9, rfl⟩, rfl⟩ | ⟨i, c', hi, ⟨rfl, rfl⟩, hne, rfl⟩
  · skip
    have hv9 : v9 = v' := hv9.symm
    subst hv9
    rw [show List.set _ 156 _ = (zW cy ad shC (zLT cy adM (tB cy (ad 152) v1 n1 z1 k1 f1) (tB cy (ad 153) v2 n2 z2 k2 f2) (zOut cy ao (vp_updL fo 0 v9.toInt64)) (zOuD cy aod fd) Y) X') from zLW_so]
    have h0 : c9 = 0 := h0
    refine g_istore (L' := [(6, .int (nI 0)), (5, .int (nI (6 * j))), (4, .ref aod), (3, .ref ao), (2, .ref (adM 0)), (1, .ref (ad 0)), (0, .ref b)]) C dL_law_993 (by decide) rfl ?_
    refine g_aload_n (j := 4) C dL_law_995 rfl rfl ?_
    refine g_aload_n (j := 6) C dL_law_996 rfl rfl ?_
    refine g_iload (j := 1) C dL_law_997 rfl ?_
    refine g_iconst (v := (nI 1)) C dL_law_999 (by decide) ?_
    refine g_iadd C dL_law_1000 ?_
    refine p_num (y := (nI (6 * j + 1))) (nI_add _ _) ?_
    refine n_sld C hX hbl hbA (nI_in (by omega) (by omega)) dL_law_1001 ?_
    refine p_num (y := (xs (6 * j + 1))) (by rw [nI_clamp (by omega)]) ?_
    refine g_aload_n (j := 6) C dL_law_1002 rfl rfl ?_
    refine g_iload (j := 1) C dL_law_1003 rfl ?_
    refine g_iconst (v := (nI 2)) C dL_law_1005 (by decide) ?_
    refine g_iadd C dL_law_1006 ?_
    refine p_num (y := (nI (6 * j + 2))) (nI_add _ _) ?_
    refine n_sld C hX hbl hbA (nI_in (by omega) (by omega)) dL_law_1007 ?_
    refine p_num (y := (xs (6 * j + 2))) (by rw [nI_clamp (by omega)]) ?_
    refine zG.less (ws' := (zW cy adM shM (z_rend cy ad X' 0 shC ++ ((tB cy (ad 152) v1 n1 z1 k1 f1) ++ ((tB cy (ad 153) v2 n2 z2 k2 f2) ++ [(zOut cy ao (vp_updL fo 0 v9.toInt64)), (zOuD cy aod fd)]))) Y)) (l' := (zW cy ad shC (zLT cy adM (tB cy (ad 152) v1 n1 z1 k1 f1) (tB cy (ad 153) v2 n2 z2 k2 f2) (zOut cy ao (vp_updL fo 0 v9.toInt64)) (zOuD cy aod fd) Y) X')) (zpM _ _ _ _ _ _) (List.Sublist.refl _) ?_
    refine g_vi (ws' := (zW cy adM shM (z_rend cy ad X' 0 shC ++ ((tB cy (ad 152) v1 n1 z1 k1 f1) ++ ((tB cy (ad 153) v2 n2 z2 k2 f2) ++ [(zOut cy ao (vp_updL fo 0 v9.toInt64)), (zOuD cy aod fd)]))) Y')) (As := [.int (xs (6 * j + 1)), .int (xs (6 * j + 2))]) (rest := []) (res := b9) C (c_X6_trailer l D cy adM (z_rend cy ad X' 0 shC ++ ((tB cy (ad 152) v1 n1 z1 k1 f1) ++ ((tB cy (ad 153) v2 n2 z2 k2 f2) ++ [(zOut cy ao (vp_updL fo 0 v9.toInt64)), (zOuD cy aod fd)]))) Y (xs (6 * j + 1)) (xs (6 * j + 2)) e2) zml_RL_191 zcv_X6_trailer (zW_get Y sM_0) rfl rfl rfl ⟨Nat.le_of_ble_eq_true rfl, Nat.le_of_ble_eq_true rfl⟩ rfl rfl (Nat.le_of_ble_eq_true rfl) ⟨by show cells + 1 ≤ 603072; omega, by show slots + 6 ≤ 7194730; omega⟩ dL_law_1008 ?_
    refine g_istore (L' := [(7, .int b9), (6, .int (nI 0)), (5, .int (nI (6 * j))), (4, .ref aod), (3, .ref ao), (2, .ref (adM 0)), (1, .ref (ad 0)), (0, .ref b)]) C dL_law_1011 (by decide) rfl ?_
    refine g_aload_n (j := 5) C dL_law_1013 rfl rfl ?_
    refine g_vi (ws' := (zW cy adM shM (z_rend cy ad X' 0 shC ++ ((tB cy (ad 152) v1 n1 z1 k1 f1) ++ ((tB cy (ad 153) v2 n2 z2 k2 f2) ++ [(zOut cy ao (vp_updL fo 0 v9.toInt64)), (zOuD cy aod fd)]))) Y')) (As := []) (rest := []) (res := Y' 0 0) C (c_X6_thrown l D cy adM (z_rend cy ad X' 0 shC ++ ((tB cy (ad 152) v1 n1 z1 k1 f1) ++ ((tB cy (ad 153) v2 n2 z2 k2 f2) ++ [(zOut cy ao (vp_updL fo 0 v9.toInt64)), (zOuD cy aod fd)]))) Y') zml_RL_155 zcv_X6_thrown (zW_get Y' sM_0) rfl rfl rfl ⟨Nat.le_of_ble_eq_true rfl, Nat.le_of_ble_eq_true rfl⟩ rfl rfl (Nat.le_of_ble_eq_true rfl) ⟨by show cells + 1 ≤ 603072; omega, by show slots + 6 ≤ 7194730; omega⟩ dL_law_1014 ?_
    refine zG.less (ws' := (zW cy ad shC (zLT cy adM (tB cy (ad 152) v1 n1 z1 k1 f1) (tB cy (ad 153) v2 n2 z2 k2 f2) (zOut cy ao (vp_updL fo 0 v9.toInt64)) (zOuD cy aod fd) Y') X')) (l' := (zW cy adM shM (z_rend cy ad X' 0 shC ++ ((tB cy (ad 152) v1 n1 z1 k1 f1) ++ ((tB cy (ad 153) v2 n2 z2 k2 f2) ++ [(zOut cy ao (vp_updL fo 0 v9.toInt64)), (zOuD cy aod fd)]))) Y')) (zpM _ _ _ _ _ _).symm (List.Sublist.refl _) ?_
    refine g_iload (j := 1) C dL_law_1017 rfl ?_
    refine g_icmp_eq C dL_law_1019 (tgt := 1024) (by decide) (fun _ => ?_) (fun h9 => absurd (e3.trans (by rw [h0]; rfl)) h9)
    refine g_iload (j := 1) C dL_law_1024 rfl ?_
    refine g_if_ne C dL_law_1026 (tgt := 1041) (by decide) (fun h9 => absurd nI_0 h9) (fun _ => ?_)
    refine g_aload_n (j := 4) C dL_law_1029 rfl rfl ?_
    refine g_iconst (v := (nI 0)) C dL_law_1030 (by decide) ?_
    refine n_lald (q0 := 156) (n := 1) C zLW_o (nI_in (by decide) (by decide)) dL_law_1031 ?_
    refine g_iload (j := 0) C dL_law_1032 rfl ?_
    refine n_i2l C dL_law_1034 ?_
    refine n_lcmp C dL_law_1035 ?_
    refine g_if_eq C dL_law_1036 (tgt := 1041) (by decide) (fun _ => ?_) (fun h9 => absurd (lg_cmp_rf ((updL_0 _ _).trans (congrArg Int32.toInt64 (e4 h0)))) h9)
    refine g_goto C dL_law_1041 (tgt := 2819) (by decide) ?_
    refine zG.wide (k := cells + 200) (n := slots + 3200) (by omega) (by omega) ?_
    refine zG_sub (L' := [(5, .int (nI (6 * j))), (4, .ref aod), (3, .ref ao), (2, .ref (adM 0)), (1, .ref (ad 0)), (0, .ref b)]) [2, 3, 4, 5, 6, 7] rfl ?_
    exact kk _ ⟨v1, n1, k1, z1, f1, t1, v2, n2, k2, z2, f2, t2, _, fd, X', Y', a', rfl, hP.step e5 e6⟩
  · skip
    refine g_istore (L' := [(6, .int (nI (i + 1))), (5, .int (nI (6 * j))), (4, .ref aod), (3, .ref ao), (2, .ref (adM 0)), (1, .ref (ad 0)), (0, .ref b)]) C dL_law_993 (by decide) rfl ?_
    refine g_aload_n (j := 4) C dL_law_995 rfl rfl ?_
    refine g_aload_n (j := 6) C dL_law_996 rfl rfl ?_
    refine g_iload (j := 1) C dL_law_997 rfl ?_
    refine g_iconst (v := (nI 1)) C dL_law_999 (by decide) ?_
    refine g_iadd C dL_law_1000 ?_
    refine p_num (y := (nI (6 * j + 1))) (nI_add _ _) ?_
    refine n_sld C hX hbl hbA (nI_in (by omega) (by omega)) dL_law_1001 ?_
    refine p_num (y := (xs (6 * j + 1))) (by rw [nI_clamp (by omega)]) ?_
    refine g_aload_n (j := 6) C dL_law_1002 rfl rfl ?_
    refine g_iload (j := 1) C dL_law_1003 rfl ?_
    refine g_iconst (v := (nI 2)) C dL_law_1005 (by decide) ?_
    refine g_iadd C dL_law_1006 ?_
    refine p_num (y := (nI (6 * j + 2))) (nI_add _ _) ?_
    refine n_sld C hX hbl hbA (nI_in (by omega) (by omega)) dL_law_1007 ?_
    refine p_num (y := (xs (6 * j + 2))) (by rw [nI_clamp (by omega)]) ?_
    refine zG.less (ws' := (zW cy adM shM (z_rend cy ad X' 0 shC ++ ((tB cy (ad 152) v1 n1 z1 k1 f1) ++ ((tB cy (ad 153) v2 n2 z2 k2 f2) ++ [(zOut cy ao fo), (zOuD cy aod fd)]))) Y)) (l' := (zW cy ad shC (zLT cy adM (tB cy (ad 152) v1 n1 z1 k1 f1) (tB cy (ad 153) v2 n2 z2 k2 f2) (zOut cy ao fo) (zOuD cy aod fd) Y) X')) (zpM _ _ _ _ _ _) (List.Sublist.refl _) ?_
    refine g_vi (ws' := (zW cy adM shM (z_rend cy ad X' 0 shC ++ ((tB cy (ad 152) v1 n1 z1 k1 f1) ++ ((tB cy (ad 153) v2 n2 z2 k2 f2) ++ [(zOut cy ao fo), (zOuD cy aod fd)]))) Y')) (As := [.int (xs (6 * j + 1)), .int (xs (6 * j + 2))]) (rest := []) (res := b9) C (c_X6_trailer l D cy adM (z_rend cy ad X' 0 shC ++ ((tB cy (ad 152) v1 n1 z1 k1 f1) ++ ((tB cy (ad 153) v2 n2 z2 k2 f2) ++ [(zOut cy ao fo), (zOuD cy aod fd)]))) Y (xs (6 * j + 1)) (xs (6 * j + 2)) e2) zml_RL_191 zcv_X6_trailer (zW_get Y sM_0) rfl rfl rfl ⟨Nat.le_of_ble_eq_true rfl, Nat.le_of_ble_eq_true rfl⟩ rfl rfl (Nat.le_of_ble_eq_true rfl) ⟨by show cells + 1 ≤ 603072; omega, by show slots + 6 ≤ 7194730; omega⟩ dL_law_1008 ?_
    refine g_istore (L' := [(7, .int b9), (6, .int (nI (i + 1))), (5, .int (nI (6 * j))), (4, .ref aod), (3, .ref ao), (2, .ref (adM 0)), (1, .ref (ad 0)), (0, .ref b)]) C dL_law_1011 (by decide) rfl ?_
    refine g_aload_n (j := 5) C dL_law_1013 rfl rfl ?_
    refine g_vi (ws' := (zW cy adM shM (z_rend cy ad X' 0 shC ++ ((tB cy (ad 152) v1 n1 z1 k1 f1) ++ ((tB cy (ad 153) v2 n2 z2 k2 f2) ++ [(zOut cy ao fo), (zOuD cy aod fd)]))) Y')) (As := []) (rest := []) (res := Y' 0 0) C (c_X6_thrown l D cy adM (z_rend cy ad X' 0 shC ++ ((tB cy (ad 152) v1 n1 z1 k1 f1) ++ ((tB cy (ad 153) v2 n2 z2 k2 f2) ++ [(zOut cy ao fo), (zOuD cy aod fd)]))) Y') zml_RL_155 zcv_X6_thrown (zW_get Y' sM_0) rfl rfl rfl ⟨Nat.le_of_ble_eq_true rfl, Nat.le_of_ble_eq_true rfl⟩ rfl rfl (Nat.le_of_ble_eq_true rfl) ⟨by show cells + 1 ≤ 603072; omega, by show slots + 6 ≤ 7194730; omega⟩ dL_law_1014 ?_
    refine zG.less (ws' := (zW cy ad shC (zLT cy adM (tB cy (ad 152) v1 n1 z1 k1 f1) (tB cy (ad 153) v2 n2 z2 k2 f2) (zOut cy ao fo) (zOuD cy aod fd) Y') X')) (l' := (zW cy adM shM (z_rend cy ad X' 0 shC ++ ((tB cy (ad 152) v1 n1 z1 k1 f1) ++ ((tB cy (ad 153) v2 n2 z2 k2 f2) ++ [(zOut cy ao fo), (zOuD cy aod fd)]))) Y')) (zpM _ _ _ _ _ _).symm (List.Sublist.refl _) ?_
    refine g_iload (j := 1) C dL_law_1017 rfl ?_
    refine g_icmp_eq C dL_law_1019 (tgt := 1024) (by decide) (fun _ => ?_) (fun h9 => absurd (e3.trans (congrArg nI (kx_31 i _ hi))) h9)
    refine g_iload (j := 1) C dL_law_1024 rfl ?_
    refine g_if_ne C dL_law_1026 (tgt := 1041) (by decide) (fun _ => ?_) (fun h9 => absurd h9 (nIs_ne0 (getE_lt hi (by decide))))
    refine g_goto C dL_law_1041 (tgt := 2819) (by decide) ?_
    refine zG.wide (k := cells + 200) (n := slots + 3200) (by omega) (by omega) ?_
    refine zG_sub (L' := [(5, .int (nI (6 * j))), (4, .ref aod), (3, .ref ao), (2, .ref (adM 0)), (1, .ref (ad 0)), (0, .ref b)]) [2, 3, 4, 5, 6, 7] rfl ?_
    exact kk _ ⟨v1, n1, k1, z1, f1, t1, v2, n2, k2, z2, f2, t2, fo, fd, X', Y', a', rfl, hP.step e5 e6⟩
theorem zml_RL_194 : Cond.methodLink RL 194 yX6_fits ∈ zAll := zg (z_t7 (List.mem_of_getElem? (i := 159) (by decide +kernel))) (by decide +kernel)
set_option maxRecDepth 100000 in
set_option maxHeartbeats 8000000 in
theorem law_fits (C : zC p s m args meth c code 9 RL D (zTy cy) A) (hE : zEl A s s.heap) (hlt : l.stackTraces = false) (hX : va_X b N xs s s.heap) (hbl : b < s.heap.size) (hbA : ¬ A b) (j : Nat) (hj : 6 * j + 6 ≤ N) (hN : N ≤ 3072) (w : va_W) (hJ : zLJ cy ad adM ao aod w) (hc : cells + 200 ≤ 603072) (hs : slots + 3200 ≤ 7194730) (kk : ∀ w', zLJ cy ad adM ao aod w' → zG p l e room_1 s m args below meth c 9 D A (cells + 200) (slots + 3200) Q w' 2819 [(5, .int (nI (6 * j))), (4, .ref aod), (3, .ref ao), (2, .ref (adM 0)), (1, .ref (ad 0)), (0, .ref b)] []) : zG p l e room_1 s m args below meth c 9 D A cells slots Q w 1044 [(5, .int (nI (6 * j))), (4, .ref aod), (3, .ref ao), (2, .ref (adM 0)), (1, .ref (ad 0)), (0, .ref b)] [] := by
  obtain ⟨v1, n1, k1, z1, f1, t1, v2, n2, k2, z2, f2, t2, fo, fd, X, Y, a, rfl, hP⟩ := hJ
  obtain ⟨c9, v9, b9, X', Y', a', e1, e2, e3, e4, e5, e6⟩ := zSimR.up hP.1 (sim_fits hP.1.1 hP.1.2.1 hP.1.2.2.1.1 (xs (6 * j + 1)) (xs (6 * j + 2)) (xs (6 * j + 3)))
  have hcd : inC [3, 1] c9 := (oc_fits X (xs (6 * j + 1)) (xs (6 * j + 2)) (xs (6 * j + 3))).o _ e1
  have hM := (c_X5_fits l hlt D cy ad (zLT cy adM (tB cy (ad 152) v1 n1 z1 k1 f1) (tB cy (ad 153) v2 n2 z2 k2 f2) (zOut cy ao fo) (zOuD cy aod fd) Y) X (xs (6 * j + 1)) (xs (6 * j + 2)) (xs (6 * j + 3))).toY
  rw [Option.some.inj e1] at hM
  have hw := hw_fits l D cy zTh_ge zEw_th _ (ad 0) _ (xs (6 * j + 1)) (xs (6 * j + 2)) (xs (6 * j + 3)) ao 156 fo 1 6 _ _ _ hM rfl rfl ⟨by decide, by decide⟩ (zW_get X sC_0) (fun v w hh => by obtain ⟨_, _, rfl⟩ := hh; exact zLW_o) (fun c w hh h0 => by obtain ⟨rfl, _⟩ := hh; simpa using hcd.ne h0)
  refine g_aload_n (j := 4) C dL_law_1044 rfl rfl ?_
  refine g_aload_n (j := 5) C dL_law_1045 rfl rfl ?_
  refine g_iload (j := 0) C dL_law_1046 rfl ?_
  refine g_iconst (v := (nI 1)) C dL_law_1048 (by decide) ?_
  refine g_iadd C dL_law_1049 ?_
  refine p_num (y := (nI (6 * j + 1))) (nI_add _ _) ?_
  refine n_sld C hX hbl hbA (nI_in (by omega) (by omega)) dL_law_1050 ?_
  refine p_num (y := (xs (6 * j + 1))) (by rw [nI_clamp (by omega)]) ?_
  refine g_aload_n (j := 5) C dL_law_1051 rfl rfl ?_
  refine g_iload (j := 0) C dL_law_1052 rfl ?_
  refine g_iconst (v := (nI 2)) C dL_law_1054 (by decide) ?_
  refine g_iadd C dL_law_1055 ?_
  refine p_num (y := (nI (6 * j + 2))) (nI_add _ _) ?_
  refine n_sld C hX hbl hbA (nI_in (by omega) (by omega)) dL_law_1056 ?_
  refine p_num (y := (xs (6 * j + 2))) (by rw [nI_clamp (by omega)]) ?_
  refine g_aload_n (j := 5) C dL_law_1057 rfl rfl ?_
  refine g_iload (j := 0) C dL_law_1058 rfl ?_
  refine g_iconst (v := (nI 3)) C dL_law_1060 (by decide) ?_
  refine g_iadd C dL_law_1061 ?_
  refine p_num (y := (nI (6 * j + 3))) (nI_add _ _) ?_
  refine n_sld C hX hbl hbA (nI_in (by omega) (by omega)) dL_law_1062 ?_
  refine p_num (y := (xs (6 * j + 3))) (by rw [nI_clamp (by omega)]) ?_
  refine g_aload_n (j := 2) C dL_law_1063 rfl rfl ?_
  refine t_SWi (As := [.ref (ad 0), .int (xs (6 * j + 1)), .int (xs (6 * j + 2)), .int (xs (6 * j + 3)), .ref ao]) (rest := []) zEw_ge hE.1 C hw zcw_fits rfl rfl ⟨Nat.le_of_ble_eq_true rfl, Nat.le_of_ble_eq_true rfl⟩ rfl rfl (Nat.le_of_ble_eq_true rfl) ⟨by show cells + 1 ≤ 603072; omega, by show slots + 6 ≤ 7194730; omega⟩ dL_law_1064 ?_
  intro r w hr9
  rcases hr9 with ⟨rfl, v', w1, ⟨h0, hv9, rfl⟩, rfl⟩ | ⟨i, c', hi, ⟨rfl, rfl⟩, hne, rfl⟩
  · skip
    have hv9 : v9 = v' := hv9.symm
    subst hv9
    rw [show List.set _ 156 _ = (zW cy ad shC (zLT cy adM (tB cy (ad 152) v1 n1 z1 k1 f1) (tB cy (ad 153) v2 n2 z2 k2 f2) (zOut cy ao (vp_updL fo 0 ((fun v : Int32 => if v = 0 then (0 : Int64) else 1) v9))) (zOuD cy aod fd) Y) X') from zLW_so]
    have h0 : c9 = 0 := h0
    refine g_istore (L' := [(6, .int (nI 0)), (5, .int (nI (6 * j))), (4, .ref aod), (3, .ref ao), (2, .ref (adM 0)), (1, .ref (ad 0)), (0, .ref b)]) C dL_law_1067 (by decide) rfl ?_
    refine g_aload_n (j := 4) C dL_law_1069 rfl rfl ?_
    refine g_aload_n (j := 6) C dL_law_1070 rfl rfl ?_
    refine g_iload (j := 1) C dL_law_1071 rfl ?_
    refine g_iconst (v := (nI 1)) C dL_law_1073 (by decide) ?_
    refine g_iadd C dL_law_1074 ?_
    refine p_num (y := (nI (6 * j + 1))) (nI_add _ _) ?_
    refine n_sld C hX hbl hbA (nI_in (by omega) (by omega)) dL_law_1075 ?_
    refine p_num (y := (xs (6 * j + 1))) (by rw [nI_clamp (by omega)]) ?_
    refine g_aload_n (j := 6) C dL_law_1076 rfl rfl ?_
    refine g_iload (j := 1) C dL_law_1077 rfl ?_
    refine g_iconst (v := (nI 2)) C dL_law_1079 (by decide) ?_
    refine g_iadd C dL_law_1080 ?_
    refine p_num (y := (nI (6 * j + 2))) (nI_add _ _) ?_
    refine n_sld C hX hbl hbA (nI_in (by omega) (by omega)) dL_law_1081 ?_
    refine p_num (y := (xs (6 * j + 2))) (by rw [nI_clamp (by omega)]) ?_
    refine g_aload_n (j := 6) C dL_law_1082 rfl rfl ?_
    refine g_iload (j := 1) C dL_law_1083 rfl ?_
    refine g_iconst (v := (nI 3)) C dL_law_1085 (by decide) ?_
    refine g_iadd C dL_law_1086 ?_
    refine p_num (y := (nI (6 * j + 3))) (nI_add _ _) ?_
    refine n_sld C hX hbl hbA (nI_in (by omega) (by omega)) dL_law_1087 ?_
    refine p_num (y := (xs (6 * j + 3))) (by rw [nI_clamp (by omega)]) ?_
    refine zG.less (ws' := (zW cy adM shM (z_rend cy ad X' 0 shC ++ ((tB cy (ad 152) v1 n1 z1 k1 f1) ++ ((tB cy (ad 153) v2 n2 z2 k2 f2) ++ [(zOut cy ao (vp_updL fo 0 ((fun v : Int32 => if v = 0 then (0 : Int64) else 1) v9))), (zOuD cy aod fd)]))) Y)) (l' := (zW cy ad shC (zLT cy adM (tB cy (ad 152) v1 n1 z1 k1 f1) (tB cy (ad 153) v2 n2 z2 k2 f2) (zOut cy ao (vp_updL fo 0 ((fun v : Int32 => if v = 0 then (0 : Int64) else 1) v9))) (zOuD cy aod fd) Y) X')) (zpM _ _ _ _ _ _) (List.Sublist.refl _) ?_
    refine g_vi (ws' := (zW cy adM shM (z_rend cy ad X' 0 shC ++ ((tB cy (ad 152) v1 n1 z1 k1 f1) ++ ((tB cy (ad 153) v2 n2 z2 k2 f2) ++ [(zOut cy ao (vp_updL fo 0 ((fun v : Int32 => if v = 0 then (0 : Int64) else 1) v9))), (zOuD cy aod fd)]))) Y')) (As := [.int (xs (6 * j + 1)), .int (xs (6 * j + 2)), .int (xs (6 * j + 3))]) (rest := []) (res := b9) C (c_X6_fits l D cy adM (z_rend cy ad X' 0 shC ++ ((tB cy (ad 152) v1 n1 z1 k1 f1) ++ ((tB cy (ad 153) v2 n2 z2 k2 f2) ++ [(zOut cy ao (vp_updL fo 0 ((fun v : Int32 => if v = 0 then (0 : Int64) else 1) v9))), (zOuD cy aod fd)]))) Y (xs (6 * j + 1)) (xs (6 * j + 2)) (xs (6 * j + 3)) e2) zml_RL_194 zcv_X6_fits (zW_get Y sM_0) rfl rfl rfl ⟨Nat.le_of_ble_eq_true rfl, Nat.le_of_ble_eq_true rfl⟩ rfl rfl (Nat.le_of_ble_eq_true rfl) ⟨by show cells + 1 ≤ 603072; omega, by show slots + 6 ≤ 7194730; omega⟩ dL_law_1088 ?_
    refine g_istore (L' := [(7, .int b9), (6, .int (nI 0)), (5, .int (nI (6 * j))), (4, .ref aod), (3, .ref ao), (2, .ref (adM 0)), (1, .ref (ad 0)), (0, .ref b)]) C dL_law_1091 (by decide) rfl ?_
    refine g_aload_n (j := 5) C dL_law_1093 rfl rfl ?_
    refine g_vi (ws' := (zW cy adM shM (z_rend cy ad X' 0 shC ++ ((tB cy (ad 152) v1 n1 z1 k1 f1) ++ ((tB cy (ad 153) v2 n2 z2 k2 f2) ++ [(zOut cy ao (vp_updL fo 0 ((fun v : Int32 => if v = 0 then (0 : Int64) else 1) v9))), (zOuD cy aod fd)]))) Y')) (As := []) (rest := []) (res := Y' 0 0) C (c_X6_thrown l D cy adM (z_rend cy ad X' 0 shC ++ ((tB cy (ad 152) v1 n1 z1 k1 f1) ++ ((tB cy (ad 153) v2 n2 z2 k2 f2) ++ [(zOut cy ao (vp_updL fo 0 ((fun v : Int32 => if v = 0 then (0 : Int64) else 1) v9))), (zOuD cy aod fd)]))) Y') zml_RL_155 zcv_X6_thrown (zW_get Y' sM_0) rfl rfl rfl ⟨Nat.le_of_ble_eq_true rfl, Nat.le_of_ble_eq_true rfl⟩ rfl rfl (Nat.le_of_ble_eq_true rfl) ⟨by show cells + 1 ≤ 603072; omega, by show slots + 6 ≤ 7194730; omega⟩ dL_law_1094 ?_
    refine zG.less (ws' := (zW cy ad shC (zLT cy adM (tB cy (ad 152) v1 n1 z1 k1 f1) (tB cy (ad 153) v2 n2 z2 k2 f2) (zOut cy ao (vp_updL fo 0 ((fun v : Int32 => if v = 0 then (0 : Int64) else 1) v9))) (zOuD cy aod fd) Y') X')) (l' := (zW cy adM shM (z_rend cy ad X' 0 shC ++ ((tB cy (ad 152) v1 n1 z1 k1 f1) ++ ((tB cy (ad 153) v2 n2 z2 k2 f2) ++ [(zOut cy ao (vp_updL fo 0 ((fun v : Int32 => if v = 0 then (0 : Int64) else 1) v9))), (zOuD cy aod fd)]))) Y')) (zpM _ _ _ _ _ _).symm (List.Sublist.refl _) ?_
    refine g_iload (j := 1) C dL_law_1097 rfl ?_
    refine g_icmp_eq C dL_law_1099 (tgt := 1104) (by decide) (fun _ => ?_) (fun h9 => absurd (e3.trans (by rw [h0]; rfl)) h9)
    refine g_iload (j := 1) C dL_law_1104 rfl ?_
    refine g_if_ne C dL_law_1106 (tgt := 1128) (by decide) (fun h9 => absurd nI_0 h9) (fun _ => ?_)
    by_cases hb : b9 = 0
    · skip
      refine g_aload_n (j := 4) C dL_law_1109 rfl rfl ?_
      refine g_iconst (v := (nI 0)) C dL_law_1110 (by decide) ?_
      refine n_lald (q0 := 156) (n := 1) C zLW_o (nI_in (by decide) (by decide)) dL_law_1111 ?_
      refine g_iload (j := 0) C dL_law_1112 rfl ?_
      refine g_if_eq C dL_law_1114 (tgt := 1121) (by decide) (fun _ => ?_) (fun h9 => absurd hb h9)
      refine n_lconst (v := 0) C dL_law_1121 rfl ?_
      refine n_lcmp C dL_law_1122 ?_
      refine g_if_eq C dL_law_1123 (tgt := 1128) (by decide) (fun _ => ?_) (fun h9 => absurd (lg_cmp_rf ((updL_0 _ _).trans (by dsimp only; rw [e4 h0, if_pos hb]))) h9)
      refine g_goto C dL_law_1128 (tgt := 2819) (by decide) ?_
      refine zG.wide (k := cells + 200) (n := slots + 3200) (by omega) (by omega) ?_
      refine zG_sub (L' := [(5, .int (nI (6 * j))), (4, .ref aod), (3, .ref ao), (2, .ref (adM 0)), (1, .ref (ad 0)), (0, .ref b)]) [2, 3, 4, 5, 6, 7] rfl ?_
      exact kk _ ⟨v1, n1, k1, z1, f1, t1, v2, n2, k2, z2, f2, t2, _, fd, X', Y', a', rfl, hP.step e5 e6⟩
    · skip
      refine g_aload_n (j := 4) C dL_law_1109 rfl rfl ?_
      refine g_iconst (v := (nI 0)) C dL_law_1110 (by decide) ?_
      refine n_lald (q0 := 156) (n := 1) C zLW_o (nI_in (by decide) (by decide)) dL_law_1111 ?_
      refine g_iload (j := 0) C dL_law_1112 rfl ?_
      refine g_if_eq C dL_law_1114 (tgt := 1121) (by decide) (fun h9 => absurd h9 hb) (fun _ => ?_)
      refine n_lconst (v := 1) C dL_law_1117 rfl ?_
      refine g_goto C dL_law_1118 (tgt := 1122) (by decide) ?_
      refine n_lcmp C dL_law_1122 ?_
      refine g_if_eq C dL_law_1123 (tgt := 1128) (by decide) (fun _ => ?_) (fun h9 => absurd (lg_cmp_rf ((updL_0 _ _).trans (by dsimp only; rw [e4 h0, if_neg hb]))) h9)
      refine g_goto C dL_law_1128 (tgt := 2819) (by decide) ?_
      refine zG.wide (k := cells + 200) (n := slots + 3200) (by omega) (by omega) ?_
      refine zG_sub (L' := [(5, .int (nI (6 * j))), (4, .ref aod), (3, .ref ao), (2, .ref (adM 0)), (1, .ref (ad 0)), (0, .ref b)]) [2, 3, 4, 5, 6, 7] rfl ?_
      exact kk _ ⟨v1, n1, k1, z1, f1, t1, v2, n2, k2, z2, f2, t2, _, fd, X', Y', a', rfl, hP.step e5 e6⟩
  · skip
    refine g_istore (L' := [(6, .int (nI (i + 1))), (5, .int (nI (6 * j))), (4, .ref aod), (3, .ref ao), (2, .ref (adM 0)), (1, .ref (ad 0)), (0, .ref b)]) C dL_law_1067 (by decide) rfl ?_
    refine g_aload_n (j := 4) C dL_law_1069 rfl rfl ?_
    refine g_aload_n (j := 6) C dL_law_1070 rfl rfl ?_
    refine g_iload (j := 1) C dL_law_1071 rfl ?_
    refine g_iconst (v := (nI 1)) C dL_law_1073 (by decide) ?_
    refine g_iadd C dL_law_1074 ?_
    refine p_num (y := (nI (6 * j + 1))) (nI_add _ _) ?_
    refine n_sld C hX hbl hbA (nI_in (by omega) (by omega)) dL_law_1075 ?_
    refine p_num (y := (xs (6 * j + 1))) (by rw [nI_clamp (by omega)]) ?_
    refine g_aload_n (j := 6) C dL_law_1076 rfl rfl ?_
    refine g_iload (j := 1) C dL_law_1077 rfl ?_
    refine g_iconst (v := (nI 2)) C dL_law_1079 (by decide) ?_
    refine g_iadd C dL_law_1080 ?_
    refine p_num (y := (nI (6 * j + 2))) (nI_add _ _) ?_
    refine n_sld C hX hbl hbA (nI_in (by omega) (by omega)) dL_law_1081 ?_
    refine p_num (y := (xs (6 * j + 2))) (by rw [nI_clamp (by omega)]) ?_
    refine g_aload_n (j := 6) C dL_law_1082 rfl rfl ?_
    refine g_iload (j := 1) C dL_law_1083 rfl ?_
    refine g_iconst (v := (nI 3)) C dL_law_1085 (by decide) ?_
    refine g_iadd C dL_law_1086 ?_
    refine p_num (y := (nI (6 * j + 3))) (nI_add _ _) ?_
    refine n_sld C hX hbl hbA (nI_in (by omega) (by omega)) dL_law_1087 ?_
    refine p_num (y := (xs (6 * j + 3))) (by rw [nI_clamp (by omega)]) ?_
    refine zG.less (ws' := (zW cy adM shM (z_rend cy ad X' 0 shC ++ ((tB cy (ad 152) v1 n1 z1 k1 f1) ++ ((tB cy (ad 153) v2 n2 z2 k2 f2) ++ [(zOut cy ao fo), (zOuD cy aod fd)]))) Y)) (l' := (zW cy ad shC (zLT cy adM (tB cy (ad 152) v1 n1 z1 k1 f1) (tB cy (ad 153) v2 n2 z2 k2 f2) (zOut cy ao fo) (zOuD cy aod fd) Y) X')) (zpM _ _ _ _ _ _) (List.Sublist.refl _) ?_
    refine g_vi (ws' := (zW cy adM shM (z_rend cy ad X' 0 shC ++ ((tB cy (ad 152) v1 n1 z1 k1 f1) ++ ((tB cy (ad 153) v2 n2 z2 k2 f2) ++ [(zOut cy ao fo), (zOuD cy aod fd)]))) Y')) (As := [.int (xs (6 * j + 1)), .int (xs (6 * j + 2)), .int (xs (6 * j + 3))]) (rest := []) (res := b9) C (c_X6_fits l D cy adM (z_rend cy ad X' 0 shC ++ ((tB cy (ad 152) v1 n1 z1 k1 f1) ++ ((tB cy (ad 153) v2 n2 z2 k2 f2) ++ [(zOut cy ao fo), (zOuD cy aod fd)]))) Y (xs (6 * j + 1)) (xs (6 * j + 2)) (xs (6 * j + 3)) e2) zml_RL_194 zcv_X6_fits (zW_get Y sM_0) rfl rfl rfl ⟨Nat.le_of_ble_eq_true rfl, Nat.le_of_ble_eq_true rfl⟩ rfl rfl (Nat.le_of_ble_eq_true rfl) ⟨by show cells + 1 ≤ 603072; omega, by show slots + 6 ≤ 7194730; omega⟩ dL_law_1088 ?_
    refine g_istore (L' := [(7, .int b9), (6, .int (nI (i + 1))), (5, .int (nI (6 * j))), (4, .ref aod), (3, .ref ao), (2, .ref (adM 0)), (1, .ref (ad 0)), (0, .ref b)]) C dL_law_1091 (by decide) rfl ?_
    refine g_aload_n (j := 5) C dL_law_1093 rfl rfl ?_
    refine g_vi (ws' := (zW cy adM shM (z_rend cy ad X' 0 shC ++ ((tB cy (ad 152) v1 n1 z1 k1 f1) ++ ((tB cy (ad 153) v2 n2 z2 k2 f2) ++ [(zOut cy ao fo), (zOuD cy aod fd)]))) Y')) (As := []) (rest := []) (res := Y' 0 0) C (c_X6_thrown l D cy adM (z_rend cy ad X' 0 shC ++ ((tB cy (ad 152) v1 n1 z1 k1 f1) ++ ((tB cy (ad 153) v2 n2 z2 k2 f2) ++ [(zOut cy ao fo), (zOuD cy aod fd)]))) Y') zml_RL_155 zcv_X6_thrown (zW_get Y' sM_0) rfl rfl rfl ⟨Nat.le_of_ble_eq_true rfl, Nat.le_of_ble_eq_true rfl⟩ rfl rfl (Nat.le_of_ble_eq_true rfl) ⟨by show cells + 1 ≤ 603072; omega, by show slots + 6 ≤ 7194730; omega⟩ dL_law_1094 ?_
    refine zG.less (ws' := (zW cy ad shC (zLT cy adM (tB cy (ad 152) v1 n1 z1 k1 f1) (tB cy (ad 153) v2 n2 z2 k2 f2) (zOut cy ao fo) (zOuD cy aod fd) Y') X')) (l' := (zW cy adM shM (z_rend cy ad X' 0 shC ++ ((tB cy (ad 152) v1 n1 z1 k1 f1) ++ ((tB cy (ad 153) v2 n2 z2 k2 f2) ++ [(zOut cy ao fo), (zOuD cy aod fd)]))) Y')) (zpM _ _ _ _ _ _).symm (List.Sublist.refl _) ?_
    refine g_iload (j := 1) C dL_law_1097 rfl ?_
    refine g_icmp_eq C dL_law_1099 (tgt := 1104) (by decide) (fun _ => ?_) (fun h9 => absurd (e3.trans (congrArg nI (kx_31 i _ hi))) h9)
    refine g_iload (j := 1) C dL_law_1104 rfl ?_
    refine g_if_ne C dL_law_1106 (tgt := 1128) (by decide) (fun _ => ?_) (fun h9 => absurd h9 (nIs_ne0 (getE_lt hi (by decide))))
    refine g_goto C dL_law_1128 (tgt := 2819) (by decide) ?_
    refine zG.wide (k := cells + 200) (n := slots + 3200) (by omega) (by omega) ?_
    refine zG_sub (L' := [(5, .int (nI (6 * j))), (4, .ref aod), (3, .ref ao), (2, .ref (adM 0)), (1, .ref (ad 0)), (0, .ref b)]) [2, 3, 4, 5, 6, 7] rfl ?_
    exact kk _ ⟨v1, n1, k1, z1, f1, t1, v2, n2, k2, z2, f2, t2, fo, fd, X', Y', a', rfl, hP.step e5 e6⟩
theorem zml_RL_198 : Cond.methodLink RL 198 yX6_reel ∈ zAll := zg (z_t7 (List.mem_of_getElem? (i := 167) (by decide +kernel))) (by decide +kernel)
set_option maxRecDepth 100000 in
set_option maxHeartbeats 8000000 in
theorem law_reel (C : zC p s m args meth c code 9 RL D (zTy cy) A) (hE : zEl A s s.heap) (hlt : l.stackTraces = false) (hX : va_X b N xs s s.heap) (hbl : b < s.heap.size) (hbA : ¬ A b) (j : Nat) (hj : 6 * j + 6 ≤ N) (hN : N ≤ 3072) (w : va_W) (hJ : zLJ cy ad adM ao aod w) (hc : cells + 200 ≤ 603072) (hs : slots + 3200 ≤ 7194730) (kk : ∀ w', zLJ cy ad adM ao aod w' → zG p l e room_1 s m args below meth c 9 D A (cells + 200) (slots + 3200) Q w' 2819 [(5, .int (nI (6 * j))), (4, .ref aod), (3, .ref ao), (2, .ref (adM 0)), (1, .ref (ad 0)), (0, .ref b)] []) : zG p l e room_1 s m args below meth c 9 D A cells slots Q w 1131 [(5, .int (nI (6 * j))), (4, .ref aod), (3, .ref ao), (2, .ref (adM 0)), (1, .ref (ad 0)), (0, .ref b)] [] := by
  obtain ⟨v1, n1, k1, z1, f1, t1, v2, n2, k2, z2, f2, t2, fo, fd, X, Y, a, rfl, hP⟩ := hJ
  by_cases hb0 : xs (6 * j + 3) = 0
  · skip
    obtain ⟨c9, v9, b9, X', Y', a', e1, e2, e3, e4, e5, e6⟩ := zSimR.up hP.1 (sim_reel hP.1.1 hP.1.2.1 hP.1.2.2.1.1 (xs (6 * j + 1)) (xs (6 * j + 2)) (nI 0))
    have hcd : inC [3, 1] c9 := oc_reel X (xs (6 * j + 1)) (xs (6 * j + 2)) (nI 0) _ e1
    have hM := (c_X5_reel l hlt D cy ad (zLT cy adM (tB cy (ad 152) v1 n1 z1 k1 f1) (tB cy (ad 153) v2 n2 z2 k2 f2) (zOut cy ao fo) (zOuD cy aod fd) Y) X (xs (6 * j + 1)) (xs (6 * j + 2)) (nI 0) e1).toY
    have hw := hw_reel l D cy zTh_ge zEw_th _ (ad 0) _ (xs (6 * j + 1)) (xs (6 * j + 2)) (nI 0) ao 156 fo 1 6 _ _ _ hM rfl rfl ⟨by decide, by decide⟩ (zW_get X sC_0) (fun v w hh => by obtain ⟨_, _, rfl⟩ := hh; exact zLW_o) (fun c w hh h0 => by obtain ⟨rfl, _⟩ := hh; simpa using hcd.ne h0)
    refine g_aload_n (j := 4) C dL_law_1131 rfl rfl ?_
    refine g_aload_n (j := 5) C dL_law_1132 rfl rfl ?_
    refine g_iload (j := 0) C dL_law_1133 rfl ?_
    refine g_iconst (v := (nI 1)) C dL_law_1135 (by decide) ?_
    refine g_iadd C dL_law_1136 ?_
    refine p_num (y := (nI (6 * j + 1))) (nI_add _ _) ?_
    refine n_sld C hX hbl hbA (nI_in (by omega) (by omega)) dL_law_1137 ?_
    refine p_num (y := (xs (6 * j + 1))) (by rw [nI_clamp (by omega)]) ?_
    refine g_aload_n (j := 5) C dL_law_1138 rfl rfl ?_
    refine g_iload (j := 0) C dL_law_1139 rfl ?_
    refine g_iconst (v := (nI 2)) C dL_law_1141 (by decide) ?_
    refine g_iadd C dL_law_1142 ?_
    refine p_num (y := (nI (6 * j + 2))) (nI_add _ _) ?_
    refine n_sld C hX hbl hbA (nI_in (by omega) (by omega)) dL_law_1143 ?_
    refine p_num (y := (xs (6 * j + 2))) (by rw [nI_clamp (by omega)]) ?_
    refine g_aload_n (j := 5) C dL_law_1144 rfl rfl ?_
    refine g_iload (j := 0) C dL_law_1145 rfl ?_
    refine g_iconst (v := (nI 3)) C dL_law_1147 (by decide) ?_
    refine g_iadd C dL_law_1148 ?_
    refine p_num (y := (nI (6 * j + 3))) (nI_add _ _) ?_
    refine n_sld C hX hbl hbA (nI_in (by omega) (by omega)) dL_law_1149 ?_
    refine p_num (y := (xs (6 * j + 3))) (by rw [nI_clamp (by omega)]) ?_
    refine g_if_eq C dL_law_1150 (tgt := 1157) (by decide) (fun _ => ?_) (fun h9 => absurd hb0 h9)
    refine g_iconst (v := (nI 0)) C dL_law_1157 (by decide) ?_
    refine g_aload_n (j := 2) C dL_law_1158 rfl rfl ?_
    refine t_SWi (As := [.ref (ad 0), .int (xs (6 * j + 1)), .int (xs (6 * j + 2)), .int (nI 0), .ref ao]) (rest := []) zEw_ge hE.1 C hw zcw_reel rfl rfl ⟨Nat.le_of_ble_eq_true rfl, Nat.le_of_ble_eq_true rfl⟩ rfl rfl (Nat.le_of_ble_eq_true rfl) ⟨by show cells + 1 ≤ 603072; omega, by show slots + 6 ≤ 7194730; omega⟩ dL_law_1159 ?_
    intro r w hr9
    rcases hr9 with ⟨rfl, v', w1, ⟨h0, hv9, rfl⟩, rfl⟩ | ⟨i, c', hi, ⟨rfl, rfl⟩, hne, rfl⟩
    · skip
      have hv9 : v9 = v' := hv9.symm
      subst hv9
      rw [show List.set _ 156 _ = (zW cy ad shC (zLT cy adM (tB cy (ad 152) v1 n1 z1 k1 f1) (tB cy (ad 153) v2 n2 z2 k2 f2) (zOut cy ao (vp_updL fo 0 v9.toInt64)) (zOuD cy aod fd) Y) X') from zLW_so]
      have h0 : c9 = 0 := h0
      refine g_istore (L' := [(6, .int (nI 0)), (5, .int (nI (6 * j))), (4, .ref aod), (3, .ref ao), (2, .ref (adM 0)), (1, .ref (ad 0)), (0, .ref b)]) C dL_law_1162 (by decide) rfl ?_
      refine g_aload_n (j := 4) C dL_law_1164 rfl rfl ?_
      refine g_aload_n (j := 6) C dL_law_1165 rfl rfl ?_
      refine g_iload (j := 1) C dL_law_1166 rfl ?_
      refine g_iconst (v := (nI 1)) C dL_law_1168 (by decide) ?_
      refine g_iadd C dL_law_1169 ?_
      refine p_num (y := (nI (6 * j + 1))) (nI_add _ _) ?_
      refine n_sld C hX hbl hbA (nI_in (by omega) (by omega)) dL_law_1170 ?_
      refine p_num (y := (xs (6 * j + 1))) (by rw [nI_clamp (by omega)]) ?_
      refine g_aload_n (j := 6) C dL_law_1171 rfl rfl ?_
      refine g_iload (j := 1) C dL_law_1172 rfl ?_
      refine g_iconst (v := (nI 2)) C dL_law_1174 (by decide) ?_
      refine g_iadd C dL_law_1175 ?_
      refine p_num (y := (nI (6 * j + 2))) (nI_add _ _) ?_
      refine n_sld C hX hbl hbA (nI_in (by omega) (by omega)) dL_law_1176 ?_
      refine p_num (y := (xs (6 * j + 2))) (by rw [nI_clamp (by omega)]) ?_
      refine g_aload_n (j := 6) C dL_law_1177 rfl rfl ?_
      refine g_iload (j := 1) C dL_law_1178 rfl ?_
      refine g_iconst (v := (nI 3)) C dL_law_1180 (by decide) ?_
      refine g_iadd C dL_law_1181 ?_
      refine p_num (y := (nI (6 * j + 3))) (nI_add _ _) ?_
      refine n_sld C hX hbl hbA (nI_in (by omega) (by omega)) dL_law_1182 ?_
      refine p_num (y := (xs (6 * j + 3))) (by rw [nI_clamp (by omega)]) ?_
      refine g_if_eq C dL_law_1183 (tgt := 1190) (by decide) (fun _ => ?_) (fun h9 => absurd hb0 h9)
      refine g_iconst (v := (nI 0)) C dL_law_1190 (by decide) ?_
      refine zG.less (ws' := (zW cy adM shM (z_rend cy ad X' 0 shC ++ ((tB cy (ad 152) v1 n1 z1 k1 f1) ++ ((tB cy (ad 153) v2 n2 z2 k2 f2) ++ [(zOut cy ao (vp_updL fo 0 v9.toInt64)), (zOuD cy aod fd)]))) Y)) (l' := (zW cy ad shC (zLT cy adM (tB cy (ad 152) v1 n1 z1 k1 f1) (tB cy (ad 153) v2 n2 z2 k2 f2) (zOut cy ao (vp_updL fo 0 v9.toInt64)) (zOuD cy aod fd) Y) X')) (zpM _ _ _ _ _ _) (List.Sublist.refl _) ?_
      refine g_vi (ws' := (zW cy adM shM (z_rend cy ad X' 0 shC ++ ((tB cy (ad 152) v1 n1 z1 k1 f1) ++ ((tB cy (ad 153) v2 n2 z2 k2 f2) ++ [(zOut cy ao (vp_updL fo 0 v9.toInt64)), (zOuD cy aod fd)]))) Y')) (As := [.int (xs (6 * j + 1)), .int (xs (6 * j + 2)), .int (nI 0)]) (rest := []) (res := b9) C (c_X6_reel l D cy adM (z_rend cy ad X' 0 shC ++ ((tB cy (ad 152) v1 n1 z1 k1 f1) ++ ((tB cy (ad 153) v2 n2 z2 k2 f2) ++ [(zOut cy ao (vp_updL fo 0 v9.toInt64)), (zOuD cy aod fd)]))) Y (xs (6 * j + 1)) (xs (6 * j + 2)) (nI 0) e2) zml_RL_198 zcv_X6_reel (zW_get Y sM_0) rfl rfl rfl ⟨Nat.le_of_ble_eq_true rfl, Nat.le_of_ble_eq_true rfl⟩ rfl rfl (Nat.le_of_ble_eq_true rfl) ⟨by show cells + 1 ≤ 603072; omega, by show slots + 6 ≤ 7194730; omega⟩ dL_law_1191 ?_
      refine g_istore (L' := [(7, .int b9), (6, .int (nI 0)), (5, .int (nI (6 * j))), (4, .ref aod), (3, .ref ao), (2, .ref (adM 0)), (1, .ref (ad 0)), (0, .ref b)]) C dL_law_1194 (by decide) rfl ?_
      refine g_aload_n (j := 5) C dL_law_1196 rfl rfl ?_
      refine g_vi (ws' := (zW cy adM shM (z_rend cy ad X' 0 shC ++ ((tB cy (ad 152) v1 n1 z1 k1 f1) ++ ((tB cy (ad 153) v2 n2 z2 k2 f2) ++ [(zOut cy ao (vp_updL fo 0 v9.toInt64)), (zOuD cy aod fd)]))) Y')) (As := []) (rest := []) (res := Y' 0 0) C (c_X6_thrown l D cy adM (z_rend cy ad X' 0 shC ++ ((tB cy (ad 152) v1 n1 z1 k1 f1) ++ ((tB cy (ad 153) v2 n2 z2 k2 f2) ++ [(zOut cy ao (vp_updL fo 0 v9.toInt64)), (zOuD cy aod fd)]))) Y') zml_RL_155 zcv_X6_thrown (zW_get Y' sM_0) rfl rfl rfl ⟨Nat.le_of_ble_eq_true rfl, Nat.le_of_ble_eq_true rfl⟩ rfl rfl (Nat.le_of_ble_eq_true rfl) ⟨by show cells + 1 ≤ 603072; omega, by show slots + 6 ≤ 7194730; omega⟩ dL_law_1197 ?_
      refine zG.less (ws' := (zW cy ad shC (zLT cy adM (tB cy (ad 152) v1 n1 z1 k1 f1) (tB cy (ad 153) v2 n2 z2 k2 f2) (zOut cy ao (vp_updL fo 0 v9.toInt64)) (zOuD cy aod fd) Y') X')) (l' := (zW cy adM shM (z_rend cy ad X' 0 shC ++ ((tB cy (ad 152) v1 n1 z1 k1 f1) ++ ((tB cy (ad 153) v2 n2 z2 k2 f2) ++ [(zOut cy ao (vp_updL fo 0 v9.toInt64)), (zOuD cy aod fd)]))) Y')) (zpM _ _ _ _ _ _).symm (List.Sublist.refl _) ?_
      refine g_iload (j := 1) C dL_law_1200 rfl ?_
      refine g_icmp_eq C dL_law_1202 (tgt := 1207) (by decide) (fun _ => ?_) (fun h9 => absurd (e3.trans (by rw [h0]; rfl)) h9)
      refine g_iload (j := 1) C dL_law_1207 rfl ?_
      refine g_if_ne C dL_law_1209 (tgt := 1224) (by decide) (fun h9 => absurd nI_0 h9) (fun _ => ?_)
      refine g_aload_n (j := 4) C dL_law_1212 rfl rfl ?_
      refine g_iconst (v := (nI 0)) C dL_law_1213 (by decide) ?_
      refine n_lald (q0 := 156) (n := 1) C zLW_o (nI_in (by decide) (by decide)) dL_law_1214 ?_
      refine g_iload (j := 0) C dL_law_1215 rfl ?_
      refine n_i2l C dL_law_1217 ?_
      refine n_lcmp C dL_law_1218 ?_
      refine g_if_eq C dL_law_1219 (tgt := 1224) (by decide) (fun _ => ?_) (fun h9 => absurd (lg_cmp_rf ((updL_0 _ _).trans (congrArg Int32.toInt64 (e4 h0)))) h9)
      refine g_goto C dL_law_1224 (tgt := 2819) (by decide) ?_
      refine zG.wide (k := cells + 200) (n := slots + 3200) (by omega) (by omega) ?_
      refine zG_sub (L' := [(5, .int (nI (6 * j))), (4, .ref aod), (3, .ref ao), (2, .ref (adM 0)), (1, .ref (ad 0)), (0, .ref b)]) [2, 3, 4, 5, 6, 7] rfl ?_
      exact kk _ ⟨v1, n1, k1, z1, f1, t1, v2, n2, k2, z2, f2, t2, _, fd, X', Y', a', rfl, hP.step e5 e6⟩
    · skip
      refine g_istore (L' := [(6, .int (nI (i + 1))), (5, .int (nI (6 * j))), (4, .ref aod), (3, .ref ao), (2, .ref (adM 0)), (1, .ref (ad 0)), (0, .ref b)]) C dL_law_1162 (by decide) rfl ?_
      refine g_aload_n (j := 4) C dL_law_1164 rfl rfl ?_
      refine g_aload_n (j := 6) C dL_law_1165 rfl rfl ?_
      refine g_iload (j := 1) C dL_law_1166 rfl ?_
      refine g_iconst (v := (nI 1)) C dL_law_1168 (by decide) ?_
      refine g_iadd C dL_law_1169 ?_
      refine p_num (y := (nI (6 * j + 1))) (nI_add _ _) ?_
      refine n_sld C hX hbl hbA (nI_in (by omega) (by omega)) dL_law_1170 ?_
      refine p_num (y := (xs (6 * j + 1))) (by rw [nI_clamp (by omega)]) ?_
      refine g_aload_n (j := 6) C dL_law_1171 rfl rfl ?_
      refine g_iload (j := 1) C dL_law_1172 rfl ?_
      refine g_iconst (v := (nI 2)) C dL_law_1174 (by decide) ?_
      refine g_iadd C dL_law_1175 ?_
      refine p_num (y := (nI (6 * j + 2))) (nI_add _ _) ?_
      refine n_sld C hX hbl hbA (nI_in (by omega) (by omega)) dL_law_1176 ?_
      refine p_num (y := (xs (6 * j + 2))) (by rw [nI_clamp (by omega)]) ?_
      refine g_aload_n (j := 6) C dL_law_1177 rfl rfl ?_
      refine g_iload (j := 1) C dL_law_1178 rfl ?_
      refine g_iconst (v := (nI 3)) C dL_law_1180 (by decide) ?_
      refine g_iadd C dL_law_1181 ?_
      refine p_num (y := (nI (6 * j + 3))) (nI_add _ _) ?_
      refine n_sld C hX hbl hbA (nI_in (by omega) (by omega)) dL_law_1182 ?_
      refine p_num (y := (xs (6 * j + 3))) (by rw [nI_clamp (by omega)]) ?_
      refine g_if_eq C dL_law_1183 (tgt := 1190) (by decide) (fun _ => ?_) (fun h9 => absurd hb0 h9)
      refine g_iconst (v := (nI 0)) C dL_law_1190 (by decide) ?_
      refine zG.less (ws' := (zW cy adM shM (z_rend cy ad X' 0 shC ++ ((tB cy (ad 152) v1 n1 z1 k1 f1) ++ ((tB cy (ad 153) v2 n2 z2 k2 f2) ++ [(zOut cy ao fo), (zOuD cy aod fd)]))) Y)) (l' := (zW cy ad shC (zLT cy adM (tB cy (ad 152) v1 n1 z1 k1 f1) (tB cy (ad 153) v2 n2 z2 k2 f2) (zOut cy ao fo) (zOuD cy aod fd) Y) X')) (zpM _ _ _ _ _ _) (List.Sublist.refl _) ?_
      refine g_vi (ws' := (zW cy adM shM (z_rend cy ad X' 0 shC ++ ((tB cy (ad 152) v1 n1 z1 k1 f1) ++ ((tB cy (ad 153) v2 n2 z2 k2 f2) ++ [(zOut cy ao fo), (zOuD cy aod fd)]))) Y')) (As := [.int (xs (6 * j + 1)), .int (xs (6 * j + 2)), .int (nI 0)]) (rest := []) (res := b9) C (c_X6_reel l D cy adM (z_rend cy ad X' 0 shC ++ ((tB cy (ad 152) v1 n1 z1 k1 f1) ++ ((tB cy (ad 153) v2 n2 z2 k2 f2) ++ [(zOut cy ao fo), (zOuD cy aod fd)]))) Y (xs (6 * j + 1)) (xs (6 * j + 2)) (nI 0) e2) zml_RL_198 zcv_X6_reel (zW_get Y sM_0) rfl rfl rfl ⟨Nat.le_of_ble_eq_true rfl, Nat.le_of_ble_eq_true rfl⟩ rfl rfl (Nat.le_of_ble_eq_true rfl) ⟨by show cells + 1 ≤ 603072; omega, by show slots + 6 ≤ 7194730; omega⟩ dL_law_1191 ?_
      refine g_istore (L' := [(7, .int b9), (6, .int (nI (i + 1))), (5, .int (nI (6 * j))), (4, .ref aod), (3, .ref ao), (2, .ref (adM 0)), (1, .ref (ad 0)), (0, .ref b)]) C dL_law_1194 (by decide) rfl ?_
      refine g_aload_n (j := 5) C dL_law_1196 rfl rfl ?_
      refine g_vi (ws' := (zW cy adM shM (z_rend cy ad X' 0 shC ++ ((tB cy (ad 152) v1 n1 z1 k1 f1) ++ ((tB cy (ad 153) v2 n2 z2 k2 f2) ++ [(zOut cy ao fo), (zOuD cy aod fd)]))) Y')) (As := []) (rest := []) (res := Y' 0 0) C (c_X6_thrown l D cy adM (z_rend cy ad X' 0 shC ++ ((tB cy (ad 152) v1 n1 z1 k1 f1) ++ ((tB cy (ad 153) v2 n2 z2 k2 f2) ++ [(zOut cy ao fo), (zOuD cy aod fd)]))) Y') zml_RL_155 zcv_X6_thrown (zW_get Y' sM_0) rfl rfl rfl ⟨Nat.le_of_ble_eq_true rfl, Nat.le_of_ble_eq_true rfl⟩ rfl rfl (Nat.le_of_ble_eq_true rfl) ⟨by show cells + 1 ≤ 603072; omega, by show slots + 6 ≤ 7194730; omega⟩ dL_law_1197 ?_
      refine zG.less (ws' := (zW cy ad shC (zLT cy adM (tB cy (ad 152) v1 n1 z1 k1 f1) (tB cy (ad 153) v2 n2 z2 k2 f2) (zOut cy ao fo) (zOuD cy aod fd) Y') X')) (l' := (zW cy adM shM (z_rend cy ad X' 0 shC ++ ((tB cy (ad 152) v1 n1 z1 k1 f1) ++ ((tB cy (ad 153) v2 n2 z2 k2 f2) ++ [(zOut cy ao fo), (zOuD cy aod fd)]))) Y')) (zpM _ _ _ _ _ _).symm (List.Sublist.refl _) ?_
      refine g_iload (j := 1) C dL_law_1200 rfl ?_
      refine g_icmp_eq C dL_law_1202 (tgt := 1207) (by decide) (fun _ => ?_) (fun h9 => absurd (e3.trans (congrArg nI (kx_31 i _ hi))) h9)
      refine g_iload (j := 1) C dL_law_1207 rfl ?_
      refine g_if_ne C dL_law_1209 (tgt := 1224) (by decide) (fun _ => ?_) (fun h9 => absurd h9 (nIs_ne0 (getE_lt hi (by decide))))
      refine g_goto C dL_law_1224 (tgt := 2819) (by decide) ?_
      refine zG.wide (k := cells + 200) (n := slots + 3200) (by omega) (by omega) ?_
      refine zG_sub (L' := [(5, .int (nI (6 * j))), (4, .ref aod), (3, .ref ao), (2, .ref (adM 0)), (1, .ref (ad 0)), (0, .ref b)]) [2, 3, 4, 5, 6, 7] rfl ?_
      exact kk _ ⟨v1, n1, k1, z1, f1, t1, v2, n2, k2, z2, f2, t2, fo, fd, X', Y', a', rfl, hP.step e5 e6⟩
  · skip
    obtain ⟨c9, v9, b9, X', Y', a', e1, e2, e3, e4, e5, e6⟩ := zSimR.up hP.1 (sim_reel hP.1.1 hP.1.2.1 hP.1.2.2.1.1 (xs (6 * j + 1)) (xs (6 * j + 2)) (nI 1))
    have hcd : inC [3, 1] c9 := oc_reel X (xs (6 * j + 1)) (xs (6 * j + 2)) (nI 1) _ e1
    have hM := (c_X5_reel l hlt D cy ad (zLT cy adM (tB cy (ad 152) v1 n1 z1 k1 f1) (tB cy (ad 153) v2 n2 z2 k2 f2) (zOut cy ao fo) (zOuD cy aod fd) Y) X (xs (6 * j + 1)) (xs (6 * j + 2)) (nI 1) e1).toY
    have hw := hw_reel l D cy zTh_ge zEw_th _ (ad 0) _ (xs (6 * j + 1)) (xs (6 * j + 2)) (nI 1) ao 156 fo 1 6 _ _ _ hM rfl rfl ⟨by decide, by decide⟩ (zW_get X sC_0) (fun v w hh => by obtain ⟨_, _, rfl⟩ := hh; exact zLW_o) (fun c w hh h0 => by obtain ⟨rfl, _⟩ := hh; simpa using hcd.ne h0)
    refine g_aload_n (j := 4) C dL_law_1131 rfl rfl ?_
    refine g_aload_n (j := 5) C dL_law_1132 rfl rfl ?_
    refine g_iload (j := 0) C dL_law_1133 rfl ?_
    refine g_iconst (v := (nI 1)) C dL_law_1135 (by decide) ?_
    refine g_iadd C dL_law_1136 ?_
    refine p_num (y := (nI (6 * j + 1))) (nI_add _ _) ?_
    refine n_sld C hX hbl hbA (nI_in (by omega) (by omega)) dL_law_1137 ?_
    refine p_num (y := (xs (6 * j + 1))) (by rw [nI_clamp (by omega)]) ?_
    refine g_aload_n (j := 5) C dL_law_1138 rfl rfl ?_
    refine g_iload (j := 0) C dL_law_1139 rfl ?_
    refine g_iconst (v := (nI 2)) C dL_law_1141 (by decide) ?_
    refine g_iadd C dL_law_1142 ?_
    refine p_num (y := (nI (6 * j + 2))) (nI_add _ _) ?_
    refine n_sld C hX hbl hbA (nI_in (by omega) (by omega)) dL_law_1143 ?_
    refine p_num (y := (xs (6 * j + 2))) (by rw [nI_clamp (by omega)]) ?_
    refine g_aload_n (j := 5) C dL_law_1144 rfl rfl ?_
    refine g_iload (j := 0) C dL_law_1145 rfl ?_
    refine g_iconst (v := (nI 3)) C dL_law_1147 (by decide) ?_
    refine g_iadd C dL_law_1148 ?_
    refine p_num (y := (nI (6 * j + 3))) (nI_add _ _) ?_
    refine n_sld C hX hbl hbA (nI_in (by omega) (by omega)) dL_law_1149 ?_
    refine p_num (y := (xs (6 * j + 3))) (by rw [nI_clamp (by omega)]) ?_
    refine g_if_eq C dL_law_1150 (tgt := 1157) (by decide) (fun h9 => absurd h9 hb0) (fun _ => ?_)
    refine g_iconst (v := (nI 1)) C dL_law_1153 (by decide) ?_
    refine g_goto C dL_law_1154 (tgt := 1158) (by decide) ?_
    refine g_aload_n (j := 2) C dL_law_1158 rfl rfl ?_
    refine t_SWi (As := [.ref (ad 0), .int (xs (6 * j + 1)), .int (xs (6 * j + 2)), .int (nI 1), .ref ao]) (rest := []) zEw_ge hE.1 C hw zcw_reel rfl rfl ⟨Nat.le_of_ble_eq_true rfl, Nat.le_of_ble_eq_true rfl⟩ rfl rfl (Nat.le_of_ble_eq_true rfl) ⟨by show cells + 1 ≤ 603072; omega, by show slots + 6 ≤ 7194730; omega⟩ dL_law_1159 ?_
    intro r w hr9
    rcases hr9 with ⟨rfl, v', w1, ⟨h0, hv9, rfl⟩, rfl⟩ | ⟨i, c', hi, ⟨rfl, rfl⟩, hne, rfl⟩
    · skip
      have hv9 : v9 = v' := hv9.symm
      subst hv9
      rw [show List.set _ 156 _ = (zW cy ad shC (zLT cy adM (tB cy (ad 152) v1 n1 z1 k1 f1) (tB cy (ad 153) v2 n2 z2 k2 f2) (zOut cy ao (vp_updL fo 0 v9.toInt64)) (zOuD cy aod fd) Y) X') from zLW_so]
      have h0 : c9 = 0 := h0
      refine g_istore (L' := [(6, .int (nI 0)), (5, .int (nI (6 * j))), (4, .ref aod), (3, .ref ao), (2, .ref (adM 0)), (1, .ref (ad 0)), (0, .ref b)]) C dL_law_1162 (by decide) rfl ?_
      refine g_aload_n (j := 4) C dL_law_1164 rfl rfl ?_
      refine g_aload_n (j := 6) C dL_law_1165 rfl rfl ?_
      refine g_iload (j := 1) C dL_law_1166 rfl ?_
      refine g_iconst (v := (nI 1)) C dL_law_1168 (by decide) ?_
      refine g_iadd C dL_law_1169 ?_
      refine p_num (y := (nI (6 * j + 1))) (nI_add _ _) ?_
      refine n_sld C hX hbl hbA (nI_in (by omega) (by omega)) dL_law_1170 ?_
      refine p_num (y := (xs (6 * j + 1))) (by rw [nI_clamp (by omega)]) ?_
      refine g_aload_n (j := 6) C dL_law_1171 rfl rfl ?_
      refine g_iload (j := 1) C dL_law_1172 rfl ?_
      refine g_iconst (v := (nI 2)) C dL_law_1174 (by decide) ?_
      refine g_iadd C dL_law_1175 ?_
      refine p_num (y := (nI (6 * j + 2))) (nI_add _ _) ?_
      refine n_sld C hX hbl hbA (nI_in (by omega) (by omega)) dL_law_1176 ?_
      refine p_num (y := (xs (6 * j + 2))) (by rw [nI_clamp (by omega)]) ?_
      refine g_aload_n (j := 6) C dL_law_1177 rfl rfl ?_
      refine g_iload (j := 1) C dL_law_1178 rfl ?_
      refine g_iconst (v := (nI 3)) C dL_law_1180 (by decide) ?_
      refine g_iadd C dL_law_1181 ?_
      refine p_num (y := (nI (6 * j + 3))) (nI_add _ _) ?_
      refine n_sld C hX hbl hbA (nI_in (by omega) (by omega)) dL_law_1182 ?_
      refine p_num (y := (xs (6 * j + 3))) (by rw [nI_clamp (by omega)]) ?_
      refine g_if_eq C dL_law_1183 (tgt := 1190) (by decide) (fun h9 => absurd h9 hb0) (fun _ => ?_)
      refine g_iconst (v := (nI 1)) C dL_law_1186 (by decide) ?_
      refine g_goto C dL_law_1187 (tgt := 1191) (by decide) ?_
      refine zG.less (ws' := (zW cy adM shM (z_rend cy ad X' 0 shC ++ ((tB cy (ad 152) v1 n1 z1 k1 f1) ++ ((tB cy (ad 153) v2 n2 z2 k2 f2) ++ [(zOut cy ao (vp_updL fo 0 v9.toInt64)), (zOuD cy aod fd)]))) Y)) (l' := (zW cy ad shC (zLT cy adM (tB cy (ad 152) v1 n1 z1 k1 f1) (tB cy (ad 153) v2 n2 z2 k2 f2) (zOut cy ao (vp_updL fo 0 v9.toInt64)) (zOuD cy aod fd) Y) X')) (zpM _ _ _ _ _ _) (List.Sublist.refl _) ?_
      refine g_vi (ws' := (zW cy adM shM (z_rend cy ad X' 0 shC ++ ((tB cy (ad 152) v1 n1 z1 k1 f1) ++ ((tB cy (ad 153) v2 n2 z2 k2 f2) ++ [(zOut cy ao (vp_updL fo 0 v9.toInt64)), (zOuD cy aod fd)]))) Y')) (As := [.int (xs (6 * j + 1)), .int (xs (6 * j + 2)), .int (nI 1)]) (rest := []) (res := b9) C (c_X6_reel l D cy adM (z_rend cy ad X' 0 shC ++ ((tB cy (ad 152) v1 n1 z1 k1 f1) ++ ((tB cy (ad 153) v2 n2 z2 k2 f2) ++ [(zOut cy ao (vp_updL fo 0 v9.toInt64)), (zOuD cy aod fd)]))) Y (xs (6 * j + 1)) (xs (6 * j + 2)) (nI 1) e2) zml_RL_198 zcv_X6_reel (zW_get Y sM_0) rfl rfl rfl ⟨Nat.le_of_ble_eq_true rfl, Nat.le_of_ble_eq_true rfl⟩ rfl rfl (Nat.le_of_ble_eq_true rfl) ⟨by show cells + 1 ≤ 603072; omega, by show slots + 6 ≤ 7194730; omega⟩ dL_law_1191 ?_
      refine g_istore (L' := [(7, .int b9), (6, .int (nI 0)), (5, .int (nI (6 * j))), (4, .ref aod), (3, .ref ao), (2, .ref (adM 0)), (1, .ref (ad 0)), (0, .ref b)]) C dL_law_1194 (by decide) rfl ?_
      refine g_aload_n (j := 5) C dL_law_1196 rfl rfl ?_
      refine g_vi (ws' := (zW cy adM shM (z_rend cy ad X' 0 shC ++ ((tB cy (ad 152) v1 n1 z1 k1 f1) ++ ((tB cy (ad 153) v2 n2 z2 k2 f2) ++ [(zOut cy ao (vp_updL fo 0 v9.toInt64)), (zOuD cy aod fd)]))) Y')) (As := []) (rest := []) (res := Y' 0 0) C (c_X6_thrown l D cy adM (z_rend cy ad X' 0 shC ++ ((tB cy (ad 152) v1 n1 z1 k1 f1) ++ ((tB cy (ad 153) v2 n2 z2 k2 f2) ++ [(zOut cy ao (vp_updL fo 0 v9.toInt64)), (zOuD cy aod fd)]))) Y') zml_RL_155 zcv_X6_thrown (zW_get Y' sM_0) rfl rfl rfl ⟨Nat.le_of_ble_eq_true rfl, Nat.le_of_ble_eq_true rfl⟩ rfl rfl (Nat.le_of_ble_eq_true rfl) ⟨by show cells + 1 ≤ 603072; omega, by show slots + 6 ≤ 7194730; omega⟩ dL_law_1197 ?_
      refine zG.less (ws' := (zW cy ad shC (zLT cy adM (tB cy (ad 152) v1 n1 z1 k1 f1) (tB cy (ad 153) v2 n2 z2 k2 f2) (zOut cy ao (vp_updL fo 0 v9.toInt64)) (zOuD cy aod fd) Y') X')) (l' := (zW cy adM shM (z_rend cy ad X' 0 shC ++ ((tB cy (ad 152) v1 n1 z1 k1 f1) ++ ((tB cy (ad 153) v2 n2 z2 k2 f2) ++ [(zOut cy ao (vp_updL fo 0 v9.toInt64)), (zOuD cy aod fd)]))) Y')) (zpM _ _ _ _ _ _).symm (List.Sublist.refl _) ?_
      refine g_iload (j := 1) C dL_law_1200 rfl ?_
      refine g_icmp_eq C dL_law_1202 (tgt := 1207) (by decide) (fun _ => ?_) (fun h9 => absurd (e3.trans (by rw [h0]; rfl)) h9)
      refine g_iload (j := 1) C dL_law_1207 rfl ?_
      refine g_if_ne C dL_law_1209 (tgt := 1224) (by decide) (fun h9 => absurd nI_0 h9) (fun _ => ?_)
      refine g_aload_n (j := 4) C dL_law_1212 rfl rfl ?_
      refine g_iconst (v := (nI 0)) C dL_law_1213 (by decide) ?_
      refine n_lald (q0 := 156) (n := 1) C zLW_o (nI_in (by decide) (by decide)) dL_law_1214 ?_
      refine g_iload (j := 0) C dL_law_1215 rfl ?_
      refine n_i2l C dL_law_1217 ?_
      refine n_lcmp C dL_law_1218 ?_
      refine g_if_eq C dL_law_1219 (tgt := 1224) (by decide) (fun _ => ?_) (fun h9 => absurd (lg_cmp_rf ((updL_0 _ _).trans (congrArg Int32.toInt64 (e4 h0)))) h9)
      refine g_goto C dL_law_1224 (tgt := 2819) (by decide) ?_
      refine zG.wide (k := cells + 200) (n := slots + 3200) (by omega) (by omega) ?_
      refine zG_sub (L' := [(5, .int (nI (6 * j))), (4, .ref aod), (3, .ref ao), (2, .ref (adM 0)), (1, .ref (ad 0)), (0, .ref b)]) [2, 3, 4, 5, 6, 7] rfl ?_
      exact kk _ ⟨v1, n1, k1, z1, f1, t1, v2, n2, k2, z2, f2, t2, _, fd, X', Y', a', rfl, hP.step e5 e6⟩
    · skip
      refine g_istore (L' := [(6, .int (nI (i + 1))), (5, .int (nI (6 * j))), (4, .ref aod), (3, .ref ao), (2, .ref (adM 0)), (1, .ref (ad 0)), (0, .ref b)]) C dL_law_1162 (by decide) rfl ?_
      refine g_aload_n (j := 4) C dL_law_1164 rfl rfl ?_
      refine g_aload_n (j := 6) C dL_law_1165 rfl rfl ?_
      refine g_iload (j := 1) C dL_law_1166 rfl ?_
      refine g_iconst (v := (nI 1)) C dL_law_1168 (by decide) ?_
      refine g_iadd C dL_law_1169 ?_
      refine p_num (y := (nI (6 * j + 1))) (nI_add _ _) ?_
      refine n_sld C hX hbl hbA (nI_in (by omega) (by omega)) dL_law_1170 ?_
      refine p_num (y := (xs (6 * j + 1))) (by rw [nI_clamp (by omega)]) ?_
      refine g_aload_n (j := 6) C dL_law_1171 rfl rfl ?_
      refine g_iload (j := 1) C dL_law_1172 rfl ?_
      refine g_iconst (v := (nI 2)) C dL_law_1174 (by decide) ?_
      refine g_iadd C dL_law_1175 ?_
      refine p_num (y := (nI (6 * j + 2))) (nI_add _ _) ?_
      refine n_sld C hX hbl hbA (nI_in (by omega) (by omega)) dL_law_1176 ?_
      refine p_num (y := (xs (6 * j + 2))) (by rw [nI_clamp (by omega)]) ?_
      refine g_aload_n (j := 6) C dL_law_1177 rfl rfl ?_
      refine g_iload (j := 1) C dL_law_1178 rfl ?_
      refine g_iconst (v := (nI 3)) C dL_law_1180 (by decide) ?_
      refine g_iadd C dL_law_1181 ?_
      refine p_num (y := (nI (6 * j + 3))) (nI_add _ _) ?_
      refine n_sld C hX hbl hbA (nI_in (by omega) (by omega)) dL_law_1182 ?_
      refine p_num (y := (xs (6 * j + 3))) (by rw [nI_clamp (by omega)]) ?_
      refine g_if_eq C dL_law_1183 (tgt := 1190) (by decide) (fun h9 => absurd h9 hb0) (fun _ => ?_)
      refine g_iconst (v := (nI 1)) C dL_law_1186 (by decide) ?_
      refine g_goto C dL_law_1187 (tgt := 1191) (by decide) ?_
      refine zG.less (ws' := (zW cy adM shM (z_rend cy ad X' 0 shC ++ ((tB cy (ad 152) v1 n1 z1 k1 f1) ++ ((tB cy (ad 153) v2 n2 z2 k2 f2) ++ [(zOut cy ao fo), (zOuD cy aod fd)]))) Y)) (l' := (zW cy ad shC (zLT cy adM (tB cy (ad 152) v1 n1 z1 k1 f1) (tB cy (ad 153) v2 n2 z2 k2 f2) (zOut cy ao fo) (zOuD cy aod fd) Y) X')) (zpM _ _ _ _ _ _) (List.Sublist.refl _) ?_
      refine g_vi (ws' := (zW cy adM shM (z_rend cy ad X' 0 shC ++ ((tB cy (ad 152) v1 n1 z1 k1 f1) ++ ((tB cy (ad 153) v2 n2 z2 k2 f2) ++ [(zOut cy ao fo), (zOuD cy aod fd)]))) Y')) (As := [.int (xs (6 * j + 1)), .int (xs (6 * j + 2)), .int (nI 1)]) (rest := []) (res := b9) C (c_X6_reel l D cy adM (z_rend cy ad X' 0 shC ++ ((tB cy (ad 152) v1 n1 z1 k1 f1) ++ ((tB cy (ad 153) v2 n2 z2 k2 f2) ++ [(zOut cy ao fo), (zOuD cy aod fd)]))) Y (xs (6 * j + 1)) (xs (6 * j + 2)) (nI 1) e2) zml_RL_198 zcv_X6_reel (zW_get Y sM_0) rfl rfl rfl ⟨Nat.le_of_ble_eq_true rfl, Nat.le_of_ble_eq_true rfl⟩ rfl rfl (Nat.le_of_ble_eq_true rfl) ⟨by show cells + 1 ≤ 603072; omega, by show slots + 6 ≤ 7194730; omega⟩ dL_law_1191 ?_
      refine g_istore (L' := [(7, .int b9), (6, .int (nI (i + 1))), (5, .int (nI (6 * j))), (4, .ref aod), (3, .ref ao), (2, .ref (adM 0)), (1, .ref (ad 0)), (0, .ref b)]) C dL_law_1194 (by decide) rfl ?_
      refine g_aload_n (j := 5) C dL_law_1196 rfl rfl ?_
      refine g_vi (ws' := (zW cy adM shM (z_rend cy ad X' 0 shC ++ ((tB cy (ad 152) v1 n1 z1 k1 f1) ++ ((tB cy (ad 153) v2 n2 z2 k2 f2) ++ [(zOut cy ao fo), (zOuD cy aod fd)]))) Y')) (As := []) (rest := []) (res := Y' 0 0) C (c_X6_thrown l D cy adM (z_rend cy ad X' 0 shC ++ ((tB cy (ad 152) v1 n1 z1 k1 f1) ++ ((tB cy (ad 153) v2 n2 z2 k2 f2) ++ [(zOut cy ao fo), (zOuD cy aod fd)]))) Y') zml_RL_155 zcv_X6_thrown (zW_get Y' sM_0) rfl rfl rfl ⟨Nat.le_of_ble_eq_true rfl, Nat.le_of_ble_eq_true rfl⟩ rfl rfl (Nat.le_of_ble_eq_true rfl) ⟨by show cells + 1 ≤ 603072; omega, by show slots + 6 ≤ 7194730; omega⟩ dL_law_1197 ?_
      refine zG.less (ws' := (zW cy ad shC (zLT cy adM (tB cy (ad 152) v1 n1 z1 k1 f1) (tB cy (ad 153) v2 n2 z2 k2 f2) (zOut cy ao fo) (zOuD cy aod fd) Y') X')) (l' := (zW cy adM shM (z_rend cy ad X' 0 shC ++ ((tB cy (ad 152) v1 n1 z1 k1 f1) ++ ((tB cy (ad 153) v2 n2 z2 k2 f2) ++ [(zOut cy ao fo), (zOuD cy aod fd)]))) Y')) (zpM _ _ _ _ _ _).symm (List.Sublist.refl _) ?_
      refine g_iload (j := 1) C dL_law_1200 rfl ?_
      refine g_icmp_eq C dL_law_1202 (tgt := 1207) (by decide) (fun _ => ?_) (fun h9 => absurd (e3.trans (congrArg nI (kx_31 i _ hi))) h9)
      refine g_iload (j := 1) C dL_law_1207 rfl ?_
      refine g_if_ne C dL_law_1209 (tgt := 1224) (by decide) (fun _ => ?_) (fun h9 => absurd h9 (nIs_ne0 (getE_lt hi (by decide))))
      refine g_goto C dL_law_1224 (tgt := 2819) (by decide) ?_
      refine zG.wide (k := cells + 200) (n := slots + 3200) (by omega) (by omega) ?_
      refine zG_sub (L' := [(5, .int (nI (6 * j))), (4, .ref aod), (3, .ref ao), (2, .ref (adM 0)), (1, .ref (ad 0)), (0, .ref b)]) [2, 3, 4, 5, 6, 7] rfl ?_
      exact kk _ ⟨v1, n1, k1, z1, f1, t1, v2, n2, k2, z2, f2, t2, fo, fd, X', Y', a', rfl, hP.step e5 e6⟩
theorem zml_RL_201 : Cond.methodLink RL 201 yX6_plan ∈ zAll := zg (z_t7 (List.mem_of_getElem? (i := 184) (by decide +kernel))) (by decide +kernel)
set_option maxRecDepth 100000 in
set_option maxHeartbeats 8000000 in
theorem law_plan (C : zC p s m args meth c code 9 RL D (zTy cy) A) (hE : zEl A s s.heap) (hlt : l.stackTraces = false) (hX : va_X b N xs s s.heap) (hbl : b < s.heap.size) (hbA : ¬ A b) (j : Nat) (hj : 6 * j + 6 ≤ N) (hN : N ≤ 3072) (w : va_W) (hJ : zLJ cy ad adM ao aod w) (hc : cells + 200 ≤ 603072) (hs : slots + 3200 ≤ 7194730) (kk : ∀ w', zLJ cy ad adM ao aod w' → zG p l e room_1 s m args below meth c 9 D A (cells + 200) (slots + 3200) Q w' 2819 [(5, .int (nI (6 * j))), (4, .ref aod), (3, .ref ao), (2, .ref (adM 0)), (1, .ref (ad 0)), (0, .ref b)] []) : zG p l e room_1 s m args below meth c 9 D A cells slots Q w 1227 [(5, .int (nI (6 * j))), (4, .ref aod), (3, .ref ao), (2, .ref (adM 0)), (1, .ref (ad 0)), (0, .ref b)] [] := by
  obtain ⟨v1, n1, k1, z1, f1, t1, v2, n2, k2, z2, f2, t2, fo, fd, X, Y, a, rfl, hP⟩ := hJ
  obtain ⟨c9, v9, b9, X', Y', a', e1, e2, e3, e4, e5, e6⟩ := sim_plan hP.1 (xs (6 * j + 1)) (xs (6 * j + 2)) (xs (6 * j + 3)) (xs (6 * j + 4))
  have hcd : inC [3, 1, 5] c9 := oc_plan X (xs (6 * j + 1)) (xs (6 * j + 2)) (xs (6 * j + 3)) (xs (6 * j + 4)) _ e1
  have hM := (c_X5_plan l hlt D cy ad (zLT cy adM (tB cy (ad 152) v1 n1 z1 k1 f1) (tB cy (ad 153) v2 n2 z2 k2 f2) (zOut cy ao fo) (zOuD cy aod fd) Y) X (xs (6 * j + 1)) (xs (6 * j + 2)) (xs (6 * j + 3)) (xs (6 * j + 4)) e1).toY
  have hw := hw_plan l D cy zTh_ge zEw_th _ (ad 0) _ (xs (6 * j + 1)) (xs (6 * j + 2)) (xs (6 * j + 3)) (xs (6 * j + 4)) ao 156 fo 1 6 _ _ _ hM rfl rfl ⟨by decide, by decide⟩ (zW_get X sC_0) (fun v w hh => by obtain ⟨_, _, rfl⟩ := hh; exact zLW_o) (fun c w hh h0 => by obtain ⟨rfl, _⟩ := hh; simpa using hcd.ne h0)
  refine g_aload_n (j := 4) C dL_law_1227 rfl rfl ?_
  refine g_aload_n (j := 5) C dL_law_1228 rfl rfl ?_
  refine g_iload (j := 0) C dL_law_1229 rfl ?_
  refine g_iconst (v := (nI 1)) C dL_law_1231 (by decide) ?_
  refine g_iadd C dL_law_1232 ?_
  refine p_num (y := (nI (6 * j + 1))) (nI_add _ _) ?_
  refine n_sld C hX hbl hbA (nI_in (by omega) (by omega)) dL_law_1233 ?_
  refine p_num (y := (xs (6 * j + 1))) (by rw [nI_clamp (by omega)]) ?_
  refine g_aload_n (j := 5) C dL_law_1234 rfl rfl ?_
  refine g_iload (j := 0) C dL_law_1235 rfl ?_
  refine g_iconst (v := (nI 2)) C dL_law_1237 (by decide) ?_
  refine g_iadd C dL_law_1238 ?_
  refine p_num (y := (nI (6 * j + 2))) (nI_add _ _) ?_
  refine n_sld C hX hbl hbA (nI_in (by omega) (by omega)) dL_law_1239 ?_
  refine p_num (y := (xs (6 * j + 2))) (by rw [nI_clamp (by omega)]) ?_
  refine g_aload_n (j := 5) C dL_law_1240 rfl rfl ?_
  refine g_iload (j := 0) C dL_law_1241 rfl ?_
  refine g_iconst (v := (nI 3)) C dL_law_1243 (by decide) ?_
  refine g_iadd C dL_law_1244 ?_
  refine p_num (y := (nI (6 * j + 3))) (nI_add _ _) ?_
  refine n_sld C hX hbl hbA (nI_in (by omega) (by omega)) dL_law_1245 ?_
  refine p_num (y := (xs (6 * j + 3))) (by rw [nI_clamp (by omega)]) ?_
  refine g_aload_n (j := 5) C dL_law_1246 rfl rfl ?_
  refine g_iload (j := 0) C dL_law_1247 rfl ?_
  refine g_iconst (v := (nI 4)) C dL_law_1249 (by decide) ?_
  refine g_iadd C dL_law_1250 ?_
  refine p_num (y := (nI (6 * j + 4))) (nI_add _ _) ?_
  refine n_sld C hX hbl hbA (nI_in (by omega) (by omega)) dL_law_1251 ?_
  refine p_num (y := (xs (6 * j + 4))) (by rw [nI_clamp (by omega)]) ?_
  refine g_aload_n (j := 2) C dL_law_1252 rfl rfl ?_
  refine t_SWi (As := [.ref (ad 0), .int (xs (6 * j + 1)), .int (xs (6 * j + 2)), .int (xs (6 * j + 3)), .int (xs (6 * j + 4)), .ref ao]) (rest := []) zEw_ge hE.1 C hw zcw_plan rfl rfl ⟨Nat.le_of_ble_eq_true rfl, Nat.le_of_ble_eq_true rfl⟩ rfl rfl (Nat.le_of_ble_eq_true rfl) ⟨by show cells + 1 ≤ 603072; omega, by show slots + 6 ≤ 7194730; omega⟩ dL_law_1253 ?_
  intro r w hr9
  rcases hr9 with ⟨rfl, v', w1, ⟨h0, hv9, rfl⟩, rfl⟩ | ⟨i, c', hi, ⟨rfl, rfl⟩, hne, rfl⟩
  · skip
    have hv9 : v9 = v' := hv9.symm
    subst hv9
    rw [show List.set _ 156 _ = (zW cy ad shC (zLT cy adM (tB cy (ad 152) v1 n1 z1 k1 f1) (tB cy (ad 153) v2 n2 z2 k2 f2) (zOut cy ao (vp_updL fo 0 v9.toInt64)) (zOuD cy aod fd) Y) X') from zLW_so]
    have h0 : c9 = 0 := h0
    refine g_istore (L' := [(6, .int (nI 0)), (5, .int (nI (6 * j))), (4, .ref aod), (3, .ref ao), (2, .ref (adM 0)), (1, .ref (ad 0)), (0, .ref b)]) C dL_law_1256 (by decide) rfl ?_
    refine g_aload_n (j := 4) C dL_law_1258 rfl rfl ?_
    refine g_aload_n (j := 6) C dL_law_1259 rfl rfl ?_
    refine g_iload (j := 1) C dL_law_1260 rfl ?_
    refine g_iconst (v := (nI 1)) C dL_law_1262 (by decide) ?_
    refine g_iadd C dL_law_1263 ?_
    refine p_num (y := (nI (6 * j + 1))) (nI_add _ _) ?_
    refine n_sld C hX hbl hbA (nI_in (by omega) (by omega)) dL_law_1264 ?_
    refine p_num (y := (xs (6 * j + 1))) (by rw [nI_clamp (by omega)]) ?_
    refine g_aload_n (j := 6) C dL_law_1265 rfl rfl ?_
    refine g_iload (j := 1) C dL_law_1266 rfl ?_
    refine g_iconst (v := (nI 2)) C dL_law_1268 (by decide) ?_
    refine g_iadd C dL_law_1269 ?_
    refine p_num (y := (nI (6 * j + 2))) (nI_add _ _) ?_
    refine n_sld C hX hbl hbA (nI_in (by omega) (by omega)) dL_law_1270 ?_
    refine p_num (y := (xs (6 * j + 2))) (by rw [nI_clamp (by omega)]) ?_
    refine g_aload_n (j := 6) C dL_law_1271 rfl rfl ?_
    refine g_iload (j := 1) C dL_law_1272 rfl ?_
    refine g_iconst (v := (nI 3)) C dL_law_1274 (by decide) ?_
    refine g_iadd C dL_law_1275 ?_
    refine p_num (y := (nI (6 * j + 3))) (nI_add _ _) ?_
    refine n_sld C hX hbl hbA (nI_in (by omega) (by omega)) dL_law_1276 ?_
    refine p_num (y := (xs (6 * j + 3))) (by rw [nI_clamp (by omega)]) ?_
    refine g_aload_n (j := 6) C dL_law_1277 rfl rfl ?_
    refine g_iload (j := 1) C dL_law_1278 rfl ?_
    refine g_iconst (v := (nI 4)) C dL_law_1280 (by decide) ?_
    refine g_iadd C dL_law_1281 ?_
    refine p_num (y := (nI (6 * j + 4))) (nI_add _ _) ?_
    refine n_sld C hX hbl hbA (nI_in (by omega) (by omega)) dL_law_1282 ?_
    refine p_num (y := (xs (6 * j + 4))) (by rw [nI_clamp (by omega)]) ?_
    refine zG.less (ws' := (zW cy adM shM (z_rend cy ad X' 0 shC ++ ((tB cy (ad 152) v1 n1 z1 k1 f1) ++ ((tB cy (ad 153) v2 n2 z2 k2 f2) ++ [(zOut cy ao (vp_updL fo 0 v9.toInt64)), (zOuD cy aod fd)]))) Y)) (l' := (zW cy ad shC (zLT cy adM (tB cy (ad 152) v1 n1 z1 k1 f1) (tB cy (ad 153) v2 n2 z2 k2 f2) (zOut cy ao (vp_updL fo 0 v9.toInt64)) (zOuD cy aod fd) Y) X')) (zpM _ _ _ _ _ _) (List.Sublist.refl _) ?_
    refine g_vi (ws' := (zW cy adM shM (z_rend cy ad X' 0 shC ++ ((tB cy (ad 152) v1 n1 z1 k1 f1) ++ ((tB cy (ad 153) v2 n2 z2 k2 f2) ++ [(zOut cy ao (vp_updL fo 0 v9.toInt64)), (zOuD cy aod fd)]))) Y')) (As := [.int (xs (6 * j + 1)), .int (xs (6 * j + 2)), .int (xs (6 * j + 3)), .int (xs (6 * j + 4))]) (rest := []) (res := b9) C (c_X6_plan l D cy adM (z_rend cy ad X' 0 shC ++ ((tB cy (ad 152) v1 n1 z1 k1 f1) ++ ((tB cy (ad 153) v2 n2 z2 k2 f2) ++ [(zOut cy ao (vp_updL fo 0 v9.toInt64)), (zOuD cy aod fd)]))) Y (xs (6 * j + 1)) (xs (6 * j + 2)) (xs (6 * j + 3)) (xs (6 * j + 4)) e2) zml_RL_201 zcv_X6_plan (zW_get Y sM_0) rfl rfl rfl ⟨Nat.le_of_ble_eq_true rfl, Nat.le_of_ble_eq_true rfl⟩ rfl rfl (Nat.le_of_ble_eq_true rfl) ⟨by show cells + 1 ≤ 603072; omega, by show slots + 6 ≤ 7194730; omega⟩ dL_law_1283 ?_
    refine g_istore (L' := [(7, .int b9), (6, .int (nI 0)), (5, .int (nI (6 * j))), (4, .ref aod), (3, .ref ao), (2, .ref (adM 0)), (1, .ref (ad 0)), (0, .ref b)]) C dL_law_1286 (by decide) rfl ?_
    refine g_aload_n (j := 5) C dL_law_1288 rfl rfl ?_
    refine g_vi (ws' := (zW cy adM shM (z_rend cy ad X' 0 shC ++ ((tB cy (ad 152) v1 n1 z1 k1 f1) ++ ((tB cy (ad 153) v2 n2 z2 k2 f2) ++ [(zOut cy ao (vp_updL fo 0 v9.toInt64)), (zOuD cy aod fd)]))) Y')) (As := []) (rest := []) (res := Y' 0 0) C (c_X6_thrown l D cy adM (z_rend cy ad X' 0 shC ++ ((tB cy (ad 152) v1 n1 z1 k1 f1) ++ ((tB cy (ad 153) v2 n2 z2 k2 f2) ++ [(zOut cy ao (vp_updL fo 0 v9.toInt64)), (zOuD cy aod fd)]))) Y') zml_RL_155 zcv_X6_thrown (zW_get Y' sM_0) rfl rfl rfl ⟨Nat.le_of_ble_eq_true rfl, Nat.le_of_ble_eq_true rfl⟩ rfl rfl (Nat.le_of_ble_eq_true rfl) ⟨by show cells + 1 ≤ 603072; omega, by show slots + 6 ≤ 7194730; omega⟩ dL_law_1289 ?_
    refine zG.less (ws' := (zW cy ad shC (zLT cy adM (tB cy (ad 152) v1 n1 z1 k1 f1) (tB cy (ad 153) v2 n2 z2 k2 f2) (zOut cy ao (vp_updL fo 0 v9.toInt64)) (zOuD cy aod fd) Y') X')) (l' := (zW cy adM shM (z_rend cy ad X' 0 shC ++ ((tB cy (ad 152) v1 n1 z1 k1 f1) ++ ((tB cy (ad 153) v2 n2 z2 k2 f2) ++ [(zOut cy ao (vp_updL fo 0 v9.toInt64)), (zOuD cy aod fd)]))) Y')) (zpM _ _ _ _ _ _).symm (List.Sublist.refl _) ?_
    refine g_iload (j := 1) C dL_law_1292 rfl ?_
    refine g_icmp_eq C dL_law_1294 (tgt := 1299) (by decide) (fun _ => ?_) (fun h9 => absurd (e3.trans (by rw [h0]; rfl)) h9)
    refine g_iload (j := 1) C dL_law_1299 rfl ?_
    refine g_if_ne C dL_law_1301 (tgt := 1316) (by decide) (fun h9 => absurd nI_0 h9) (fun _ => ?_)
    refine g_aload_n (j := 4) C dL_law_1304 rfl rfl ?_
    refine g_iconst (v := (nI 0)) C dL_law_1305 (by decide) ?_
    refine n_lald (q0 := 156) (n := 1) C zLW_o (nI_in (by decide) (by decide)) dL_law_1306 ?_
    refine g_iload (j := 0) C dL_law_1307 rfl ?_
    refine n_i2l C dL_law_1309 ?_
    refine n_lcmp C dL_law_1310 ?_
    refine g_if_eq C dL_law_1311 (tgt := 1316) (by decide) (fun _ => ?_) (fun h9 => absurd (lg_cmp_rf ((updL_0 _ _).trans (congrArg Int32.toInt64 (e4 h0)))) h9)
    refine g_goto C dL_law_1316 (tgt := 2819) (by decide) ?_
    refine zG.wide (k := cells + 200) (n := slots + 3200) (by omega) (by omega) ?_
    refine zG_sub (L' := [(5, .int (nI (6 * j))), (4, .ref aod), (3, .ref ao), (2, .ref (adM 0)), (1, .ref (ad 0)), (0, .ref b)]) [2, 3, 4, 5, 6, 7] rfl ?_
    exact kk _ ⟨v1, n1, k1, z1, f1, t1, v2, n2, k2, z2, f2, t2, _, fd, X', Y', a', rfl, hP.step e5 e6⟩
  · skip
    refine g_istore (L' := [(6, .int (nI (i + 1))), (5, .int (nI (6 * j))), (4, .ref aod), (3, .ref ao), (2, .ref (adM 0)), (1, .ref (ad 0)), (0, .ref b)]) C dL_law_1256 (by decide) rfl ?_
    refine g_aload_n (j := 4) C dL_law_1258 rfl rfl ?_
    refine g_aload_n (j := 6) C dL_law_1259 rfl rfl ?_
    refine g_iload (j := 1) C dL_law_1260 rfl ?_
    refine g_iconst (v := (nI 1)) C dL_law_1262 (by decide) ?_
    refine g_iadd C dL_law_1263 ?_
    refine p_num (y := (nI (6 * j + 1))) (nI_add _ _) ?_
    refine n_sld C hX hbl hbA (nI_in (by omega) (by omega)) dL_law_1264 ?_
    refine p_num (y := (xs (6 * j + 1))) (by rw [nI_clamp (by omega)]) ?_
    refine g_aload_n (j := 6) C dL_law_1265 rfl rfl ?_
    refine g_iload (j := 1) C dL_law_1266 rfl ?_
    refine g_iconst (v := (nI 2)) C dL_law_1268 (by decide) ?_
    refine g_iadd C dL_law_1269 ?_
    refine p_num (y := (nI (6 * j + 2))) (nI_add _ _) ?_
    refine n_sld C hX hbl hbA (nI_in (by omega) (by omega)) dL_law_1270 ?_
    refine p_num (y := (xs (6 * j + 2))) (by rw [nI_clamp (by omega)]) ?_
    refine g_aload_n (j := 6) C dL_law_1271 rfl rfl ?_
    refine g_iload (j := 1) C dL_law_1272 rfl ?_
    refine g_iconst (v := (nI 3)) C dL_law_1274 (by decide) ?_
    refine g_iadd C dL_law_1275 ?_
    refine p_num (y := (nI (6 * j + 3))) (nI_add _ _) ?_
    refine n_sld C hX hbl hbA (nI_in (by omega) (by omega)) dL_law_1276 ?_
    refine p_num (y := (xs (6 * j + 3))) (by rw [nI_clamp (by omega)]) ?_
    refine g_aload_n (j := 6) C dL_law_1277 rfl rfl ?_
    refine g_iload (j := 1) C dL_law_1278 rfl ?_
    refine g_iconst (v := (nI 4)) C dL_law_1280 (by decide) ?_
    refine g_iadd C dL_law_1281 ?_
    refine p_num (y := (nI (6 * j + 4))) (nI_add _ _) ?_
    refine n_sld C hX hbl hbA (nI_in (by omega) (by omega)) dL_law_1282 ?_
    refine p_num (y := (xs (6 * j + 4))) (by rw [nI_clamp (by omega)]) ?_
    refine zG.less (ws' := (zW cy adM shM (z_rend cy ad X' 0 shC ++ ((tB cy (ad 152) v1 n1 z1 k1 f1) ++ ((tB cy (ad 153) v2 n2 z2 k2 f2) ++ [(zOut cy ao fo), (zOuD cy aod fd)]))) Y)) (l' := (zW cy ad shC (zLT cy adM (tB cy (ad 152) v1 n1 z1 k1 f1) (tB cy (ad 153) v2 n2 z2 k2 f2) (zOut cy ao fo) (zOuD cy aod fd) Y) X')) (zpM _ _ _ _ _ _) (List.Sublist.refl _) ?_
    refine g_vi (ws' := (zW cy adM shM (z_rend cy ad X' 0 shC ++ ((tB cy (ad 152) v1 n1 z1 k1 f1) ++ ((tB cy (ad 153) v2 n2 z2 k2 f2) ++ [(zOut cy ao fo), (zOuD cy aod fd)]))) Y')) (As := [.int (xs (6 * j + 1)), .int (xs (6 * j + 2)), .int (xs (6 * j + 3)), .int (xs (6 * j + 4))]) (rest := []) (res := b9) C (c_X6_plan l D cy adM (z_rend cy ad X' 0 shC ++ ((tB cy (ad 152) v1 n1 z1 k1 f1) ++ ((tB cy (ad 153) v2 n2 z2 k2 f2) ++ [(zOut cy ao fo), (zOuD cy aod fd)]))) Y (xs (6 * j + 1)) (xs (6 * j + 2)) (xs (6 * j + 3)) (xs (6 * j + 4)) e2) zml_RL_201 zcv_X6_plan (zW_get Y sM_0) rfl rfl rfl ⟨Nat.le_of_ble_eq_true rfl, Nat.le_of_ble_eq_true rfl⟩ rfl rfl (Nat.le_of_ble_eq_true rfl) ⟨by show cells + 1 ≤ 603072; omega, by show slots + 6 ≤ 7194730; omega⟩ dL_law_1283 ?_
    refine g_istore (L' := [(7, .int b9), (6, .int (nI (i + 1))), (5, .int (nI (6 * j))), (4, .ref aod), (3, .ref ao), (2, .ref (adM 0)), (1, .ref (ad 0)), (0, .ref b)]) C dL_law_1286 (by decide) rfl ?_
    refine g_aload_n (j := 5) C dL_law_1288 rfl rfl ?_
    refine g_vi (ws' := (zW cy adM shM (z_rend cy ad X' 0 shC ++ ((tB cy (ad 152) v1 n1 z1 k1 f1) ++ ((tB cy (ad 153) v2 n2 z2 k2 f2) ++ [(zOut cy ao fo), (zOuD cy aod fd)]))) Y')) (As := []) (rest := []) (res := Y' 0 0) C (c_X6_thrown l D cy adM (z_rend cy ad X' 0 shC ++ ((tB cy (ad 152) v1 n1 z1 k1 f1) ++ ((tB cy (ad 153) v2 n2 z2 k2 f2) ++ [(zOut cy ao fo), (zOuD cy aod fd)]))) Y') zml_RL_155 zcv_X6_thrown (zW_get Y' sM_0) rfl rfl rfl ⟨Nat.le_of_ble_eq_true rfl, Nat.le_of_ble_eq_true rfl⟩ rfl rfl (Nat.le_of_ble_eq_true rfl) ⟨by show cells + 1 ≤ 603072; omega, by show slots + 6 ≤ 7194730; omega⟩ dL_law_1289 ?_
    refine zG.less (ws' := (zW cy ad shC (zLT cy adM (tB cy (ad 152) v1 n1 z1 k1 f1) (tB cy (ad 153) v2 n2 z2 k2 f2) (zOut cy ao fo) (zOuD cy aod fd) Y') X')) (l' := (zW cy adM shM (z_rend cy ad X' 0 shC ++ ((tB cy (ad 152) v1 n1 z1 k1 f1) ++ ((tB cy (ad 153) v2 n2 z2 k2 f2) ++ [(zOut cy ao fo), (zOuD cy aod fd)]))) Y')) (zpM _ _ _ _ _ _).symm (List.Sublist.refl _) ?_
    refine g_iload (j := 1) C dL_law_1292 rfl ?_
    refine g_icmp_eq C dL_law_1294 (tgt := 1299) (by decide) (fun _ => ?_) (fun h9 => absurd (e3.trans (congrArg nI (kx_315 i _ hi))) h9)
    refine g_iload (j := 1) C dL_law_1299 rfl ?_
    refine g_if_ne C dL_law_1301 (tgt := 1316) (by decide) (fun _ => ?_) (fun h9 => absurd h9 (nIs_ne0 (getE_lt hi (by decide))))
    refine g_goto C dL_law_1316 (tgt := 2819) (by decide) ?_
    refine zG.wide (k := cells + 200) (n := slots + 3200) (by omega) (by omega) ?_
    refine zG_sub (L' := [(5, .int (nI (6 * j))), (4, .ref aod), (3, .ref ao), (2, .ref (adM 0)), (1, .ref (ad 0)), (0, .ref b)]) [2, 3, 4, 5, 6, 7] rfl ?_
    exact kk _ ⟨v1, n1, k1, z1, f1, t1, v2, n2, k2, z2, f2, t2, fo, fd, X', Y', a', rfl, hP.step e5 e6⟩
theorem zml_RL_204 : Cond.methodLink RL 204 yX6_move ∈ zAll := zg (z_t8 (List.mem_of_getElem? (i := 7) (by decide +kernel))) (by decide +kernel)
set_option maxRecDepth 100000 in
set_option maxHeartbeats 8000000 in
theorem law_move (C : zC p s m args meth c code 9 RL D (zTy cy) A) (hE : zEl A s s.heap) (hlt : l.stackTraces = false) (hX : va_X b N xs s s.heap) (hbl : b < s.heap.size) (hbA : ¬ A b) (j : Nat) (hj : 6 * j + 6 ≤ N) (hN : N ≤ 3072) (w : va_W) (hJ : zLJ cy ad adM ao aod w) (hc : cells + 200 ≤ 603072) (hs : slots + 3200 ≤ 7194730) (kk : ∀ w', zLJ cy ad adM ao aod w' → zG p l e room_1 s m args below meth c 9 D A (cells + 200) (slots + 3200) Q w' 2819 [(5, .int (nI (6 * j))), (4, .ref aod), (3, .ref ao), (2, .ref (adM 0)), (1, .ref (ad 0)), (0, .ref b)] []) : zG p l e room_1 s m args below meth c 9 D A cells slots Q w 1319 [(5, .int (nI (6 * j))), (4, .ref aod), (3, .ref ao), (2, .ref (adM 0)), (1, .ref (ad 0)), (0, .ref b)] [] := by
  obtain ⟨v1, n1, k1, z1, f1, t1, v2, n2, k2, z2, f2, t2, fo, fd, X, Y, a, rfl, hP⟩ := hJ
  obtain ⟨c9, v9, b9, X', Y', a', e1, e2, e3, e4, e5, e6⟩ := sim_move hP.1 (xs (6 * j + 1)) (xs (6 * j + 2)) (xs (6 * j + 3))
  have hcd : inC [3, 1, 2, 5] c9 := oc_move X (xs (6 * j + 1)) (xs (6 * j + 2)) (xs (6 * j + 3)) _ e1
  have hM := (c_X5_move l hlt D cy ad (zLT cy adM (tB cy (ad 152) v1 n1 z1 k1 f1) (tB cy (ad 153) v2 n2 z2 k2 f2) (zOut cy ao fo) (zOuD cy aod fd) Y) X (xs (6 * j + 1)) (xs (6 * j + 2)) (xs (6 * j + 3)) e1).toY
  have hw := hw_move l D cy zTh_ge zEw_th _ (ad 0) _ (xs (6 * j + 1)) (xs (6 * j + 2)) (xs (6 * j + 3)) ao 156 fo 1 6 _ _ _ hM rfl rfl ⟨by decide, by decide⟩ (zW_get X sC_0) (fun v w hh => by obtain ⟨_, _, rfl⟩ := hh; exact zLW_o) (fun c w hh h0 => by obtain ⟨rfl, _⟩ := hh; simpa using hcd.ne h0)
  refine g_aload_n (j := 4) C dL_law_1319 rfl rfl ?_
  refine g_aload_n (j := 5) C dL_law_1320 rfl rfl ?_
  refine g_iload (j := 0) C dL_law_1321 rfl ?_
  refine g_iconst (v := (nI 1)) C dL_law_1323 (by decide) ?_
  refine g_iadd C dL_law_1324 ?_
  refine p_num (y := (nI (6 * j + 1))) (nI_add _ _) ?_
  refine n_sld C hX hbl hbA (nI_in (by omega) (by omega)) dL_law_1325 ?_
  refine p_num (y := (xs (6 * j + 1))) (by rw [nI_clamp (by omega)]) ?_
  refine g_aload_n (j := 5) C dL_law_1326 rfl rfl ?_
  refine g_iload (j := 0) C dL_law_1327 rfl ?_
  refine g_iconst (v := (nI 2)) C dL_law_1329 (by decide) ?_
  refine g_iadd C dL_law_1330 ?_
  refine p_num (y := (nI (6 * j + 2))) (nI_add _ _) ?_
  refine n_sld C hX hbl hbA (nI_in (by omega) (by omega)) dL_law_1331 ?_
  refine p_num (y := (xs (6 * j + 2))) (by rw [nI_clamp (by omega)]) ?_
  refine g_aload_n (j := 5) C dL_law_1332 rfl rfl ?_
  refine g_iload (j := 0) C dL_law_1333 rfl ?_
  refine g_iconst (v := (nI 3)) C dL_law_1335 (by decide) ?_
  refine g_iadd C dL_law_1336 ?_
  refine p_num (y := (nI (6 * j + 3))) (nI_add _ _) ?_
  refine n_sld C hX hbl hbA (nI_in (by omega) (by omega)) dL_law_1337 ?_
  refine p_num (y := (xs (6 * j + 3))) (by rw [nI_clamp (by omega)]) ?_
  refine g_aload_n (j := 2) C dL_law_1338 rfl rfl ?_
  refine t_SWi (As := [.ref (ad 0), .int (xs (6 * j + 1)), .int (xs (6 * j + 2)), .int (xs (6 * j + 3)), .ref ao]) (rest := []) zEw_ge hE.1 C hw zcw_move rfl rfl ⟨Nat.le_of_ble_eq_true rfl, Nat.le_of_ble_eq_true rfl⟩ rfl rfl (Nat.le_of_ble_eq_true rfl) ⟨by show cells + 1 ≤ 603072; omega, by show slots + 6 ≤ 7194730; omega⟩ dL_law_1339 ?_
  intro r w hr9
  rcases hr9 with ⟨rfl, v', w1, ⟨h0, hv9, rfl⟩, rfl⟩ | ⟨i, c', hi, ⟨rfl, rfl⟩, hne, rfl⟩
  · skip
    have hv9 : v9 = v' := hv9.symm
    subst hv9
    rw [show List.set _ 156 _ = (zW cy ad shC (zLT cy adM (tB cy (ad 152) v1 n1 z1 k1 f1) (tB cy (ad 153) v2 n2 z2 k2 f2) (zOut cy ao (vp_updL fo 0 v9.toInt64)) (zOuD cy aod fd) Y) X') from zLW_so]
    have h0 : c9 = 0 := h0
    refine g_istore (L' := [(6, .int (nI 0)), (5, .int (nI (6 * j))), (4, .ref aod), (3, .ref ao), (2, .ref (adM 0)), (1, .ref (ad 0)), (0, .ref b)]) C dL_law_1342 (by decide) rfl ?_
    refine g_aload_n (j := 4) C dL_law_1344 rfl rfl ?_
    refine g_aload_n (j := 6) C dL_law_1345 rfl rfl ?_
    refine g_iload (j := 1) C dL_law_1346 rfl ?_
    refine g_iconst (v := (nI 1)) C dL_law_1348 (by decide) ?_
    refine g_iadd C dL_law_1349 ?_
    refine p_num (y := (nI (6 * j + 1))) (nI_add _ _) ?_
    refine n_sld C hX hbl hbA (nI_in (by omega) (by omega)) dL_law_1350 ?_
    refine p_num (y := (xs (6 * j + 1))) (by rw [nI_clamp (by omega)]) ?_
    refine g_aload_n (j := 6) C dL_law_1351 rfl rfl ?_
    refine g_iload (j := 1) C dL_law_1352 rfl ?_
    refine g_iconst (v := (nI 2)) C dL_law_1354 (by decide) ?_
    refine g_iadd C dL_law_1355 ?_
    refine p_num (y := (nI (6 * j + 2))) (nI_add _ _) ?_
    refine n_sld C hX hbl hbA (nI_in (by omega) (by omega)) dL_law_1356 ?_
    refine p_num (y := (xs (6 * j + 2))) (by rw [nI_clamp (by omega)]) ?_
    refine g_aload_n (j := 6) C dL_law_1357 rfl rfl ?_
    refine g_iload (j := 1) C dL_law_1358 rfl ?_
    refine g_iconst (v := (nI 3)) C dL_law_1360 (by decide) ?_
    refine g_iadd C dL_law_1361 ?_
    refine p_num (y := (nI (6 * j + 3))) (nI_add _ _) ?_
    refine n_sld C hX hbl hbA (nI_in (by omega) (by omega)) dL_law_1362 ?_
    refine p_num (y := (xs (6 * j + 3))) (by rw [nI_clamp (by omega)]) ?_
    refine zG.less (ws' := (zW cy adM shM (z_rend cy ad X' 0 shC ++ ((tB cy (ad 152) v1 n1 z1 k1 f1) ++ ((tB cy (ad 153) v2 n2 z2 k2 f2) ++ [(zOut cy ao (vp_updL fo 0 v9.toInt64)), (zOuD cy aod fd)]))) Y)) (l' := (zW cy ad shC (zLT cy adM (tB cy (ad 152) v1 n1 z1 k1 f1) (tB cy (ad 153) v2 n2 z2 k2 f2) (zOut cy ao (vp_updL fo 0 v9.toInt64)) (zOuD cy aod fd) Y) X')) (zpM _ _ _ _ _ _) (List.Sublist.refl _) ?_
    refine g_vi (ws' := (zW cy adM shM (z_rend cy ad X' 0 shC ++ ((tB cy (ad 152) v1 n1 z1 k1 f1) ++ ((tB cy (ad 153) v2 n2 z2 k2 f2) ++ [(zOut cy ao (vp_updL fo 0 v9.toInt64)), (zOuD cy aod fd)]))) Y')) (As := [.int (xs (6 * j + 1)), .int (xs (6 * j + 2)), .int (xs (6 * j + 3))]) (rest := []) (res := b9) C (c_X6_move l D cy adM (z_rend cy ad X' 0 shC ++ ((tB cy (ad 152) v1 n1 z1 k1 f1) ++ ((tB cy (ad 153) v2 n2 z2 k2 f2) ++ [(zOut cy ao (vp_updL fo 0 v9.toInt64)), (zOuD cy aod fd)]))) Y (xs (6 * j + 1)) (xs (6 * j + 2)) (xs (6 * j + 3)) e2) zml_RL_204 zcv_X6_move (zW_get Y sM_0) rfl rfl rfl ⟨Nat.le_of_ble_eq_true rfl, Nat.le_of_ble_eq_true rfl⟩ rfl rfl (Nat.le_of_ble_eq_true rfl) ⟨by show cells + 1 ≤ 603072; omega, by show slots + 6 ≤ 7194730; omega⟩ dL_law_1363 ?_
    refine g_istore (L' := [(7, .int b9), (6, .int (nI 0)), (5, .int (nI (6 * j))), (4, .ref aod), (3, .ref ao), (2, .ref (adM 0)), (1, .ref (ad 0)), (0, .ref b)]) C dL_law_1366 (by decide) rfl ?_
    refine g_aload_n (j := 5) C dL_law_1368 rfl rfl ?_
    refine g_vi (ws' := (zW cy adM shM (z_rend cy ad X' 0 shC ++ ((tB cy (ad 152) v1 n1 z1 k1 f1) ++ ((tB cy (ad 153) v2 n2 z2 k2 f2) ++ [(zOut cy ao (vp_updL fo 0 v9.toInt64)), (zOuD cy aod fd)]))) Y')) (As := []) (rest := []) (res := Y' 0 0) C (c_X6_thrown l D cy adM (z_rend cy ad X' 0 shC ++ ((tB cy (ad 152) v1 n1 z1 k1 f1) ++ ((tB cy (ad 153) v2 n2 z2 k2 f2) ++ [(zOut cy ao (vp_updL fo 0 v9.toInt64)), (zOuD cy aod fd)]))) Y') zml_RL_155 zcv_X6_thrown (zW_get Y' sM_0) rfl rfl rfl ⟨Nat.le_of_ble_eq_true rfl, Nat.le_of_ble_eq_true rfl⟩ rfl rfl (Nat.le_of_ble_eq_true rfl) ⟨by show cells + 1 ≤ 603072; omega, by show slots + 6 ≤ 7194730; omega⟩ dL_law_1369 ?_
    refine zG.less (ws' := (zW cy ad shC (zLT cy adM (tB cy (ad 152) v1 n1 z1 k1 f1) (tB cy (ad 153) v2 n2 z2 k2 f2) (zOut cy ao (vp_updL fo 0 v9.toInt64)) (zOuD cy aod fd) Y') X')) (l' := (zW cy adM shM (z_rend cy ad X' 0 shC ++ ((tB cy (ad 152) v1 n1 z1 k1 f1) ++ ((tB cy (ad 153) v2 n2 z2 k2 f2) ++ [(zOut cy ao (vp_updL fo 0 v9.toInt64)), (zOuD cy aod fd)]))) Y')) (zpM _ _ _ _ _ _).symm (List.Sublist.refl _) ?_
    refine g_iload (j := 1) C dL_law_1372 rfl ?_
    refine g_icmp_eq C dL_law_1374 (tgt := 1379) (by decide) (fun _ => ?_) (fun h9 => absurd (e3.trans (by rw [h0]; rfl)) h9)
    refine g_iload (j := 1) C dL_law_1379 rfl ?_
    refine g_if_ne C dL_law_1381 (tgt := 1396) (by decide) (fun h9 => absurd nI_0 h9) (fun _ => ?_)
    refine g_aload_n (j := 4) C dL_law_1384 rfl rfl ?_
    refine g_iconst (v := (nI 0)) C dL_law_1385 (by decide) ?_
    refine n_lald (q0 := 156) (n := 1) C zLW_o (nI_in (by decide) (by decide)) dL_law_1386 ?_
    refine g_iload (j := 0) C dL_law_1387 rfl ?_
    refine n_i2l C dL_law_1389 ?_
    refine n_lcmp C dL_law_1390 ?_
    refine g_if_eq C dL_law_1391 (tgt := 1396) (by decide) (fun _ => ?_) (fun h9 => absurd (lg_cmp_rf ((updL_0 _ _).trans (congrArg Int32.toInt64 (e4 h0)))) h9)
    refine g_goto C dL_law_1396 (tgt := 2819) (by decide) ?_
    refine zG.wide (k := cells + 200) (n := slots + 3200) (by omega) (by omega) ?_
    refine zG_sub (L' := [(5, .int (nI (6 * j))), (4, .ref aod), (3, .ref ao), (2, .ref (adM 0)), (1, .ref (ad 0)), (0, .ref b)]) [2, 3, 4, 5, 6, 7] rfl ?_
    exact kk _ ⟨v1, n1, k1, z1, f1, t1, v2, n2, k2, z2, f2, t2, _, fd, X', Y', a', rfl, hP.step e5 e6⟩
  · skip
    refine g_istore (L' := [(6, .int (nI (i + 1))), (5, .int (nI (6 * j))), (4, .ref aod), (3, .ref ao), (2, .ref (adM 0)), (1, .ref (ad 0)), (0, .ref b)]) C dL_law_1342 (by decide) rfl ?_
    refine g_aload_n (j := 4) C dL_law_1344 rfl rfl ?_
    refine g_aload_n (j := 6) C dL_law_1345 rfl rfl ?_
    refine g_iload (j := 1) C dL_law_1346 rfl ?_
    refine g_iconst (v := (nI 1)) C dL_law_1348 (by decide) ?_
    refine g_iadd C dL_law_1349 ?_
    refine p_num (y := (nI (6 * j + 1))) (nI_add _ _) ?_
    refine n_sld C hX hbl hbA (nI_in (by omega) (by omega)) dL_law_1350 ?_
    refine p_num (y := (xs (6 * j + 1))) (by rw [nI_clamp (by omega)]) ?_
    refine g_aload_n (j := 6) C dL_law_1351 rfl rfl ?_
    refine g_iload (j := 1) C dL_law_1352 rfl ?_
    refine g_iconst (v := (nI 2)) C dL_law_1354 (by decide) ?_
    refine g_iadd C dL_law_1355 ?_
    refine p_num (y := (nI (6 * j + 2))) (nI_add _ _) ?_
    refine n_sld C hX hbl hbA (nI_in (by omega) (by omega)) dL_law_1356 ?_
    refine p_num (y := (xs (6 * j + 2))) (by rw [nI_clamp (by omega)]) ?_
    refine g_aload_n (j := 6) C dL_law_1357 rfl rfl ?_
    refine g_iload (j := 1) C dL_law_1358 rfl ?_
    refine g_iconst (v := (nI 3)) C dL_law_1360 (by decide) ?_
    refine g_iadd C dL_law_1361 ?_
    refine p_num (y := (nI (6 * j + 3))) (nI_add _ _) ?_
    refine n_sld C hX hbl hbA (nI_in (by omega) (by omega)) dL_law_1362 ?_
    refine p_num (y := (xs (6 * j + 3))) (by rw [nI_clamp (by omega)]) ?_
    refine zG.less (ws' := (zW cy adM shM (z_rend cy ad X' 0 shC ++ ((tB cy (ad 152) v1 n1 z1 k1 f1) ++ ((tB cy (ad 153) v2 n2 z2 k2 f2) ++ [(zOut cy ao fo), (zOuD cy aod fd)]))) Y)) (l' := (zW cy ad shC (zLT cy adM (tB cy (ad 152) v1 n1 z1 k1 f1) (tB cy (ad 153) v2 n2 z2 k2 f2) (zOut cy ao fo) (zOuD cy aod fd) Y) X')) (zpM _ _ _ _ _ _) (List.Sublist.refl _) ?_
    refine g_vi (ws' := (zW cy adM shM (z_rend cy ad X' 0 shC ++ ((tB cy (ad 152) v1 n1 z1 k1 f1) ++ ((tB cy (ad 153) v2 n2 z2 k2 f2) ++ [(zOut cy ao fo), (zOuD cy aod fd)]))) Y')) (As := [.int (xs (6 * j + 1)), .int (xs (6 * j + 2)), .int (xs (6 * j + 3))]) (rest := []) (res := b9) C (c_X6_move l D cy adM (z_rend cy ad X' 0 shC ++ ((tB cy (ad 152) v1 n1 z1 k1 f1) ++ ((tB cy (ad 153) v2 n2 z2 k2 f2) ++ [(zOut cy ao fo), (zOuD cy aod fd)]))) Y (xs (6 * j + 1)) (xs (6 * j + 2)) (xs (6 * j + 3)) e2) zml_RL_204 zcv_X6_move (zW_get Y sM_0) rfl rfl rfl ⟨Nat.le_of_ble_eq_true rfl, Nat.le_of_ble_eq_true rfl⟩ rfl rfl (Nat.le_of_ble_eq_true rfl) ⟨by show cells + 1 ≤ 603072; omega, by show slots + 6 ≤ 7194730; omega⟩ dL_law_1363 ?_
    refine g_istore (L' := [(7, .int b9), (6, .int (nI (i + 1))), (5, .int (nI (6 * j))), (4, .ref aod), (3, .ref ao), (2, .ref (adM 0)), (1, .ref (ad 0)), (0, .ref b)]) C dL_law_1366 (by decide) rfl ?_
    refine g_aload_n (j := 5) C dL_law_1368 rfl rfl ?_
    refine g_vi (ws' := (zW cy adM shM (z_rend cy ad X' 0 shC ++ ((tB cy (ad 152) v1 n1 z1 k1 f1) ++ ((tB cy (ad 153) v2 n2 z2 k2 f2) ++ [(zOut cy ao fo), (zOuD cy aod fd)]))) Y')) (As := []) (rest := []) (res := Y' 0 0) C (c_X6_thrown l D cy adM (z_rend cy ad X' 0 shC ++ ((tB cy (ad 152) v1 n1 z1 k1 f1) ++ ((tB cy (ad 153) v2 n2 z2 k2 f2) ++ [(zOut cy ao fo), (zOuD cy aod fd)]))) Y') zml_RL_155 zcv_X6_thrown (zW_get Y' sM_0) rfl rfl rfl ⟨Nat.le_of_ble_eq_true rfl, Nat.le_of_ble_eq_true rfl⟩ rfl rfl (Nat.le_of_ble_eq_true rfl) ⟨by show cells + 1 ≤ 603072; omega, by show slots + 6 ≤ 7194730; omega⟩ dL_law_1369 ?_
    refine zG.less (ws' := (zW cy ad shC (zLT cy adM (tB cy (ad 152) v1 n1 z1 k1 f1) (tB cy (ad 153) v2 n2 z2 k2 f2) (zOut cy ao fo) (zOuD cy aod fd) Y') X')) (l' := (zW cy adM shM (z_rend cy ad X' 0 shC ++ ((tB cy (ad 152) v1 n1 z1 k1 f1) ++ ((tB cy (ad 153) v2 n2 z2 k2 f2) ++ [(zOut cy ao fo), (zOuD cy aod fd)]))) Y')) (zpM _ _ _ _ _ _).symm (List.Sublist.refl _) ?_
    refine g_iload (j := 1) C dL_law_1372 rfl ?_
    refine g_icmp_eq C dL_law_1374 (tgt := 1379) (by decide) (fun _ => ?_) (fun h9 => absurd (e3.trans (congrArg nI (kx_3125 i _ hi))) h9)
    refine g_iload (j := 1) C dL_law_1379 rfl ?_
    refine g_if_ne C dL_law_1381 (tgt := 1396) (by decide) (fun _ => ?_) (fun h9 => absurd h9 (nIs_ne0 (getE_lt hi (by decide))))
    refine g_goto C dL_law_1396 (tgt := 2819) (by decide) ?_
    refine zG.wide (k := cells + 200) (n := slots + 3200) (by omega) (by omega) ?_
    refine zG_sub (L' := [(5, .int (nI (6 * j))), (4, .ref aod), (3, .ref ao), (2, .ref (adM 0)), (1, .ref (ad 0)), (0, .ref b)]) [2, 3, 4, 5, 6, 7] rfl ?_
    exact kk _ ⟨v1, n1, k1, z1, f1, t1, v2, n2, k2, z2, f2, t2, fo, fd, X', Y', a', rfl, hP.step e5 e6⟩
theorem zml_RL_207 : Cond.methodLink RL 207 yX6_cancel ∈ zAll := zg (z_t8 (List.mem_of_getElem? (i := 19) (by decide +kernel))) (by decide +kernel)
set_option maxRecDepth 100000 in
set_option maxHeartbeats 8000000 in
theorem law_cancel (C : zC p s m args meth c code 9 RL D (zTy cy) A) (hE : zEl A s s.heap) (hlt : l.stackTraces = false) (hX : va_X b N xs s s.heap) (hbl : b < s.heap.size) (hbA : ¬ A b) (j : Nat) (hj : 6 * j + 6 ≤ N) (hN : N ≤ 3072) (w : va_W) (hJ : zLJ cy ad adM ao aod w) (hc : cells + 200 ≤ 603072) (hs : slots + 3200 ≤ 7194730) (kk : ∀ w', zLJ cy ad adM ao aod w' → zG p l e room_1 s m args below meth c 9 D A (cells + 200) (slots + 3200) Q w' 2819 [(5, .int (nI (6 * j))), (4, .ref aod), (3, .ref ao), (2, .ref (adM 0)), (1, .ref (ad 0)), (0, .ref b)] []) : zG p l e room_1 s m args below meth c 9 D A cells slots Q w 1399 [(5, .int (nI (6 * j))), (4, .ref aod), (3, .ref ao), (2, .ref (adM 0)), (1, .ref (ad 0)), (0, .ref b)] [] := by
  obtain ⟨v1, n1, k1, z1, f1, t1, v2, n2, k2, z2, f2, t2, fo, fd, X, Y, a, rfl, hP⟩ := hJ
  obtain ⟨c9, v9, b9, X', Y', a', e1, e2, e3, e4, e5, e6⟩ := sim_cancel hP.1 (xs (6 * j + 1))
  have hcd : inC [3, 2] c9 := (oc_cancel X (xs (6 * j + 1))).o _ e1
  have hM := (c_X5_cancel l hlt D cy ad (zLT cy adM (tB cy (ad 152) v1 n1 z1 k1 f1) (tB cy (ad 153) v2 n2 z2 k2 f2) (zOut cy ao fo) (zOuD cy aod fd) Y) X (xs (6 * j + 1))).toY
  rw [Option.some.inj e1] at hM
  have hw := hw_cancel l D cy zTh_ge zEw_th _ (ad 0) _ (xs (6 * j + 1)) ao 156 fo 1 6 _ _ _ hM rfl rfl ⟨by decide, by decide⟩ (zW_get X sC_0) (fun v w hh => by obtain ⟨_, _, rfl⟩ := hh; exact zLW_o) (fun c w hh h0 => by obtain ⟨rfl, _⟩ := hh; simpa using hcd.ne h0)
  refine g_aload_n (j := 4) C dL_law_1399 rfl rfl ?_
  refine g_aload_n (j := 5) C dL_law_1400 rfl rfl ?_
  refine g_iload (j := 0) C dL_law_1401 rfl ?_
  refine g_iconst (v := (nI 1)) C dL_law_1403 (by decide) ?_
  refine g_iadd C dL_law_1404 ?_
  refine p_num (y := (nI (6 * j + 1))) (nI_add _ _) ?_
  refine n_sld C hX hbl hbA (nI_in (by omega) (by omega)) dL_law_1405 ?_
  refine p_num (y := (xs (6 * j + 1))) (by rw [nI_clamp (by omega)]) ?_
  refine g_aload_n (j := 2) C dL_law_1406 rfl rfl ?_
  refine t_SWi (As := [.ref (ad 0), .int (xs (6 * j + 1)), .ref ao]) (rest := []) zEw_ge hE.1 C hw zcw_cancel rfl rfl ⟨Nat.le_of_ble_eq_true rfl, Nat.le_of_ble_eq_true rfl⟩ rfl rfl (Nat.le_of_ble_eq_true rfl) ⟨by show cells + 1 ≤ 603072; omega, by show slots + 6 ≤ 7194730; omega⟩ dL_law_1407 ?_
  intro r w hr9
  rcases hr9 with ⟨rfl, v', w1, ⟨h0, hv9, rfl⟩, rfl⟩ | ⟨i, c', hi, ⟨rfl, rfl⟩, hne, rfl⟩
  · skip
    have hv9 : v9 = v' := hv9.symm
    subst hv9
    rw [show List.set _ 156 _ = (zW cy ad shC (zLT cy adM (tB cy (ad 152) v1 n1 z1 k1 f1) (tB cy (ad 153) v2 n2 z2 k2 f2) (zOut cy ao (vp_updL fo 0 v9.toInt64)) (zOuD cy aod fd) Y) X') from zLW_so]
    have h0 : c9 = 0 := h0
    refine g_istore (L' := [(6, .int (nI 0)), (5, .int (nI (6 * j))), (4, .ref aod), (3, .ref ao), (2, .ref (adM 0)), (1, .ref (ad 0)), (0, .ref b)]) C dL_law_1410 (by decide) rfl ?_
    refine g_aload_n (j := 4) C dL_law_1412 rfl rfl ?_
    refine g_aload_n (j := 6) C dL_law_1413 rfl rfl ?_
    refine g_iload (j := 1) C dL_law_1414 rfl ?_
    refine g_iconst (v := (nI 1)) C dL_law_1416 (by decide) ?_
    refine g_iadd C dL_law_1417 ?_
    refine p_num (y := (nI (6 * j + 1))) (nI_add _ _) ?_
    refine n_sld C hX hbl hbA (nI_in (by omega) (by omega)) dL_law_1418 ?_
    refine p_num (y := (xs (6 * j + 1))) (by rw [nI_clamp (by omega)]) ?_
    refine zG.less (ws' := (zW cy adM shM (z_rend cy ad X' 0 shC ++ ((tB cy (ad 152) v1 n1 z1 k1 f1) ++ ((tB cy (ad 153) v2 n2 z2 k2 f2) ++ [(zOut cy ao (vp_updL fo 0 v9.toInt64)), (zOuD cy aod fd)]))) Y)) (l' := (zW cy ad shC (zLT cy adM (tB cy (ad 152) v1 n1 z1 k1 f1) (tB cy (ad 153) v2 n2 z2 k2 f2) (zOut cy ao (vp_updL fo 0 v9.toInt64)) (zOuD cy aod fd) Y) X')) (zpM _ _ _ _ _ _) (List.Sublist.refl _) ?_
    refine g_vi (ws' := (zW cy adM shM (z_rend cy ad X' 0 shC ++ ((tB cy (ad 152) v1 n1 z1 k1 f1) ++ ((tB cy (ad 153) v2 n2 z2 k2 f2) ++ [(zOut cy ao (vp_updL fo 0 v9.toInt64)), (zOuD cy aod fd)]))) Y')) (As := [.int (xs (6 * j + 1))]) (rest := []) (res := b9) C (c_X6_cancel l D cy adM (z_rend cy ad X' 0 shC ++ ((tB cy (ad 152) v1 n1 z1 k1 f1) ++ ((tB cy (ad 153) v2 n2 z2 k2 f2) ++ [(zOut cy ao (vp_updL fo 0 v9.toInt64)), (zOuD cy aod fd)]))) Y (xs (6 * j + 1)) e2) zml_RL_207 zcv_X6_cancel (zW_get Y sM_0) rfl rfl rfl ⟨Nat.le_of_ble_eq_true rfl, Nat.le_of_ble_eq_true rfl⟩ rfl rfl (Nat.le_of_ble_eq_true rfl) ⟨by show cells + 1 ≤ 603072; omega, by show slots + 6 ≤ 7194730; omega⟩ dL_law_1419 ?_
    refine g_istore (L' := [(7, .int b9), (6, .int (nI 0)), (5, .int (nI (6 * j))), (4, .ref aod), (3, .ref ao), (2, .ref (adM 0)), (1, .ref (ad 0)), (0, .ref b)]) C dL_law_1422 (by decide) rfl ?_
    refine g_aload_n (j := 5) C dL_law_1424 rfl rfl ?_
    refine g_vi (ws' := (zW cy adM shM (z_rend cy ad X' 0 shC ++ ((tB cy (ad 152) v1 n1 z1 k1 f1) ++ ((tB cy (ad 153) v2 n2 z2 k2 f2) ++ [(zOut cy ao (vp_updL fo 0 v9.toInt64)), (zOuD cy aod fd)]))) Y')) (As := []) (rest := []) (res := Y' 0 0) C (c_X6_thrown l D cy adM (z_rend cy ad X' 0 shC ++ ((tB cy (ad 152) v1 n1 z1 k1 f1) ++ ((tB cy (ad 153) v2 n2 z2 k2 f2) ++ [(zOut cy ao (vp_updL fo 0 v9.toInt64)), (zOuD cy aod fd)]))) Y') zml_RL_155 zcv_X6_thrown (zW_get Y' sM_0) rfl rfl rfl ⟨Nat.le_of_ble_eq_true rfl, Nat.le_of_ble_eq_true rfl⟩ rfl rfl (Nat.le_of_ble_eq_true rfl) ⟨by show cells + 1 ≤ 603072; omega, by show slots + 6 ≤ 7194730; omega⟩ dL_law_1425 ?_
    refine zG.less (ws' := (zW cy ad shC (zLT cy adM (tB cy (ad 152) v1 n1 z1 k1 f1) (tB cy (ad 153) v2 n2 z2 k2 f2) (zOut cy ao (vp_updL fo 0 v9.toInt64)) (zOuD cy aod fd) Y') X')) (l' := (zW cy adM shM (z_rend cy ad X' 0 shC ++ ((tB cy (ad 152) v1 n1 z1 k1 f1) ++ ((tB cy (ad 153) v2 n2 z2 k2 f2) ++ [(zOut cy ao (vp_updL fo 0 v9.toInt64)), (zOuD cy aod fd)]))) Y')) (zpM _ _ _ _ _ _).symm (List.Sublist.refl _) ?_
    refine g_iload (j := 1) C dL_law_1428 rfl ?_
    refine g_icmp_eq C dL_law_1430 (tgt := 1435) (by decide) (fun _ => ?_) (fun h9 => absurd (e3.trans (by rw [h0]; rfl)) h9)
    refine g_iload (j := 1) C dL_law_1435 rfl ?_
    refine g_if_ne C dL_law_1437 (tgt := 1452) (by decide) (fun h9 => absurd nI_0 h9) (fun _ => ?_)
    refine g_aload_n (j := 4) C dL_law_1440 rfl rfl ?_
    refine g_iconst (v := (nI 0)) C dL_law_1441 (by decide) ?_
    refine n_lald (q0 := 156) (n := 1) C zLW_o (nI_in (by decide) (by decide)) dL_law_1442 ?_
    refine g_iload (j := 0) C dL_law_1443 rfl ?_
    refine n_i2l C dL_law_1445 ?_
    refine n_lcmp C dL_law_1446 ?_
    refine g_if_eq C dL_law_1447 (tgt := 1452) (by decide) (fun _ => ?_) (fun h9 => absurd (lg_cmp_rf ((updL_0 _ _).trans (congrArg Int32.toInt64 (e4 h0)))) h9)
    refine g_goto C dL_law_1452 (tgt := 2819) (by decide) ?_
    refine zG.wide (k := cells + 200) (n := slots + 3200) (by omega) (by omega) ?_
    refine zG_sub (L' := [(5, .int (nI (6 * j))), (4, .ref aod), (3, .ref ao), (2, .ref (adM 0)), (1, .ref (ad 0)), (0, .ref b)]) [2, 3, 4, 5, 6, 7] rfl ?_
    exact kk _ ⟨v1, n1, k1, z1, f1, t1, v2, n2, k2, z2, f2, t2, _, fd, X', Y', a', rfl, hP.step e5 e6⟩
  · skip
    refine g_istore (L' := [(6, .int (nI (i + 1))), (5, .int (nI (6 * j))), (4, .ref aod), (3, .ref ao), (2, .ref (adM 0)), (1, .ref (ad 0)), (0, .ref b)]) C dL_law_1410 (by decide) rfl ?_
    refine g_aload_n (j := 4) C dL_law_1412 rfl rfl ?_
    refine g_aload_n (j := 6) C dL_law_1413 rfl rfl ?_
    refine g_iload (j := 1) C dL_law_1414 rfl ?_
    refine g_iconst (v := (nI 1)) C dL_law_1416 (by decide) ?_
    refine g_iadd C dL_law_1417 ?_
    refine p_num (y := (nI (6 * j + 1))) (nI_add _ _) ?_
    refine n_sld C hX hbl hbA (nI_in (by omega) (by omega)) dL_law_1418 ?_
    refine p_num (y := (xs (6 * j + 1))) (by rw [nI_clamp (by omega)]) ?_
    refine zG.less (ws' := (zW cy adM shM (z_rend cy ad X' 0 shC ++ ((tB cy (ad 152) v1 n1 z1 k1 f1) ++ ((tB cy (ad 153) v2 n2 z2 k2 f2) ++ [(zOut cy ao fo), (zOuD cy aod fd)]))) Y)) (l' := (zW cy ad shC (zLT cy adM (tB cy (ad 152) v1 n1 z1 k1 f1) (tB cy (ad 153) v2 n2 z2 k2 f2) (zOut cy ao fo) (zOuD cy aod fd) Y) X')) (zpM _ _ _ _ _ _) (List.Sublist.refl _) ?_
    refine g_vi (ws' := (zW cy adM shM (z_rend cy ad X' 0 shC ++ ((tB cy (ad 152) v1 n1 z1 k1 f1) ++ ((tB cy (ad 153) v2 n2 z2 k2 f2) ++ [(zOut cy ao fo), (zOuD cy aod fd)]))) Y')) (As := [.int (xs (6 * j + 1))]) (rest := []) (res := b9) C (c_X6_cancel l D cy adM (z_rend cy ad X' 0 shC ++ ((tB cy (ad 152) v1 n1 z1 k1 f1) ++ ((tB cy (ad 153) v2 n2 z2 k2 f2) ++ [(zOut cy ao fo), (zOuD cy aod fd)]))) Y (xs (6 * j + 1)) e2) zml_RL_207 zcv_X6_cancel (zW_get Y sM_0) rfl rfl rfl ⟨Nat.le_of_ble_eq_true rfl, Nat.le_of_ble_eq_true rfl⟩ rfl rfl (Nat.le_of_ble_eq_true rfl) ⟨by show cells + 1 ≤ 603072; omega, by show slots + 6 ≤ 7194730; omega⟩ dL_law_1419 ?_
    refine g_istore (L' := [(7, .int b9), (6, .int (nI (i + 1))), (5, .int (nI (6 * j))), (4, .ref aod), (3, .ref ao), (2, .ref (adM 0)), (1, .ref (ad 0)), (0, .ref b)]) C dL_law_1422 (by decide) rfl ?_
    refine g_aload_n (j := 5) C dL_law_1424 rfl rfl ?_
    refine g_vi (ws' := (zW cy adM shM (z_rend cy ad X' 0 shC ++ ((tB cy (ad 152) v1 n1 z1 k1 f1) ++ ((tB cy (ad 153) v2 n2 z2 k2 f2) ++ [(zOut cy ao fo), (zOuD cy aod fd)]))) Y')) (As := []) (rest := []) (res := Y' 0 0) C (c_X6_thrown l D cy adM (z_rend cy ad X' 0 shC ++ ((tB cy (ad 152) v1 n1 z1 k1 f1) ++ ((tB cy (ad 153) v2 n2 z2 k2 f2) ++ [(zOut cy ao fo), (zOuD cy aod fd)]))) Y') zml_RL_155 zcv_X6_thrown (zW_get Y' sM_0) rfl rfl rfl ⟨Nat.le_of_ble_eq_true rfl, Nat.le_of_ble_eq_true rfl⟩ rfl rfl (Nat.le_of_ble_eq_true rfl) ⟨by show cells + 1 ≤ 603072; omega, by show slots + 6 ≤ 7194730; omega⟩ dL_law_1425 ?_
    refine zG.less (ws' := (zW cy ad shC (zLT cy adM (tB cy (ad 152) v1 n1 z1 k1 f1) (tB cy (ad 153) v2 n2 z2 k2 f2) (zOut cy ao fo) (zOuD cy aod fd) Y') X')) (l' := (zW cy adM shM (z_rend cy ad X' 0 shC ++ ((tB cy (ad 152) v1 n1 z1 k1 f1) ++ ((tB cy (ad 153) v2 n2 z2 k2 f2) ++ [(zOut cy ao fo), (zOuD cy aod fd)]))) Y')) (zpM _ _ _ _ _ _).symm (List.Sublist.refl _) ?_
    refine g_iload (j := 1) C dL_law_1428 rfl ?_
    refine g_icmp_eq C dL_law_1430 (tgt := 1435) (by decide) (fun _ => ?_) (fun h9 => absurd (e3.trans (congrArg nI (kx_32 i _ hi))) h9)
    refine g_iload (j := 1) C dL_law_1435 rfl ?_
    refine g_if_ne C dL_law_1437 (tgt := 1452) (by decide) (fun _ => ?_) (fun h9 => absurd h9 (nIs_ne0 (getE_lt hi (by decide))))
    refine g_goto C dL_law_1452 (tgt := 2819) (by decide) ?_
    refine zG.wide (k := cells + 200) (n := slots + 3200) (by omega) (by omega) ?_
    refine zG_sub (L' := [(5, .int (nI (6 * j))), (4, .ref aod), (3, .ref ao), (2, .ref (adM 0)), (1, .ref (ad 0)), (0, .ref b)]) [2, 3, 4, 5, 6, 7] rfl ?_
    exact kk _ ⟨v1, n1, k1, z1, f1, t1, v2, n2, k2, z2, f2, t2, fo, fd, X', Y', a', rfl, hP.step e5 e6⟩
end LAWC
