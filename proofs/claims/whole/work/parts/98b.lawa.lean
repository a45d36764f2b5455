/-! THE LAW'S CASES (laid by wip/whole/mklaw.py) -/
section LAWC
variable {p : Program} {l : Launch} {e : Env} {s : State} {m : MethodId} {args : Array Value} {below : List Frame} {meth : Method} {c : Code} {D : va_G} {A : Nat → Prop} {cells slots : Nat} {Q : State → Prop} {cy : Nat → ClassId} {ad adM : Nat → Nat} {ao aod b N : Nat} {xs : Nat → Int32}
theorem zml_RL_154 : Cond.methodLink RL 154 yX6_addHall ∈ zAll := zg (z_t7 (List.mem_of_getElem? (i := 43) (by decide +kernel))) (by decide +kernel)
theorem zml_RL_155 : Cond.methodLink RL 155 yX6_thrown ∈ zAll := zg (z_t7 (List.mem_of_getElem? (i := 39) (by decide +kernel))) (by decide +kernel)
set_option maxRecDepth 100000 in
set_option maxHeartbeats 8000000 in
theorem law_addHall (C : zC p s m args meth c code 9 RL D (zTy cy) A) (hE : zEl A s s.heap) (hlt : l.stackTraces = false) (hX : va_X b N xs s s.heap) (hbl : b < s.heap.size) (hbA : ¬ A b) (j : Nat) (hj : 6 * j + 6 ≤ N) (hN : N ≤ 3072) (w : va_W) (hJ : zLJ cy ad adM ao aod w) (hc : cells + 200 ≤ 603072) (hs : slots + 3200 ≤ 7194730) (kk : ∀ w', zLJ cy ad adM ao aod w' → zG p l e room_1 s m args below meth c 9 D A (cells + 200) (slots + 3200) Q w' 2819 [(5, .int (nI (6 * j))), (4, .ref aod), (3, .ref ao), (2, .ref (adM 0)), (1, .ref (ad 0)), (0, .ref b)] []) : zG p l e room_1 s m args below meth c 9 D A cells slots Q w 212 [(5, .int (nI (6 * j))), (4, .ref aod), (3, .ref ao), (2, .ref (adM 0)), (1, .ref (ad 0)), (0, .ref b)] [] := by
  obtain ⟨v1, n1, k1, z1, f1, t1, v2, n2, k2, z2, f2, t2, fo, fd, X, Y, a, rfl, hP⟩ := hJ
  obtain ⟨c9, v9, b9, X', Y', a', e1, e2, e3, e4, e5, e6⟩ := sim_addHall hP.1 (xs (6 * j + 1)) (xs (6 * j + 2)) (xs (6 * j + 3))
  have hcd : inC [1, 2] c9 := oc_addHall X (xs (6 * j + 1)) (xs (6 * j + 2)) (xs (6 * j + 3)) _ e1
  have hM := (c_X5_addHall l hlt D cy ad (zLT cy adM (tB cy (ad 152) v1 n1 z1 k1 f1) (tB cy (ad 153) v2 n2 z2 k2 f2) (zOut cy ao fo) (zOuD cy aod fd) Y) X (xs (6 * j + 1)) (xs (6 * j + 2)) (xs (6 * j + 3)) e1).toY
  have hw := hw_addHall l D cy zTh_ge zEw_th _ (ad 0) _ (xs (6 * j + 1)) (xs (6 * j + 2)) (xs (6 * j + 3)) ao 156 fo 1 6 _ _ _ hM rfl rfl ⟨by decide, by decide⟩ (zW_get X sC_0) (fun v w hh => by obtain ⟨_, _, rfl⟩ := hh; exact zLW_o) (fun c w hh h0 => by obtain ⟨rfl, _⟩ := hh; simpa using hcd.ne h0)
  refine g_aload_n (j := 4) C dL_law_212 rfl rfl ?_
  refine g_aload_n (j := 5) C dL_law_213 rfl rfl ?_
  refine g_iload (j := 0) C dL_law_214 rfl ?_
  refine g_iconst (v := (nI 1)) C dL_law_216 (by decide) ?_
  refine g_iadd C dL_law_217 ?_
  refine p_num (y := (nI (6 * j + 1))) (nI_add _ _) ?_
  refine n_sld C hX hbl hbA (nI_in (by omega) (by omega)) dL_law_218 ?_
  refine p_num (y := (xs (6 * j + 1))) (by rw [nI_clamp (by omega)]) ?_
  refine g_aload_n (j := 5) C dL_law_219 rfl rfl ?_
  refine g_iload (j := 0) C dL_law_220 rfl ?_
  refine g_iconst (v := (nI 2)) C dL_law_222 (by decide) ?_
  refine g_iadd C dL_law_223 ?_
  refine p_num (y := (nI (6 * j + 2))) (nI_add _ _) ?_
  refine n_sld C hX hbl hbA (nI_in (by omega) (by omega)) dL_law_224 ?_
  refine p_num (y := (xs (6 * j + 2))) (by rw [nI_clamp (by omega)]) ?_
  refine g_aload_n (j := 5) C dL_law_225 rfl rfl ?_
  refine g_iload (j := 0) C dL_law_226 rfl ?_
  refine g_iconst (v := (nI 3)) C dL_law_228 (by decide) ?_
  refine g_iadd C dL_law_229 ?_
  refine p_num (y := (nI (6 * j + 3))) (nI_add _ _) ?_
  refine n_sld C hX hbl hbA (nI_in (by omega) (by omega)) dL_law_230 ?_
  refine p_num (y := (xs (6 * j + 3))) (by rw [nI_clamp (by omega)]) ?_
  refine g_aload_n (j := 2) C dL_law_231 rfl rfl ?_
  refine t_SWi (As := [.ref (ad 0), .int (xs (6 * j + 1)), .int (xs (6 * j + 2)), .int (xs (6 * j + 3)), .ref ao]) (rest := []) zEw_ge hE.1 C hw zcw_addHall rfl rfl ⟨Nat.le_of_ble_eq_true rfl, Nat.le_of_ble_eq_true rfl⟩ rfl rfl (Nat.le_of_ble_eq_true rfl) ⟨by show cells + 1 ≤ 603072; omega, by show slots + 6 ≤ 7194730; omega⟩ dL_law_232 ?_
  intro r w hr9
  rcases hr9 with ⟨rfl, v', w1, ⟨h0, hv9, rfl⟩, rfl⟩ | ⟨i, c', hi, ⟨rfl, rfl⟩, hne, rfl⟩
  · skip
    have hv9 : v9 = v' := hv9.symm
    subst hv9
    rw [show List.set _ 156 _ = (zW cy ad shC (zLT cy adM (tB cy (ad 152) v1 n1 z1 k1 f1) (tB cy (ad 153) v2 n2 z2 k2 f2) (zOut cy ao (vp_updL fo 0 v9.toInt64)) (zOuD cy aod fd) Y) X') from zLW_so]
    have h0 : c9 = 0 := h0
    refine g_istore (L' := [(6, .int (nI 0)), (5, .int (nI (6 * j))), (4, .ref aod), (3, .ref ao), (2, .ref (adM 0)), (1, .ref (ad 0)), (0, .ref b)]) C dL_law_235 (by decide) rfl ?_
    refine g_aload_n (j := 4) C dL_law_237 rfl rfl ?_
    refine g_aload_n (j := 6) C dL_law_238 rfl rfl ?_
    refine g_iload (j := 1) C dL_law_239 rfl ?_
    refine g_iconst (v := (nI 1)) C dL_law_241 (by decide) ?_
    refine g_iadd C dL_law_242 ?_
    refine p_num (y := (nI (6 * j + 1))) (nI_add _ _) ?_
    refine n_sld C hX hbl hbA (nI_in (by omega) (by omega)) dL_law_243 ?_
    refine p_num (y := (xs (6 * j + 1))) (by rw [nI_clamp (by omega)]) ?_
    refine g_aload_n (j := 6) C dL_law_244 rfl rfl ?_
    refine g_iload (j := 1) C dL_law_245 rfl ?_
    refine g_iconst (v := (nI 2)) C dL_law_247 (by decide) ?_
    refine g_iadd C dL_law_248 ?_
    refine p_num (y := (nI (6 * j + 2))) (nI_add _ _) ?_
    refine n_sld C hX hbl hbA (nI_in (by omega) (by omega)) dL_law_249 ?_
    refine p_num (y := (xs (6 * j + 2))) (by rw [nI_clamp (by omega)]) ?_
    refine g_aload_n (j := 6) C dL_law_250 rfl rfl ?_
    refine g_iload (j := 1) C dL_law_251 rfl ?_
    refine g_iconst (v := (nI 3)) C dL_law_253 (by decide) ?_
    refine g_iadd C dL_law_254 ?_
    refine p_num (y := (nI (6 * j + 3))) (nI_add _ _) ?_
    refine n_sld C hX hbl hbA (nI_in (by omega) (by omega)) dL_law_255 ?_
    refine p_num (y := (xs (6 * j + 3))) (by rw [nI_clamp (by omega)]) ?_
    refine zG.less (ws' := (zW cy adM shM (z_rend cy ad X' 0 shC ++ ((tB cy (ad 152) v1 n1 z1 k1 f1) ++ ((tB cy (ad 153) v2 n2 z2 k2 f2) ++ [(zOut cy ao (vp_updL fo 0 v9.toInt64)), (zOuD cy aod fd)]))) Y)) (l' := (zW cy ad shC (zLT cy adM (tB cy (ad 152) v1 n1 z1 k1 f1) (tB cy (ad 153) v2 n2 z2 k2 f2) (zOut cy ao (vp_updL fo 0 v9.toInt64)) (zOuD cy aod fd) Y) X')) (zpM _ _ _ _ _ _) (List.Sublist.refl _) ?_
    refine g_vi (ws' := (zW cy adM shM (z_rend cy ad X' 0 shC ++ ((tB cy (ad 152) v1 n1 z1 k1 f1) ++ ((tB cy (ad 153) v2 n2 z2 k2 f2) ++ [(zOut cy ao (vp_updL fo 0 v9.toInt64)), (zOuD cy aod fd)]))) Y')) (As := [.int (xs (6 * j + 1)), .int (xs (6 * j + 2)), .int (xs (6 * j + 3))]) (rest := []) (res := b9) C (c_X6_addHall l D cy adM (z_rend cy ad X' 0 shC ++ ((tB cy (ad 152) v1 n1 z1 k1 f1) ++ ((tB cy (ad 153) v2 n2 z2 k2 f2) ++ [(zOut cy ao (vp_updL fo 0 v9.toInt64)), (zOuD cy aod fd)]))) Y (xs (6 * j + 1)) (xs (6 * j + 2)) (xs (6 * j + 3)) e2) zml_RL_154 zcv_X6_addHall (zW_get Y sM_0) rfl rfl rfl ⟨Nat.le_of_ble_eq_true rfl, Nat.le_of_ble_eq_true rfl⟩ rfl rfl (Nat.le_of_ble_eq_true rfl) ⟨by show cells + 1 ≤ 603072; omega, by show slots + 6 ≤ 7194730; omega⟩ dL_law_256 ?_
    refine g_istore (L' := [(7, .int b9), (6, .int (nI 0)), (5, .int (nI (6 * j))), (4, .ref aod), (3, .ref ao), (2, .ref (adM 0)), (1, .ref (ad 0)), (0, .ref b)]) C dL_law_259 (by decide) rfl ?_
    refine g_aload_n (j := 5) C dL_law_261 rfl rfl ?_
    refine g_vi (ws' := (zW cy adM shM (z_rend cy ad X' 0 shC ++ ((tB cy (ad 152) v1 n1 z1 k1 f1) ++ ((tB cy (ad 153) v2 n2 z2 k2 f2) ++ [(zOut cy ao (vp_updL fo 0 v9.toInt64)), (zOuD cy aod fd)]))) Y')) (As := []) (rest := []) (res := Y' 0 0) C (c_X6_thrown l D cy adM (z_rend cy ad X' 0 shC ++ ((tB cy (ad 152) v1 n1 z1 k1 f1) ++ ((tB cy (ad 153) v2 n2 z2 k2 f2) ++ [(zOut cy ao (vp_updL fo 0 v9.toInt64)), (zOuD cy aod fd)]))) Y') zml_RL_155 zcv_X6_thrown (zW_get Y' sM_0) rfl rfl rfl ⟨Nat.le_of_ble_eq_true rfl, Nat.le_of_ble_eq_true rfl⟩ rfl rfl (Nat.le_of_ble_eq_true rfl) ⟨by show cells + 1 ≤ 603072; omega, by show slots + 6 ≤ 7194730; omega⟩ dL_law_262 ?_
    refine zG.less (ws' := (zW cy ad shC (zLT cy adM (tB cy (ad 152) v1 n1 z1 k1 f1) (tB cy (ad 153) v2 n2 z2 k2 f2) (zOut cy ao (vp_updL fo 0 v9.toInt64)) (zOuD cy aod fd) Y') X')) (l' := (zW cy adM shM (z_rend cy ad X' 0 shC ++ ((tB cy (ad 152) v1 n1 z1 k1 f1) ++ ((tB cy (ad 153) v2 n2 z2 k2 f2) ++ [(zOut cy ao (vp_updL fo 0 v9.toInt64)), (zOuD cy aod fd)]))) Y')) (zpM _ _ _ _ _ _).symm (List.Sublist.refl _) ?_
    refine g_iload (j := 1) C dL_law_265 rfl ?_
    refine g_icmp_eq C dL_law_267 (tgt := 272) (by decide) (fun _ => ?_) (fun h9 => absurd (e3.trans (by rw [h0]; rfl)) h9)
    refine g_iload (j := 1) C dL_law_272 rfl ?_
    refine g_if_ne C dL_law_274 (tgt := 289) (by decide) (fun h9 => absurd nI_0 h9) (fun _ => ?_)
    refine g_aload_n (j := 4) C dL_law_277 rfl rfl ?_
    refine g_iconst (v := (nI 0)) C dL_law_278 (by decide) ?_
    refine n_lald (q0 := 156) (n := 1) C zLW_o (nI_in (by decide) (by decide)) dL_law_279 ?_
    refine g_iload (j := 0) C dL_law_280 rfl ?_
    refine n_i2l C dL_law_282 ?_
    refine n_lcmp C dL_law_283 ?_
    refine g_if_eq C dL_law_284 (tgt := 289) (by decide) (fun _ => ?_) (fun h9 => absurd (lg_cmp_rf ((updL_0 _ _).trans (congrArg Int32.toInt64 (e4 h0)))) h9)
    refine g_goto C dL_law_289 (tgt := 2819) (by decide) ?_
    refine zG.wide (k := cells + 200) (n := slots + 3200) (by omega) (by omega) ?_
    refine zG_sub (L' := [(5, .int (nI (6 * j))), (4, .ref aod), (3, .ref ao), (2, .ref (adM 0)), (1, .ref (ad 0)), (0, .ref b)]) [2, 3, 4, 5, 6, 7] rfl ?_
    exact kk _ ⟨v1, n1, k1, z1, f1, t1, v2, n2, k2, z2, f2, t2, _, fd, X', Y', a', rfl, hP.step e5 e6⟩
  · skip
    refine g_istore (L' := [(6, .int (nI (i + 1))), (5, .int (nI (6 * j))), (4, .ref aod), (3, .ref ao), (2, .ref (adM 0)), (1, .ref (ad 0)), (0, .ref b)]) C dL_law_235 (by decide) rfl ?_
    refine g_aload_n (j := 4) C dL_law_237 rfl rfl ?_
    refine g_aload_n (j := 6) C dL_law_238 rfl rfl ?_
    refine g_iload (j := 1) C dL_law_239 rfl ?_
    refine g_iconst (v := (nI 1)) C dL_law_241 (by decide) ?_
    refine g_iadd C dL_law_242 ?_
    refine p_num (y := (nI (6 * j + 1))) (nI_add _ _) ?_
    refine n_sld C hX hbl hbA (nI_in (by omega) (by omega)) dL_law_243 ?_
    refine p_num (y := (xs (6 * j + 1))) (by rw [nI_clamp (by omega)]) ?_
    refine g_aload_n (j := 6) C dL_law_244 rfl rfl ?_
    refine g_iload (j := 1) C dL_law_245 rfl ?_
    refine g_iconst (v := (nI 2)) C dL_law_247 (by decide) ?_
    refine g_iadd C dL_law_248 ?_
    refine p_num (y := (nI (6 * j + 2))) (nI_add _ _) ?_
    refine n_sld C hX hbl hbA (nI_in (by omega) (by omega)) dL_law_249 ?_
    refine p_num (y := (xs (6 * j + 2))) (by rw [nI_clamp (by omega)]) ?_
    refine g_aload_n (j := 6) C dL_law_250 rfl rfl ?_
    refine g_iload (j := 1) C dL_law_251 rfl ?_
    refine g_iconst (v := (nI 3)) C dL_law_253 (by decide) ?_
    refine g_iadd C dL_law_254 ?_
    refine p_num (y := (nI (6 * j + 3))) (nI_add _ _) ?_
    refine n_sld C hX hbl hbA (nI_in (by omega) (by omega)) dL_law_255 ?_
    refine p_num (y := (xs (6 * j + 3))) (by rw [nI_clamp (by omega)]) ?_
    refine zG.less (ws' := (zW cy adM shM (z_rend cy ad X' 0 shC ++ ((tB cy (ad 152) v1 n1 z1 k1 f1) ++ ((tB cy (ad 153) v2 n2 z2 k2 f2) ++ [(zOut cy ao fo), (zOuD cy aod fd)]))) Y)) (l' := (zW cy ad shC (zLT cy adM (tB cy (ad 152) v1 n1 z1 k1 f1) (tB cy (ad 153) v2 n2 z2 k2 f2) (zOut cy ao fo) (zOuD cy aod fd) Y) X')) (zpM _ _ _ _ _ _) (List.Sublist.refl _) ?_
    refine g_vi (ws' := (zW cy adM shM (z_rend cy ad X' 0 shC ++ ((tB cy (ad 152) v1 n1 z1 k1 f1) ++ ((tB cy (ad 153) v2 n2 z2 k2 f2) ++ [(zOut cy ao fo), (zOuD cy aod fd)]))) Y')) (As := [.int (xs (6 * j + 1)), .int (xs (6 * j + 2)), .int (xs (6 * j + 3))]) (rest := []) (res := b9) C (c_X6_addHall l D cy adM (z_rend cy ad X' 0 shC ++ ((tB cy (ad 152) v1 n1 z1 k1 f1) ++ ((tB cy (ad 153) v2 n2 z2 k2 f2) ++ [(zOut cy ao fo), (zOuD cy aod fd)]))) Y (xs (6 * j + 1)) (xs (6 * j + 2)) (xs (6 * j + 3)) e2) zml_RL_154 zcv_X6_addHall (zW_get Y sM_0) rfl rfl rfl ⟨Nat.le_of_ble_eq_true rfl, Nat.le_of_ble_eq_true rfl⟩ rfl rfl (Nat.le_of_ble_eq_true rfl) ⟨by show cells + 1 ≤ 603072; omega, by show slots + 6 ≤ 7194730; omega⟩ dL_law_256 ?_
    refine g_istore (L' := [(7, .int b9), (6, .int (nI (i + 1))), (5, .int (nI (6 * j))), (4, .ref aod), (3, .ref ao), (2, .ref (adM 0)), (1, .ref (ad 0)), (0, .ref b)]) C dL_law_259 (by decide) rfl ?_
    refine g_aload_n (j := 5) C dL_law_261 rfl rfl ?_
    refine g_vi (ws' := (zW cy adM shM (z_rend cy ad X' 0 shC ++ ((tB cy (ad 152) v1 n1 z1 k1 f1) ++ ((tB cy (ad 153) v2 n2 z2 k2 f2) ++ [(zOut cy ao fo), (zOuD cy aod fd)]))) Y')) (As := []) (rest := []) (res := Y' 0 0) C (c_X6_thrown l D cy adM (z_rend cy ad X' 0 shC ++ ((tB cy (ad 152) v1 n1 z1 k1 f1) ++ ((tB cy (ad 153) v2 n2 z2 k2 f2) ++ [(zOut cy ao fo), (zOuD cy aod fd)]))) Y') zml_RL_155 zcv_X6_thrown (zW_get Y' sM_0) rfl rfl rfl ⟨Nat.le_of_ble_eq_true rfl, Nat.le_of_ble_eq_true rfl⟩ rfl rfl (Nat.le_of_ble_eq_true rfl) ⟨by show cells + 1 ≤ 603072; omega, by show slots + 6 ≤ 7194730; omega⟩ dL_law_262 ?_
    refine zG.less (ws' := (zW cy ad shC (zLT cy adM (tB cy (ad 152) v1 n1 z1 k1 f1) (tB cy (ad 153) v2 n2 z2 k2 f2) (zOut cy ao fo) (zOuD cy aod fd) Y') X')) (l' := (zW cy adM shM (z_rend cy ad X' 0 shC ++ ((tB cy (ad 152) v1 n1 z1 k1 f1) ++ ((tB cy (ad 153) v2 n2 z2 k2 f2) ++ [(zOut cy ao fo), (zOuD cy aod fd)]))) Y')) (zpM _ _ _ _ _ _).symm (List.Sublist.refl _) ?_
    refine g_iload (j := 1) C dL_law_265 rfl ?_
    refine g_icmp_eq C dL_law_267 (tgt := 272) (by decide) (fun _ => ?_) (fun h9 => absurd (e3.trans (congrArg nI (kx_12 i _ hi))) h9)
    refine g_iload (j := 1) C dL_law_272 rfl ?_
    refine g_if_ne C dL_law_274 (tgt := 289) (by decide) (fun _ => ?_) (fun h9 => absurd h9 (nIs_ne0 (getE_lt hi (by decide))))
    refine g_goto C dL_law_289 (tgt := 2819) (by decide) ?_
    refine zG.wide (k := cells + 200) (n := slots + 3200) (by omega) (by omega) ?_
    refine zG_sub (L' := [(5, .int (nI (6 * j))), (4, .ref aod), (3, .ref ao), (2, .ref (adM 0)), (1, .ref (ad 0)), (0, .ref b)]) [2, 3, 4, 5, 6, 7] rfl ?_
    exact kk _ ⟨v1, n1, k1, z1, f1, t1, v2, n2, k2, z2, f2, t2, fo, fd, X', Y', a', rfl, hP.step e5 e6⟩
theorem zml_RL_161 : Cond.methodLink RL 161 yX6_addFilm ∈ zAll := zg (z_t7 (List.mem_of_getElem? (i := 69) (by decide +kernel))) (by decide +kernel)
set_option maxRecDepth 100000 in
set_option maxHeartbeats 8000000 in
theorem law_addFilm (C : zC p s m args meth c code 9 RL D (zTy cy) A) (hE : zEl A s s.heap) (hlt : l.stackTraces = false) (hX : va_X b N xs s s.heap) (hbl : b < s.heap.size) (hbA : ¬ A b) (j : Nat) (hj : 6 * j + 6 ≤ N) (hN : N ≤ 3072) (w : va_W) (hJ : zLJ cy ad adM ao aod w) (hc : cells + 200 ≤ 603072) (hs : slots + 3200 ≤ 7194730) (kk : ∀ w', zLJ cy ad adM ao aod w' → zG p l e room_1 s m args below meth c 9 D A (cells + 200) (slots + 3200) Q w' 2819 [(5, .int (nI (6 * j))), (4, .ref aod), (3, .ref ao), (2, .ref (adM 0)), (1, .ref (ad 0)), (0, .ref b)] []) : zG p l e room_1 s m args below meth c 9 D A cells slots Q w 292 [(5, .int (nI (6 * j))), (4, .ref aod), (3, .ref ao), (2, .ref (adM 0)), (1, .ref (ad 0)), (0, .ref b)] [] := by
  obtain ⟨v1, n1, k1, z1, f1, t1, v2, n2, k2, z2, f2, t2, fo, fd, X, Y, a, rfl, hP⟩ := hJ
  obtain ⟨c9, v9, b9, X', Y', a', e1, e2, e3, e4, e5, e6⟩ := sim_addFilm hP.1 (xs (6 * j + 1)) (xs (6 * j + 2)) (xs (6 * j + 3)) (xs (6 * j + 4)) (xs (6 * j + 5))
  have hcd : inC [1, 2] c9 := oc_addFilm X (xs (6 * j + 1)) (xs (6 * j + 2)) (xs (6 * j + 3)) (xs (6 * j + 4)) (xs (6 * j + 5)) _ e1
  have hM := (c_X5_addFilm l hlt D cy ad (zLT cy adM (tB cy (ad 152) v1 n1 z1 k1 f1) (tB cy (ad 153) v2 n2 z2 k2 f2) (zOut cy ao fo) (zOuD cy aod fd) Y) X (xs (6 * j + 1)) (xs (6 * j + 2)) (xs (6 * j + 3)) (xs (6 * j + 4)) (xs (6 * j + 5)) e1).toY
  have hw := hw_addFilm l D cy zTh_ge zEw_th _ (ad 0) _ (xs (6 * j + 1)) (xs (6 * j + 2)) (xs (6 * j + 3)) (xs (6 * j + 4)) (xs (6 * j + 5)) ao 156 fo 1 6 _ _ _ hM rfl rfl ⟨by decide, by decide⟩ (zW_get X sC_0) (fun v w hh => by obtain ⟨_, _, rfl⟩ := hh; exact zLW_o) (fun c w hh h0 => by obtain ⟨rfl, _⟩ := hh; simpa using hcd.ne h0)
  refine g_aload_n (j := 4) C dL_law_292 rfl rfl ?_
  refine g_aload_n (j := 5) C dL_law_293 rfl rfl ?_
  refine g_iload (j := 0) C dL_law_294 rfl ?_
  refine g_iconst (v := (nI 1)) C dL_law_296 (by decide) ?_
  refine g_iadd C dL_law_297 ?_
  refine p_num (y := (nI (6 * j + 1))) (nI_add _ _) ?_
  refine n_sld C hX hbl hbA (nI_in (by omega) (by omega)) dL_law_298 ?_
  refine p_num (y := (xs (6 * j + 1))) (by rw [nI_clamp (by omega)]) ?_
  refine g_aload_n (j := 5) C dL_law_299 rfl rfl ?_
  refine g_iload (j := 0) C dL_law_300 rfl ?_
  refine g_iconst (v := (nI 2)) C dL_law_302 (by decide) ?_
  refine g_iadd C dL_law_303 ?_
  refine p_num (y := (nI (6 * j + 2))) (nI_add _ _) ?_
  refine n_sld C hX hbl hbA (nI_in (by omega) (by omega)) dL_law_304 ?_
  refine p_num (y := (xs (6 * j + 2))) (by rw [nI_clamp (by omega)]) ?_
  refine g_aload_n (j := 5) C dL_law_305 rfl rfl ?_
  refine g_iload (j := 0) C dL_law_306 rfl ?_
  refine g_iconst (v := (nI 3)) C dL_law_308 (by decide) ?_
  refine g_iadd C dL_law_309 ?_
  refine p_num (y := (nI (6 * j + 3))) (nI_add _ _) ?_
  refine n_sld C hX hbl hbA (nI_in (by omega) (by omega)) dL_law_310 ?_
  refine p_num (y := (xs (6 * j + 3))) (by rw [nI_clamp (by omega)]) ?_
  refine g_aload_n (j := 5) C dL_law_311 rfl rfl ?_
  refine g_iload (j := 0) C dL_law_312 rfl ?_
  refine g_iconst (v := (nI 4)) C dL_law_314 (by decide) ?_
  refine g_iadd C dL_law_315 ?_
  refine p_num (y := (nI (6 * j + 4))) (nI_add _ _) ?_
  refine n_sld C hX hbl hbA (nI_in (by omega) (by omega)) dL_law_316 ?_
  refine p_num (y := (xs (6 * j + 4))) (by rw [nI_clamp (by omega)]) ?_
  refine g_aload_n (j := 5) C dL_law_317 rfl rfl ?_
  refine g_iload (j := 0) C dL_law_318 rfl ?_
  refine g_iconst (v := (nI 5)) C dL_law_320 (by decide) ?_
  refine g_iadd C dL_law_321 ?_
  refine p_num (y := (nI (6 * j + 5))) (nI_add _ _) ?_
  refine n_sld C hX hbl hbA (nI_in (by omega) (by omega)) dL_law_322 ?_
  refine p_num (y := (xs (6 * j + 5))) (by rw [nI_clamp (by omega)]) ?_
  refine g_aload_n (j := 2) C dL_law_323 rfl rfl ?_
  refine t_SWi (As := [.ref (ad 0), .int (xs (6 * j + 1)), .int (xs (6 * j + 2)), .int (xs (6 * j + 3)), .int (xs (6 * j + 4)), .int (xs (6 * j + 5)), .ref ao]) (rest := []) zEw_ge hE.1 C hw zcw_addFilm rfl rfl ⟨Nat.le_of_ble_eq_true rfl, Nat.le_of_ble_eq_true rfl⟩ rfl rfl (Nat.le_of_ble_eq_true rfl) ⟨by show cells + 1 ≤ 603072; omega, by show slots + 6 ≤ 7194730; omega⟩ dL_law_324 ?_
  intro r w hr9
  rcases hr9 with ⟨rfl, v', w1, ⟨h0, hv9, rfl⟩, rfl⟩ | ⟨i, c', hi, ⟨rfl, rfl⟩, hne, rfl⟩
  · skip
    have hv9 : v9 = v' := hv9.symm
    subst hv9
    rw [show List.set _ 156 _ = (zW cy ad shC (zLT cy adM (tB cy (ad 152) v1 n1 z1 k1 f1) (tB cy (ad 153) v2 n2 z2 k2 f2) (zOut cy ao (vp_updL fo 0 v9.toInt64)) (zOuD cy aod fd) Y) X') from zLW_so]
    have h0 : c9 = 0 := h0
    refine g_istore (L' := [(6, .int (nI 0)), (5, .int (nI (6 * j))), (4, .ref aod), (3, .ref ao), (2, .ref (adM 0)), (1, .ref (ad 0)), (0, .ref b)]) C dL_law_327 (by decide) rfl ?_
    refine g_aload_n (j := 4) C dL_law_329 rfl rfl ?_
    refine g_aload_n (j := 6) C dL_law_330 rfl rfl ?_
    refine g_iload (j := 1) C dL_law_331 rfl ?_
    refine g_iconst (v := (nI 1)) C dL_law_333 (by decide) ?_
    refine g_iadd C dL_law_334 ?_
    refine p_num (y := (nI (6 * j + 1))) (nI_add _ _) ?_
    refine n_sld C hX hbl hbA (nI_in (by omega) (by omega)) dL_law_335 ?_
    refine p_num (y := (xs (6 * j + 1))) (by rw [nI_clamp (by omega)]) ?_
    refine g_aload_n (j := 6) C dL_law_336 rfl rfl ?_
    refine g_iload (j := 1) C dL_law_337 rfl ?_
    refine g_iconst (v := (nI 2)) C dL_law_339 (by decide) ?_
    refine g_iadd C dL_law_340 ?_
    refine p_num (y := (nI (6 * j + 2))) (nI_add _ _) ?_
    refine n_sld C hX hbl hbA (nI_in (by omega) (by omega)) dL_law_341 ?_
    refine p_num (y := (xs (6 * j + 2))) (by rw [nI_clamp (by omega)]) ?_
    refine g_aload_n (j := 6) C dL_law_342 rfl rfl ?_
    refine g_iload (j := 1) C dL_law_343 rfl ?_
    refine g_iconst (v := (nI 3)) C dL_law_345 (by decide) ?_
    refine g_iadd C dL_law_346 ?_
    refine p_num (y := (nI (6 * j + 3))) (nI_add _ _) ?_
    refine n_sld C hX hbl hbA (nI_in (by omega) (by omega)) dL_law_347 ?_
    refine p_num (y := (xs (6 * j + 3))) (by rw [nI_clamp (by omega)]) ?_
    refine g_aload_n (j := 6) C dL_law_348 rfl rfl ?_
    refine g_iload (j := 1) C dL_law_349 rfl ?_
    refine g_iconst (v := (nI 4)) C dL_law_351 (by decide) ?_
    refine g_iadd C dL_law_352 ?_
    refine p_num (y := (nI (6 * j + 4))) (nI_add _ _) ?_
    refine n_sld C hX hbl hbA (nI_in (by omega) (by omega)) dL_law_353 ?_
    refine p_num (y := (xs (6 * j + 4))) (by rw [nI_clamp (by omega)]) ?_
    refine g_aload_n (j := 6) C dL_law_354 rfl rfl ?_
    refine g_iload (j := 1) C dL_law_355 rfl ?_
    refine g_iconst (v := (nI 5)) C dL_law_357 (by decide) ?_
    refine g_iadd C dL_law_358 ?_
    refine p_num (y := (nI (6 * j + 5))) (nI_add _ _) ?_
    refine n_sld C hX hbl hbA (nI_in (by omega) (by omega)) dL_law_359 ?_
    refine p_num (y := (xs (6 * j + 5))) (by rw [nI_clamp (by omega)]) ?_
    refine zG.less (ws' := (zW cy adM shM (z_rend cy ad X' 0 shC ++ ((tB cy (ad 152) v1 n1 z1 k1 f1) ++ ((tB cy (ad 153) v2 n2 z2 k2 f2) ++ [(zOut cy ao (vp_updL fo 0 v9.toInt64)), (zOuD cy aod fd)]))) Y)) (l' := (zW cy ad shC (zLT cy adM (tB cy (ad 152) v1 n1 z1 k1 f1) (tB cy (ad 153) v2 n2 z2 k2 f2) (zOut cy ao (vp_updL fo 0 v9.toInt64)) (zOuD cy aod fd) Y) X')) (zpM _ _ _ _ _ _) (List.Sublist.refl _) ?_
    refine g_vi (ws' := (zW cy adM shM (z_rend cy ad X' 0 shC ++ ((tB cy (ad 152) v1 n1 z1 k1 f1) ++ ((tB cy (ad 153) v2 n2 z2 k2 f2) ++ [(zOut cy ao (vp_updL fo 0 v9.toInt64)), (zOuD cy aod fd)]))) Y')) (As := [.int (xs (6 * j + 1)), .int (xs (6 * j + 2)), .int (xs (6 * j + 3)), .int (xs (6 * j + 4)), .int (xs (6 * j + 5))]) (rest := []) (res := b9) C (c_X6_addFilm l D cy adM (z_rend cy ad X' 0 shC ++ ((tB cy (ad 152) v1 n1 z1 k1 f1) ++ ((tB cy (ad 153) v2 n2 z2 k2 f2) ++ [(zOut cy ao (vp_updL fo 0 v9.toInt64)), (zOuD cy aod fd)]))) Y (xs (6 * j + 1)) (xs (6 * j + 2)) (xs (6 * j + 3)) (xs (6 * j + 4)) (xs (6 * j + 5)) e2) zml_RL_161 zcv_X6_addFilm (zW_get Y sM_0) rfl rfl rfl ⟨Nat.le_of_ble_eq_true rfl, Nat.le_of_ble_eq_true rfl⟩ rfl rfl (Nat.le_of_ble_eq_true rfl) ⟨by show cells + 1 ≤ 603072; omega, by show slots + 6 ≤ 7194730; omega⟩ dL_law_360 ?_
    refine g_istore (L' := [(7, .int b9), (6, .int (nI 0)), (5, .int (nI (6 * j))), (4, .ref aod), (3, .ref ao), (2, .ref (adM 0)), (1, .ref (ad 0)), (0, .ref b)]) C dL_law_363 (by decide) rfl ?_
    refine g_aload_n (j := 5) C dL_law_365 rfl rfl ?_
    refine g_vi (ws' := (zW cy adM shM (z_rend cy ad X' 0 shC ++ ((tB cy (ad 152) v1 n1 z1 k1 f1) ++ ((tB cy (ad 153) v2 n2 z2 k2 f2) ++ [(zOut cy ao (vp_updL fo 0 v9.toInt64)), (zOuD cy aod fd)]))) Y')) (As := []) (rest := []) (res := Y' 0 0) C (c_X6_thrown l D cy adM (z_rend cy ad X' 0 shC ++ ((tB cy (ad 152) v1 n1 z1 k1 f1) ++ ((tB cy (ad 153) v2 n2 z2 k2 f2) ++ [(zOut cy ao (vp_updL fo 0 v9.toInt64)), (zOuD cy aod fd)]))) Y') zml_RL_155 zcv_X6_thrown (zW_get Y' sM_0) rfl rfl rfl ⟨Nat.le_of_ble_eq_true rfl, Nat.le_of_ble_eq_true rfl⟩ rfl rfl (Nat.le_of_ble_eq_true rfl) ⟨by show cells + 1 ≤ 603072; omega, by show slots + 6 ≤ 7194730; omega⟩ dL_law_366 ?_
    refine zG.less (ws' := (zW cy ad shC (zLT cy adM (tB cy (ad 152) v1 n1 z1 k1 f1) (tB cy (ad 153) v2 n2 z2 k2 f2) (zOut cy ao (vp_updL fo 0 v9.toInt64)) (zOuD cy aod fd) Y') X')) (l' := (zW cy adM shM (z_rend cy ad X' 0 shC ++ ((tB cy (ad 152) v1 n1 z1 k1 f1) ++ ((tB cy (ad 153) v2 n2 z2 k2 f2) ++ [(zOut cy ao (vp_updL fo 0 v9.toInt64)), (zOuD cy aod fd)]))) Y')) (zpM _ _ _ _ _ _).symm (List.Sublist.refl _) ?_
    refine g_iload (j := 1) C dL_law_369 rfl ?_
    refine g_icmp_eq C dL_law_371 (tgt := 376) (by decide) (fun _ => ?_) (fun h9 => absurd (e3.trans (by rw [h0]; rfl)) h9)
    refine g_iload (j := 1) C dL_law_376 rfl ?_
    refine g_if_ne C dL_law_378 (tgt := 393) (by decide) (fun h9 => absurd nI_0 h9) (fun _ => ?_)
    refine g_aload_n (j := 4) C dL_law_381 rfl rfl ?_
    refine g_iconst (v := (nI 0)) C dL_law_382 (by decide) ?_
    refine n_lald (q0 := 156) (n := 1) C zLW_o (nI_in (by decide) (by decide)) dL_law_383 ?_
    refine g_iload (j := 0) C dL_law_384 rfl ?_
    refine n_i2l C dL_law_386 ?_
    refine n_lcmp C dL_law_387 ?_
    refine g_if_eq C dL_law_388 (tgt := 393) (by decide) (fun _ => ?_) (fun h9 => absurd (lg_cmp_rf ((updL_0 _ _).trans (congrArg Int32.toInt64 (e4 h0)))) h9)
    refine g_goto C dL_law_393 (tgt := 2819) (by decide) ?_
    refine zG.wide (k := cells + 200) (n := slots + 3200) (by omega) (by omega) ?_
    refine zG_sub (L' := [(5, .int (nI (6 * j))), (4, .ref aod), (3, .ref ao), (2, .ref (adM 0)), (1, .ref (ad 0)), (0, .ref b)]) [2, 3, 4, 5, 6, 7] rfl ?_
    exact kk _ ⟨v1, n1, k1, z1, f1, t1, v2, n2, k2, z2, f2, t2, _, fd, X', Y', a', rfl, hP.step e5 e6⟩
  · skip
    refine g_istore (L' := [(6, .int (nI (i + 1))), (5, .int (nI (6 * j))), (4, .ref aod), (3, .ref ao), (2, .ref (adM 0)), (1, .ref (ad 0)), (0, .ref b)]) C dL_law_327 (by decide) rfl ?_
    refine g_aload_n (j := 4) C dL_law_329 rfl rfl ?_
    refine g_aload_n (j := 6) C dL_law_330 rfl rfl ?_
    refine g_iload (j := 1) C dL_law_331 rfl ?_
    refine g_iconst (v := (nI 1)) C dL_law_333 (by decide) ?_
    refine g_iadd C dL_law_334 ?_
    refine p_num (y := (nI (6 * j + 1))) (nI_add _ _) ?_
    refine n_sld C hX hbl hbA (nI_in (by omega) (by omega)) dL_law_335 ?_
    refine p_num (y := (xs (6 * j + 1))) (by rw [nI_clamp (by omega)]) ?_
    refine g_aload_n (j := 6) C dL_law_336 rfl rfl ?_
    refine g_iload (j := 1) C dL_law_337 rfl ?_
    refine g_iconst (v := (nI 2)) C dL_law_339 (by decide) ?_
    refine g_iadd C dL_law_340 ?_
    refine p_num (y := (nI (6 * j + 2))) (nI_add _ _) ?_
    refine n_sld C hX hbl hbA (nI_in (by omega) (by omega)) dL_law_341 ?_
    refine p_num (y := (xs (6 * j + 2))) (by rw [nI_clamp (by omega)]) ?_
    refine g_aload_n (j := 6) C dL_law_342 rfl rfl ?_
    refine g_iload (j := 1) C dL_law_343 rfl ?_
    refine g_iconst (v := (nI 3)) C dL_law_345 (by decide) ?_
    refine g_iadd C dL_law_346 ?_
    refine p_num (y := (nI (6 * j + 3))) (nI_add _ _) ?_
    refine n_sld C hX hbl hbA (nI_in (by omega) (by omega)) dL_law_347 ?_
    refine p_num (y := (xs (6 * j + 3))) (by rw [nI_clamp (by omega)]) ?_
    refine g_aload_n (j := 6) C dL_law_348 rfl rfl ?_
    refine g_iload (j := 1) C dL_law_349 rfl ?_
    refine g_iconst (v := (nI 4)) C dL_law_351 (by decide) ?_
    refine g_iadd C dL_law_352 ?_
    refine p_num (y := (nI (6 * j + 4))) (nI_add _ _) ?_
    refine n_sld C hX hbl hbA (nI_in (by omega) (by omega)) dL_law_353 ?_
    refine p_num (y := (xs (6 * j + 4))) (by rw [nI_clamp (by omega)]) ?_
    refine g_aload_n (j := 6) C dL_law_354 rfl rfl ?_
    refine g_iload (j := 1) C dL_law_355 rfl ?_
    refine g_iconst (v := (nI 5)) C dL_law_357 (by decide) ?_
    refine g_iadd C dL_law_358 ?_
    refine p_num (y := (nI (6 * j + 5))) (nI_add _ _) ?_
    refine n_sld C hX hbl hbA (nI_in (by omega) (by omega)) dL_law_359 ?_
    refine p_num (y := (xs (6 * j + 5))) (by rw [nI_clamp (by omega)]) ?_
    refine zG.less (ws' := (zW cy adM shM (z_rend cy ad X' 0 shC ++ ((tB cy (ad 152) v1 n1 z1 k1 f1) ++ ((tB cy (ad 153) v2 n2 z2 k2 f2) ++ [(zOut cy ao fo), (zOuD cy aod fd)]))) Y)) (l' := (zW cy ad shC (zLT cy adM (tB cy (ad 152) v1 n1 z1 k1 f1) (tB cy (ad 153) v2 n2 z2 k2 f2) (zOut cy ao fo) (zOuD cy aod fd) Y) X')) (zpM _ _ _ _ _ _) (List.Sublist.refl _) ?_
    refine g_vi (ws' := (zW cy adM shM (z_rend cy ad X' 0 shC ++ ((tB cy (ad 152) v1 n1 z1 k1 f1) ++ ((tB cy (ad 153) v2 n2 z2 k2 f2) ++ [(zOut cy ao fo), (zOuD cy aod fd)]))) Y')) (As := [.int (xs (6 * j + 1)), .int (xs (6 * j + 2)), .int (xs (6 * j + 3)), .int (xs (6 * j + 4)), .int (xs (6 * j + 5))]) (rest := []) (res := b9) C (c_X6_addFilm l D cy adM (z_rend cy ad X' 0 shC ++ ((tB cy (ad 152) v1 n1 z1 k1 f1) ++ ((tB cy (ad 153) v2 n2 z2 k2 f2) ++ [(zOut cy ao fo), (zOuD cy aod fd)]))) Y (xs (6 * j + 1)) (xs (6 * j + 2)) (xs (6 * j + 3)) (xs (6 * j + 4)) (xs (6 * j + 5)) e2) zml_RL_161 zcv_X6_addFilm (zW_get Y sM_0) rfl rfl rfl ⟨Nat.le_of_ble_eq_true rfl, Nat.le_of_ble_eq_true rfl⟩ rfl rfl (Nat.le_of_ble_eq_true rfl) ⟨by show cells + 1 ≤ 603072; omega, by show slots + 6 ≤ 7194730; omega⟩ dL_law_360 ?_
    refine g_istore (L' := [(7, .int b9), (6, .int (nI (i + 1))), (5, .int (nI (6 * j))), (4, .ref aod), (3, .ref ao), (2, .ref (adM 0)), (1, .ref (ad 0)), (0, .ref b)]) C dL_law_363 (by decide) rfl ?_
    refine g_aload_n (j := 5) C dL_law_365 rfl rfl ?_
    refine g_vi (ws' := (zW cy adM shM (z_rend cy ad X' 0 shC ++ ((tB cy (ad 152) v1 n1 z1 k1 f1) ++ ((tB cy (ad 153) v2 n2 z2 k2 f2) ++ [(zOut cy ao fo), (zOuD cy aod fd)]))) Y')) (As := []) (rest := []) (res := Y' 0 0) C (c_X6_thrown l D cy adM (z_rend cy ad X' 0 shC ++ ((tB cy (ad 152) v1 n1 z1 k1 f1) ++ ((tB cy (ad 153) v2 n2 z2 k2 f2) ++ [(zOut cy ao fo), (zOuD cy aod fd)]))) Y') zml_RL_155 zcv_X6_thrown (zW_get Y' sM_0) rfl rfl rfl ⟨Nat.le_of_ble_eq_true rfl, Nat.le_of_ble_eq_true rfl⟩ rfl rfl (Nat.le_of_ble_eq_true rfl) ⟨by show cells + 1 ≤ 603072; omega, by show slots + 6 ≤ 7194730; omega⟩ dL_law_366 ?_
    refine zG.less (ws' := (zW cy ad shC (zLT cy adM (tB cy (ad 152) v1 n1 z1 k1 f1) (tB cy (ad 153) v2 n2 z2 k2 f2) (zOut cy ao fo) (zOuD cy aod fd) Y') X')) (l' := (zW cy adM shM (z_rend cy ad X' 0 shC ++ ((tB cy (ad 152) v1 n1 z1 k1 f1) ++ ((tB cy (ad 153) v2 n2 z2 k2 f2) ++ [(zOut cy ao fo), (zOuD cy aod fd)]))) Y')) (zpM _ _ _ _ _ _).symm (List.Sublist.refl _) ?_
    refine g_iload (j := 1) C dL_law_369 rfl ?_
    refine g_icmp_eq C dL_law_371 (tgt := 376) (by decide) (fun _ => ?_) (fun h9 => absurd (e3.trans (congrArg nI (kx_12 i _ hi))) h9)
    refine g_iload (j := 1) C dL_law_376 rfl ?_
    refine g_if_ne C dL_law_378 (tgt := 393) (by decide) (fun _ => ?_) (fun h9 => absurd h9 (nIs_ne0 (getE_lt hi (by decide))))
    refine g_goto C dL_law_393 (tgt := 2819) (by decide) ?_
    refine zG.wide (k := cells + 200) (n := slots + 3200) (by omega) (by omega) ?_
    refine zG_sub (L' := [(5, .int (nI (6 * j))), (4, .ref aod), (3, .ref ao), (2, .ref (adM 0)), (1, .ref (ad 0)), (0, .ref b)]) [2, 3, 4, 5, 6, 7] rfl ?_
    exact kk _ ⟨v1, n1, k1, z1, f1, t1, v2, n2, k2, z2, f2, t2, fo, fd, X', Y', a', rfl, hP.step e5 e6⟩
theorem zml_RL_165 : Cond.methodLink RL 165 yX6_setShares ∈ zAll := zg (z_t7 (List.mem_of_getElem? (i := 76) (by decide +kernel))) (by decide +kernel)
set_option maxRecDepth 100000 in
set_option maxHeartbeats 8000000 in
theorem law_setShares (C : zC p s m args meth c code 9 RL D (zTy cy) A) (hE : zEl A s s.heap) (hlt : l.stackTraces = false) (hX : va_X b N xs s s.heap) (hbl : b < s.heap.size) (hbA : ¬ A b) (j : Nat) (hj : 6 * j + 6 ≤ N) (hN : N ≤ 3072) (w : va_W) (hJ : zLJ cy ad adM ao aod w) (hc : cells + 200 ≤ 603072) (hs : slots + 3200 ≤ 7194730) (kk : ∀ w', zLJ cy ad adM ao aod w' → zG p l e room_1 s m args below meth c 9 D A (cells + 200) (slots + 3200) Q w' 2819 [(5, .int (nI (6 * j))), (4, .ref aod), (3, .ref ao), (2, .ref (adM 0)), (1, .ref (ad 0)), (0, .ref b)] []) : zG p l e room_1 s m args below meth c 9 D A cells slots Q w 396 [(5, .int (nI (6 * j))), (4, .ref aod), (3, .ref ao), (2, .ref (adM 0)), (1, .ref (ad 0)), (0, .ref b)] [] := by
  obtain ⟨v1, n1, k1, z1, f1, t1, v2, n2, k2, z2, f2, t2, fo, fd, X, Y, a, rfl, hP⟩ := hJ
  obtain ⟨c9, v9, b9, X', Y', a', e1, e2, e3, e4, e5, e6⟩ := sim_setShares hP.1 (xs (6 * j + 1)) (xs (6 * j + 2)) (xs (6 * j + 3)) (xs (6 * j + 4))
  have hcd : inC [3, 1] c9 := (oc_setShares X (xs (6 * j + 1)) (xs (6 * j + 2)) (xs (6 * j + 3)) (xs (6 * j + 4))).o _ e1
  have hM := (c_X5_setShares l hlt D cy ad (zLT cy adM (tB cy (ad 152) v1 n1 z1 k1 f1) (tB cy (ad 153) v2 n2 z2 k2 f2) (zOut cy ao fo) (zOuD cy aod fd) Y) X (xs (6 * j + 1)) (xs (6 * j + 2)) (xs (6 * j + 3)) (xs (6 * j + 4))).toY
  rw [Option.some.inj e1] at hM
  have hw := hw_setShares l D cy zTh_ge zEw_th _ (ad 0) _ (xs (6 * j + 1)) (xs (6 * j + 2)) (xs (6 * j + 3)) (xs (6 * j + 4)) ao 156 fo 1 6 _ _ _ hM rfl rfl ⟨by decide, by decide⟩ (zW_get X sC_0) (fun v w hh => by obtain ⟨_, _, rfl⟩ := hh; exact zLW_o) (fun c w hh h0 => by obtain ⟨rfl, _⟩ := hh; simpa using hcd.ne h0)
  refine g_aload_n (j := 4) C dL_law_396 rfl rfl ?_
  refine g_aload_n (j := 5) C dL_law_397 rfl rfl ?_
  refine g_iload (j := 0) C dL_law_398 rfl ?_
  refine g_iconst (v := (nI 1)) C dL_law_400 (by decide) ?_
  refine g_iadd C dL_law_401 ?_
  refine p_num (y := (nI (6 * j + 1))) (nI_add _ _) ?_
  refine n_sld C hX hbl hbA (nI_in (by omega) (by omega)) dL_law_402 ?_
  refine p_num (y := (xs (6 * j + 1))) (by rw [nI_clamp (by omega)]) ?_
  refine g_aload_n (j := 5) C dL_law_403 rfl rfl ?_
  refine g_iload (j := 0) C dL_law_404 rfl ?_
  refine g_iconst (v := (nI 2)) C dL_law_406 (by decide) ?_
  refine g_iadd C dL_law_407 ?_
  refine p_num (y := (nI (6 * j + 2))) (nI_add _ _) ?_
  refine n_sld C hX hbl hbA (nI_in (by omega) (by omega)) dL_law_408 ?_
  refine p_num (y := (xs (6 * j + 2))) (by rw [nI_clamp (by omega)]) ?_
  refine g_aload_n (j := 5) C dL_law_409 rfl rfl ?_
  refine g_iload (j := 0) C dL_law_410 rfl ?_
  refine g_iconst (v := (nI 3)) C dL_law_412 (by decide) ?_
  refine g_iadd C dL_law_413 ?_
  refine p_num (y := (nI (6 * j + 3))) (nI_add _ _) ?_
  refine n_sld C hX hbl hbA (nI_in (by omega) (by omega)) dL_law_414 ?_
  refine p_num (y := (xs (6 * j + 3))) (by rw [nI_clamp (by omega)]) ?_
  refine g_aload_n (j := 5) C dL_law_415 rfl rfl ?_
  refine g_iload (j := 0) C dL_law_416 rfl ?_
  refine g_iconst (v := (nI 4)) C dL_law_418 (by decide) ?_
  refine g_iadd C dL_law_419 ?_
  refine p_num (y := (nI (6 * j + 4))) (nI_add _ _) ?_
  refine n_sld C hX hbl hbA (nI_in (by omega) (by omega)) dL_law_420 ?_
  refine p_num (y := (xs (6 * j + 4))) (by rw [nI_clamp (by omega)]) ?_
  refine g_aload_n (j := 2) C dL_law_421 rfl rfl ?_
  refine t_SWi (As := [.ref (ad 0), .int (xs (6 * j + 1)), .int (xs (6 * j + 2)), .int (xs (6 * j + 3)), .int (xs (6 * j + 4)), .ref ao]) (rest := []) zEw_ge hE.1 C hw zcw_setShares rfl rfl ⟨Nat.le_of_ble_eq_true rfl, Nat.le_of_ble_eq_true rfl⟩ rfl rfl (Nat.le_of_ble_eq_true rfl) ⟨by show cells + 1 ≤ 603072; omega, by show slots + 6 ≤ 7194730; omega⟩ dL_law_422 ?_
  intro r w hr9
  rcases hr9 with ⟨rfl, v', w1, ⟨h0, hv9, rfl⟩, rfl⟩ | ⟨i, c', hi, ⟨rfl, rfl⟩, hne, rfl⟩
  · skip
    have hv9 : v9 = v' := hv9.symm
    subst hv9
    rw [show List.set _ 156 _ = (zW cy ad shC (zLT cy adM (tB cy (ad 152) v1 n1 z1 k1 f1) (tB cy (ad 153) v2 n2 z2 k2 f2) (zOut cy ao (vp_updL fo 0 v9.toInt64)) (zOuD cy aod fd) Y) X') from zLW_so]
    have h0 : c9 = 0 := h0
    refine g_istore (L' := [(6, .int (nI 0)), (5, .int (nI (6 * j))), (4, .ref aod), (3, .ref ao), (2, .ref (adM 0)), (1, .ref (ad 0)), (0, .ref b)]) C dL_law_425 (by decide) rfl ?_
    refine g_aload_n (j := 4) C dL_law_427 rfl rfl ?_
    refine g_aload_n (j := 6) C dL_law_428 rfl rfl ?_
    refine g_iload (j := 1) C dL_law_429 rfl ?_
    refine g_iconst (v := (nI 1)) C dL_law_431 (by decide) ?_
    refine g_iadd C dL_law_432 ?_
    refine p_num (y := (nI (6 * j + 1))) (nI_add _ _) ?_
    refine n_sld C hX hbl hbA (nI_in (by omega) (by omega)) dL_law_433 ?_
    refine p_num (y := (xs (6 * j + 1))) (by rw [nI_clamp (by omega)]) ?_
    refine g_aload_n (j := 6) C dL_law_434 rfl rfl ?_
    refine g_iload (j := 1) C dL_law_435 rfl ?_
    refine g_iconst (v := (nI 2)) C dL_law_437 (by decide) ?_
    refine g_iadd C dL_law_438 ?_
    refine p_num (y := (nI (6 * j + 2))) (nI_add _ _) ?_
    refine n_sld C hX hbl hbA (nI_in (by omega) (by omega)) dL_law_439 ?_
    refine p_num (y := (xs (6 * j + 2))) (by rw [nI_clamp (by omega)]) ?_
    refine g_aload_n (j := 6) C dL_law_440 rfl rfl ?_
    refine g_iload (j := 1) C dL_law_441 rfl ?_
    refine g_iconst (v := (nI 3)) C dL_law_443 (by decide) ?_
    refine g_iadd C dL_law_444 ?_
    refine p_num (y := (nI (6 * j + 3))) (nI_add _ _) ?_
    refine n_sld C hX hbl hbA (nI_in (by omega) (by omega)) dL_law_445 ?_
    refine p_num (y := (xs (6 * j + 3))) (by rw [nI_clamp (by omega)]) ?_
    refine g_aload_n (j := 6) C dL_law_446 rfl rfl ?_
    refine g_iload (j := 1) C dL_law_447 rfl ?_
    refine g_iconst (v := (nI 4)) C dL_law_449 (by decide) ?_
    refine g_iadd C dL_law_450 ?_
    refine p_num (y := (nI (6 * j + 4))) (nI_add _ _) ?_
    refine n_sld C hX hbl hbA (nI_in (by omega) (by omega)) dL_law_451 ?_
    refine p_num (y := (xs (6 * j + 4))) (by rw [nI_clamp (by omega)]) ?_
    refine zG.less (ws' := (zW cy adM shM (z_rend cy ad X' 0 shC ++ ((tB cy (ad 152) v1 n1 z1 k1 f1) ++ ((tB cy (ad 153) v2 n2 z2 k2 f2) ++ [(zOut cy ao (vp_updL fo 0 v9.toInt64)), (zOuD cy aod fd)]))) Y)) (l' := (zW cy ad shC (zLT cy adM (tB cy (ad 152) v1 n1 z1 k1 f1) (tB cy (ad 153) v2 n2 z2 k2 f2) (zOut cy ao (vp_updL fo 0 v9.toInt64)) (zOuD cy aod fd) Y) X')) (zpM _ _ _ _ _ _) (List.Sublist.refl _) ?_
    refine g_vi (ws' := (zW cy adM shM (z_rend cy ad X' 0 shC ++ ((tB cy (ad 152) v1 n1 z1 k1 f1) ++ ((tB cy (ad 153) v2 n2 z2 k2 f2) ++ [(zOut cy ao (vp_updL fo 0 v9.toInt64)), (zOuD cy aod fd)]))) Y')) (As := [.int (xs (6 * j + 1)), .int (xs (6 * j + 2)), .int (xs (6 * j + 3)), .int (xs (6 * j + 4))]) (rest := []) (res := b9) C (c_X6_setShares l D cy adM (z_rend cy ad X' 0 shC ++ ((tB cy (ad 152) v1 n1 z1 k1 f1) ++ ((tB cy (ad 153) v2 n2 z2 k2 f2) ++ [(zOut cy ao (vp_updL fo 0 v9.toInt64)), (zOuD cy aod fd)]))) Y (xs (6 * j + 1)) (xs (6 * j + 2)) (xs (6 * j + 3)) (xs (6 * j + 4)) e2) zml_RL_165 zcv_X6_setShares (zW_get Y sM_0) rfl rfl rfl ⟨Nat.le_of_ble_eq_true rfl, Nat.le_of_ble_eq_true rfl⟩ rfl rfl (Nat.le_of_ble_eq_true rfl) ⟨by show cells + 1 ≤ 603072; omega, by show slots + 6 ≤ 7194730; omega⟩ dL_law_452 ?_
    refine g_istore (L' := [(7, .int b9), (6, .int (nI 0)), (5, .int (nI (6 * j))), (4, .ref aod), (3, .ref ao), (2, .ref (adM 0)), (1, .ref (ad 0)), (0, .ref b)]) C dL_law_455 (by decide) rfl ?_
    refine g_aload_n (j := 5) C dL_law_457 rfl rfl ?_
    refine g_vi (ws' := (zW cy adM shM (z_rend cy ad X' 0 shC ++ ((tB cy (ad 152) v1 n1 z1 k1 f1) ++ ((tB cy (ad 153) v2 n2 z2 k2 f2) ++ [(zOut cy ao (vp_updL fo 0 v9.toInt64)), (zOuD cy aod fd)]))) Y')) (As := []) (rest := []) (res := Y' 0 0) C (c_X6_thrown l D cy adM (z_rend cy ad X' 0 shC ++ ((tB cy (ad 152) v1 n1 z1 k1 f1) ++ ((tB cy (ad 153) v2 n2 z2 k2 f2) ++ [(zOut cy ao (vp_updL fo 0 v9.toInt64)), (zOuD cy aod fd)]))) Y') zml_RL_155 zcv_X6_thrown (zW_get Y' sM_0) rfl rfl rfl ⟨Nat.le_of_ble_eq_true rfl, Nat.le_of_ble_eq_true rfl⟩ rfl rfl (Nat.le_of_ble_eq_true rfl) ⟨by show cells + 1 ≤ 603072; omega, by show slots + 6 ≤ 7194730; omega⟩ dL_law_458 ?_
    refine zG.less (ws' := (zW cy ad shC (zLT cy adM (tB cy (ad 152) v1 n1 z1 k1 f1) (tB cy (ad 153) v2 n2 z2 k2 f2) (zOut cy ao (vp_updL fo 0 v9.toInt64)) (zOuD cy aod fd) Y') X')) (l' := (zW cy adM shM (z_rend cy ad X' 0 shC ++ ((tB cy (ad 152) v1 n1 z1 k1 f1) ++ ((tB cy (ad 153) v2 n2 z2 k2 f2) ++ [(zOut cy ao (vp_updL fo 0 v9.toInt64)), (zOuD cy aod fd)]))) Y')) (zpM _ _ _ _ _ _).symm (List.Sublist.refl _) ?_
    refine g_iload (j := 1) C dL_law_461 rfl ?_
    refine g_icmp_eq C dL_law_463 (tgt := 468) (by decide) (fun _ => ?_) (fun h9 => absurd (e3.trans (by rw [h0]; rfl)) h9)
    refine g_iload (j := 1) C dL_law_468 rfl ?_
    refine g_if_ne C dL_law_470 (tgt := 485) (by decide) (fun h9 => absurd nI_0 h9) (fun _ => ?_)
    refine g_aload_n (j := 4) C dL_law_473 rfl rfl ?_
    refine g_iconst (v := (nI 0)) C dL_law_474 (by decide) ?_
    refine n_lald (q0 := 156) (n := 1) C zLW_o (nI_in (by decide) (by decide)) dL_law_475 ?_
    refine g_iload (j := 0) C dL_law_476 rfl ?_
    refine n_i2l C dL_law_478 ?_
    refine n_lcmp C dL_law_479 ?_
    refine g_if_eq C dL_law_480 (tgt := 485) (by decide) (fun _ => ?_) (fun h9 => absurd (lg_cmp_rf ((updL_0 _ _).trans (congrArg Int32.toInt64 (e4 h0)))) h9)
    refine g_goto C dL_law_485 (tgt := 2819) (by decide) ?_
    refine zG.wide (k := cells + 200) (n := slots + 3200) (by omega) (by omega) ?_
    refine zG_sub (L' := [(5, .int (nI (6 * j))), (4, .ref aod), (3, .ref ao), (2, .ref (adM 0)), (1, .ref (ad 0)), (0, .ref b)]) [2, 3, 4, 5, 6, 7] rfl ?_
    exact kk _ ⟨v1, n1, k1, z1, f1, t1, v2, n2, k2, z2, f2, t2, _, fd, X', Y', a', rfl, hP.step e5 e6⟩
  · skip
    refine g_istore (L' := [(6, .int (nI (i + 1))), (5, .int (nI (6 * j))), (4, .ref aod), (3, .ref ao), (2, .ref (adM 0)), (1, .ref (ad 0)), (0, .ref b)]) C dL_law_425 (by decide) rfl ?_
    refine g_aload_n (j := 4) C dL_law_427 rfl rfl ?_
    refine g_aload_n (j := 6) C dL_law_428 rfl rfl ?_
    refine g_iload (j := 1) C dL_law_429 rfl ?_
    refine g_iconst (v := (nI 1)) C dL_law_431 (by decide) ?_
    refine g_iadd C dL_law_432 ?_
    refine p_num (y := (nI (6 * j + 1))) (nI_add _ _) ?_
    refine n_sld C hX hbl hbA (nI_in (by omega) (by omega)) dL_law_433 ?_
    refine p_num (y := (xs (6 * j + 1))) (by rw [nI_clamp (by omega)]) ?_
    refine g_aload_n (j := 6) C dL_law_434 rfl rfl ?_
    refine g_iload (j := 1) C dL_law_435 rfl ?_
    refine g_iconst (v := (nI 2)) C dL_law_437 (by decide) ?_
    refine g_iadd C dL_law_438 ?_
    refine p_num (y := (nI (6 * j + 2))) (nI_add _ _) ?_
    refine n_sld C hX hbl hbA (nI_in (by omega) (by omega)) dL_law_439 ?_
    refine p_num (y := (xs (6 * j + 2))) (by rw [nI_clamp (by omega)]) ?_
    refine g_aload_n (j := 6) C dL_law_440 rfl rfl ?_
    refine g_iload (j := 1) C dL_law_441 rfl ?_
    refine g_iconst (v := (nI 3)) C dL_law_443 (by decide) ?_
    refine g_iadd C dL_law_444 ?_
    refine p_num (y := (nI (6 * j + 3))) (nI_add _ _) ?_
    refine n_sld C hX hbl hbA (nI_in (by omega) (by omega)) dL_law_445 ?_
    refine p_num (y := (xs (6 * j + 3))) (by rw [nI_clamp (by omega)]) ?_
    refine g_aload_n (j := 6) C dL_law_446 rfl rfl ?_
    refine g_iload (j := 1) C dL_law_447 rfl ?_
    refine g_iconst (v := (nI 4)) C dL_law_449 (by decide) ?_
    refine g_iadd C dL_law_450 ?_
    refine p_num (y := (nI (6 * j + 4))) (nI_add _ _) ?_
    refine n_sld C hX hbl hbA (nI_in (by omega) (by omega)) dL_law_451 ?_
    refine p_num (y := (xs (6 * j + 4))) (by rw [nI_clamp (by omega)]) ?_
    refine zG.less (ws' := (zW cy adM shM (z_rend cy ad X' 0 shC ++ ((tB cy (ad 152) v1 n1 z1 k1 f1) ++ ((tB cy (ad 153) v2 n2 z2 k2 f2) ++ [(zOut cy ao fo), (zOuD cy aod fd)]))) Y)) (l' := (zW cy ad shC (zLT cy adM (tB cy (ad 152) v1 n1 z1 k1 f1) (tB cy (ad 153) v2 n2 z2 k2 f2) (zOut cy ao fo) (zOuD cy aod fd) Y) X')) (zpM _ _ _ _ _ _) (List.Sublist.refl _) ?_
    refine g_vi (ws' := (zW cy adM shM (z_rend cy ad X' 0 shC ++ ((tB cy (ad 152) v1 n1 z1 k1 f1) ++ ((tB cy (ad 153) v2 n2 z2 k2 f2) ++ [(zOut cy ao fo), (zOuD cy aod fd)]))) Y')) (As := [.int (xs (6 * j + 1)), .int (xs (6 * j + 2)), .int (xs (6 * j + 3)), .int (xs (6 * j + 4))]) (rest := []) (res := b9) C (c_X6_setShares l D cy adM (z_rend cy ad X' 0 shC ++ ((tB cy (ad 152) v1 n1 z1 k1 f1) ++ ((tB cy (ad 153) v2 n2 z2 k2 f2) ++ [(zOut cy ao fo), (zOuD cy aod fd)]))) Y (xs (6 * j + 1)) (xs (6 * j + 2)) (xs (6 * j + 3)) (xs (6 * j + 4)) e2) zml_RL_165 zcv_X6_setShares (zW_get Y sM_0) rfl rfl rfl ⟨Nat.le_of_ble_eq_true rfl, Nat.le_of_ble_eq_true rfl⟩ rfl rfl (Nat.le_of_ble_eq_true rfl) ⟨by show cells + 1 ≤ 603072; omega, by show slots + 6 ≤ 7194730; omega⟩ dL_law_452 ?_
    refine g_istore (L' := [(7, .int b9), (6, .int (nI (i + 1))), (5, .int (nI (6 * j))), (4, .ref aod), (3, .ref ao), (2, .ref (adM 0)), (1, .ref (ad 0)), (0, .ref b)]) C dL_law_455 (by decide) rfl ?_
    refine g_aload_n (j := 5) C dL_law_457 rfl rfl ?_
    refine g_vi (ws' := (zW cy adM shM (z_rend cy ad X' 0 shC ++ ((tB cy (ad 152) v1 n1 z1 k1 f1) ++ ((tB cy (ad 153) v2 n2 z2 k2 f2) ++ [(zOut cy ao fo), (zOuD cy aod fd)]))) Y')) (As := []) (rest := []) (res := Y' 0 0) C (c_X6_thrown l D cy adM (z_rend cy ad X' 0 shC ++ ((tB cy (ad 152) v1 n1 z1 k1 f1) ++ ((tB cy (ad 153) v2 n2 z2 k2 f2) ++ [(zOut cy ao fo), (zOuD cy aod fd)]))) Y') zml_RL_155 zcv_X6_thrown (zW_get Y' sM_0) rfl rfl rfl ⟨Nat.le_of_ble_eq_true rfl, Nat.le_of_ble_eq_true rfl⟩ rfl rfl (Nat.le_of_ble_eq_true rfl) ⟨by show cells + 1 ≤ 603072; omega, by show slots + 6 ≤ 7194730; omega⟩ dL_law_458 ?_
    refine zG.less (ws' := (zW cy ad shC (zLT cy adM (tB cy (ad 152) v1 n1 z1 k1 f1) (tB cy (ad 153) v2 n2 z2 k2 f2) (zOut cy ao fo) (zOuD cy aod fd) Y') X')) (l' := (zW cy adM shM (z_rend cy ad X' 0 shC ++ ((tB cy (ad 152) v1 n1 z1 k1 f1) ++ ((tB cy (ad 153) v2 n2 z2 k2 f2) ++ [(zOut cy ao fo), (zOuD cy aod fd)]))) Y')) (zpM _ _ _ _ _ _).symm (List.Sublist.refl _) ?_
    refine g_iload (j := 1) C dL_law_461 rfl ?_
    refine g_icmp_eq C dL_law_463 (tgt := 468) (by decide) (fun _ => ?_) (fun h9 => absurd (e3.trans (congrArg nI (kx_31 i _ hi))) h9)
    refine g_iload (j := 1) C dL_law_468 rfl ?_
    refine g_if_ne C dL_law_470 (tgt := 485) (by decide) (fun _ => ?_) (fun h9 => absurd h9 (nIs_ne0 (getE_lt hi (by decide))))
    refine g_goto C dL_law_485 (tgt := 2819) (by decide) ?_
    refine zG.wide (k := cells + 200) (n := slots + 3200) (by omega) (by omega) ?_
    refine zG_sub (L' := [(5, .int (nI (6 * j))), (4, .ref aod), (3, .ref ao), (2, .ref (adM 0)), (1, .ref (ad 0)), (0, .ref b)]) [2, 3, 4, 5, 6, 7] rfl ?_
    exact kk _ ⟨v1, n1, k1, z1, f1, t1, v2, n2, k2, z2, f2, t2, fo, fd, X', Y', a', rfl, hP.step e5 e6⟩
theorem zml_RL_168 : Cond.methodLink RL 168 yX6_addTrailer ∈ zAll := zg (z_t7 (List.mem_of_getElem? (i := 88) (by decide +kernel))) (by decide +kernel)
set_option maxRecDepth 100000 in
set_option maxHeartbeats 8000000 in
theorem law_addTrailer (C : zC p s m args meth c code 9 RL D (zTy cy) A) (hE : zEl A s s.heap) (hlt : l.stackTraces = false) (hX : va_X b N xs s s.heap) (hbl : b < s.heap.size) (hbA : ¬ A b) (j : Nat) (hj : 6 * j + 6 ≤ N) (hN : N ≤ 3072) (w : va_W) (hJ : zLJ cy ad adM ao aod w) (hc : cells + 200 ≤ 603072) (hs : slots + 3200 ≤ 7194730) (kk : ∀ w', zLJ cy ad adM ao aod w' → zG p l e room_1 s m args below meth c 9 D A (cells + 200) (slots + 3200) Q w' 2819 [(5, .int (nI (6 * j))), (4, .ref aod), (3, .ref ao), (2, .ref (adM 0)), (1, .ref (ad 0)), (0, .ref b)] []) : zG p l e room_1 s m args below meth c 9 D A cells slots Q w 488 [(5, .int (nI (6 * j))), (4, .ref aod), (3, .ref ao), (2, .ref (adM 0)), (1, .ref (ad 0)), (0, .ref b)] [] := by
  obtain ⟨v1, n1, k1, z1, f1, t1, v2, n2, k2, z2, f2, t2, fo, fd, X, Y, a, rfl, hP⟩ := hJ
  obtain ⟨c9, v9, b9, X', Y', a', e1, e2, e3, e4, e5, e6⟩ := sim_addTrailer hP.1 (xs (6 * j + 1)) (xs (6 * j + 2)) (xs (6 * j + 3)) (xs (6 * j + 4))
  have hcd : inC [3, 1, 2] c9 := oc_addTrailer X (xs (6 * j + 1)) (xs (6 * j + 2)) (xs (6 * j + 3)) (xs (6 * j + 4)) _ e1
  have hM := (c_X5_addTrailer l hlt D cy ad (zLT cy adM (tB cy (ad 152) v1 n1 z1 k1 f1) (tB cy (ad 153) v2 n2 z2 k2 f2) (zOut cy ao fo) (zOuD cy aod fd) Y) X (xs (6 * j + 1)) (xs (6 * j + 2)) (xs (6 * j + 3)) (xs (6 * j + 4)) e1).toY
  have hw := hw_addTrailer l D cy zTh_ge zEw_th _ (ad 0) _ (xs (6 * j + 1)) (xs (6 * j + 2)) (xs (6 * j + 3)) (xs (6 * j + 4)) ao 156 fo 1 6 _ _ _ hM rfl rfl ⟨by decide, by decide⟩ (zW_get X sC_0) (fun v w hh => by obtain ⟨_, _, rfl⟩ := hh; exact zLW_o) (fun c w hh h0 => by obtain ⟨rfl, _⟩ := hh; simpa using hcd.ne h0)
  refine g_aload_n (j := 4) C dL_law_488 rfl rfl ?_
  refine g_aload_n (j := 5) C dL_law_489 rfl rfl ?_
  refine g_iload (j := 0) C dL_law_490 rfl ?_
  refine g_iconst (v := (nI 1)) C dL_law_492 (by decide) ?_
  refine g_iadd C dL_law_493 ?_
  refine p_num (y := (nI (6 * j + 1))) (nI_add _ _) ?_
  refine n_sld C hX hbl hbA (nI_in (by omega) (by omega)) dL_law_494 ?_
  refine p_num (y := (xs (6 * j + 1))) (by rw [nI_clamp (by omega)]) ?_
  refine g_aload_n (j := 5) C dL_law_495 rfl rfl ?_
  refine g_iload (j := 0) C dL_law_496 rfl ?_
  refine g_iconst (v := (nI 2)) C dL_law_498 (by decide) ?_
  refine g_iadd C dL_law_499 ?_
  refine p_num (y := (nI (6 * j + 2))) (nI_add _ _) ?_
  refine n_sld C hX hbl hbA (nI_in (by omega) (by omega)) dL_law_500 ?_
  refine p_num (y := (xs (6 * j + 2))) (by rw [nI_clamp (by omega)]) ?_
  refine g_aload_n (j := 5) C dL_law_501 rfl rfl ?_
  refine g_iload (j := 0) C dL_law_502 rfl ?_
  refine g_iconst (v := (nI 3)) C dL_law_504 (by decide) ?_
  refine g_iadd C dL_law_505 ?_
  refine p_num (y := (nI (6 * j + 3))) (nI_add _ _) ?_
  refine n_sld C hX hbl hbA (nI_in (by omega) (by omega)) dL_law_506 ?_
  refine p_num (y := (xs (6 * j + 3))) (by rw [nI_clamp (by omega)]) ?_
  refine g_aload_n (j := 5) C dL_law_507 rfl rfl ?_
  refine g_iload (j := 0) C dL_law_508 rfl ?_
  refine g_iconst (v := (nI 4)) C dL_law_510 (by decide) ?_
  refine g_iadd C dL_law_511 ?_
  refine p_num (y := (nI (6 * j + 4))) (nI_add _ _) ?_
  refine n_sld C hX hbl hbA (nI_in (by omega) (by omega)) dL_law_512 ?_
  refine p_num (y := (xs (6 * j + 4))) (by rw [nI_clamp (by omega)]) ?_
  refine g_aload_n (j := 2) C dL_law_513 rfl rfl ?_
  refine t_SWi (As := [.ref (ad 0), .int (xs (6 * j + 1)), .int (xs (6 * j + 2)), .int (xs (6 * j + 3)), .int (xs (6 * j + 4)), .ref ao]) (rest := []) zEw_ge hE.1 C hw zcw_addTrailer rfl rfl ⟨Nat.le_of_ble_eq_true rfl, Nat.le_of_ble_eq_true rfl⟩ rfl rfl (Nat.le_of_ble_eq_true rfl) ⟨by show cells + 1 ≤ 603072; omega, by show slots + 6 ≤ 7194730; omega⟩ dL_law_514 ?_
  intro r w hr9
  rcases hr9 with ⟨rfl, v', w1, ⟨h0, hv9, rfl⟩, rfl⟩ | ⟨i, c', hi, ⟨rfl, rfl⟩, hne, rfl⟩
  · skip
    have hv9 : v9 = v' := hv9.symm
    subst hv9
    rw [show List.set _ 156 _ = (zW cy ad shC (zLT cy adM (tB cy (ad 152) v1 n1 z1 k1 f1) (tB cy (ad 153) v2 n2 z2 k2 f2) (zOut cy ao (vp_updL fo 0 v9.toInt64)) (zOuD cy aod fd) Y) X') from zLW_so]
    have h0 : c9 = 0 := h0
    refine g_istore (L' := [(6, .int (nI 0)), (5, .int (nI (6 * j))), (4, .ref aod), (3, .ref ao), (2, .ref (adM 0)), (1, .ref (ad 0)), (0, .ref b)]) C dL_law_517 (by decide) rfl ?_
    refine g_aload_n (j := 4) C dL_law_519 rfl rfl ?_
    refine g_aload_n (j := 6) C dL_law_520 rfl rfl ?_
    refine g_iload (j := 1) C dL_law_521 rfl ?_
    refine g_iconst (v := (nI 1)) C dL_law_523 (by decide) ?_
    refine g_iadd C dL_law_524 ?_
    refine p_num (y := (nI (6 * j + 1))) (nI_add _ _) ?_
    refine n_sld C hX hbl hbA (nI_in (by omega) (by omega)) dL_law_525 ?_
    refine p_num (y := (xs (6 * j + 1))) (by rw [nI_clamp (by omega)]) ?_
    refine g_aload_n (j := 6) C dL_law_526 rfl rfl ?_
    refine g_iload (j := 1) C dL_law_527 rfl ?_
    refine g_iconst (v := (nI 2)) C dL_law_529 (by decide) ?_
    refine g_iadd C dL_law_530 ?_
    refine p_num (y := (nI (6 * j + 2))) (nI_add _ _) ?_
    refine n_sld C hX hbl hbA (nI_in (by omega) (by omega)) dL_law_531 ?_
    refine p_num (y := (xs (6 * j + 2))) (by rw [nI_clamp (by omega)]) ?_
    refine g_aload_n (j := 6) C dL_law_532 rfl rfl ?_
    refine g_iload (j := 1) C dL_law_533 rfl ?_
    refine g_iconst (v := (nI 3)) C dL_law_535 (by decide) ?_
    refine g_iadd C dL_law_536 ?_
    refine p_num (y := (nI (6 * j + 3))) (nI_add _ _) ?_
    refine n_sld C hX hbl hbA (nI_in (by omega) (by omega)) dL_law_537 ?_
    refine p_num (y := (xs (6 * j + 3))) (by rw [nI_clamp (by omega)]) ?_
    refine g_aload_n (j := 6) C dL_law_538 rfl rfl ?_
    refine g_iload (j := 1) C dL_law_539 rfl ?_
    refine g_iconst (v := (nI 4)) C dL_law_541 (by decide) ?_
    refine g_iadd C dL_law_542 ?_
    refine p_num (y := (nI (6 * j + 4))) (nI_add _ _) ?_
    refine n_sld C hX hbl hbA (nI_in (by omega) (by omega)) dL_law_543 ?_
    refine p_num (y := (xs (6 * j + 4))) (by rw [nI_clamp (by omega)]) ?_
    refine zG.less (ws' := (zW cy adM shM (z_rend cy ad X' 0 shC ++ ((tB cy (ad 152) v1 n1 z1 k1 f1) ++ ((tB cy (ad 153) v2 n2 z2 k2 f2) ++ [(zOut cy ao (vp_updL fo 0 v9.toInt64)), (zOuD cy aod fd)]))) Y)) (l' := (zW cy ad shC (zLT cy adM (tB cy (ad 152) v1 n1 z1 k1 f1) (tB cy (ad 153) v2 n2 z2 k2 f2) (zOut cy ao (vp_updL fo 0 v9.toInt64)) (zOuD cy aod fd) Y) X')) (zpM _ _ _ _ _ _) (List.Sublist.refl _) ?_
    refine g_vi (ws' := (zW cy adM shM (z_rend cy ad X' 0 shC ++ ((tB cy (ad 152) v1 n1 z1 k1 f1) ++ ((tB cy (ad 153) v2 n2 z2 k2 f2) ++ [(zOut cy ao (vp_updL fo 0 v9.toInt64)), (zOuD cy aod fd)]))) Y')) (As := [.int (xs (6 * j + 1)), .int (xs (6 * j + 2)), .int (xs (6 * j + 3)), .int (xs (6 * j + 4))]) (rest := []) (res := b9) C (c_X6_addTrailer l D cy adM (z_rend cy ad X' 0 shC ++ ((tB cy (ad 152) v1 n1 z1 k1 f1) ++ ((tB cy (ad 153) v2 n2 z2 k2 f2) ++ [(zOut cy ao (vp_updL fo 0 v9.toInt64)), (zOuD cy aod fd)]))) Y (xs (6 * j + 1)) (xs (6 * j + 2)) (xs (6 * j + 3)) (xs (6 * j + 4)) e2) zml_RL_168 zcv_X6_addTrailer (zW_get Y sM_0) rfl rfl rfl ⟨Nat.le_of_ble_eq_true rfl, Nat.le_of_ble_eq_true rfl⟩ rfl rfl (Nat.le_of_ble_eq_true rfl) ⟨by show cells + 1 ≤ 603072; omega, by show slots + 6 ≤ 7194730; omega⟩ dL_law_544 ?_
    refine g_istore (L' := [(7, .int b9), (6, .int (nI 0)), (5, .int (nI (6 * j))), (4, .ref aod), (3, .ref ao), (2, .ref (adM 0)), (1, .ref (ad 0)), (0, .ref b)]) C dL_law_547 (by decide) rfl ?_
    refine g_aload_n (j := 5) C dL_law_549 rfl rfl ?_
    refine g_vi (ws' := (zW cy adM shM (z_rend cy ad X' 0 shC ++ ((tB cy (ad 152) v1 n1 z1 k1 f1) ++ ((tB cy (ad 153) v2 n2 z2 k2 f2) ++ [(zOut cy ao (vp_updL fo 0 v9.toInt64)), (zOuD cy aod fd)]))) Y')) (As := []) (rest := []) (res := Y' 0 0) C (c_X6_thrown l D cy adM (z_rend cy ad X' 0 shC ++ ((tB cy (ad 152) v1 n1 z1 k1 f1) ++ ((tB cy (ad 153) v2 n2 z2 k2 f2) ++ [(zOut cy ao (vp_updL fo 0 v9.toInt64)), (zOuD cy aod fd)]))) Y') zml_RL_155 zcv_X6_thrown (zW_get Y' sM_0) rfl rfl rfl ⟨Nat.le_of_ble_eq_true rfl, Nat.le_of_ble_eq_true rfl⟩ rfl rfl (Nat.le_of_ble_eq_true rfl) ⟨by show cells + 1 ≤ 603072; omega, by show slots + 6 ≤ 7194730; omega⟩ dL_law_550 ?_
    refine zG.less (ws' := (zW cy ad shC (zLT cy adM (tB cy (ad 152) v1 n1 z1 k1 f1) (tB cy (ad 153) v2 n2 z2 k2 f2) (zOut cy ao (vp_updL fo 0 v9.toInt64)) (zOuD cy aod fd) Y') X')) (l' := (zW cy adM shM (z_rend cy ad X' 0 shC ++ ((tB cy (ad 152) v1 n1 z1 k1 f1) ++ ((tB cy (ad 153) v2 n2 z2 k2 f2) ++ [(zOut cy ao (vp_updL fo 0 v9.toInt64)), (zOuD cy aod fd)]))) Y')) (zpM _ _ _ _ _ _).symm (List.Sublist.refl _) ?_
    refine g_iload (j := 1) C dL_law_553 rfl ?_
    refine g_icmp_eq C dL_law_555 (tgt := 560) (by decide) (fun _ => ?_) (fun h9 => absurd (e3.trans (by rw [h0]; rfl)) h9)
    refine g_iload (j := 1) C dL_law_560 rfl ?_
    refine g_if_ne C dL_law_562 (tgt := 577) (by decide) (fun h9 => absurd nI_0 h9) (fun _ => ?_)
    refine g_aload_n (j := 4) C dL_law_565 rfl rfl ?_
    refine g_iconst (v := (nI 0)) C dL_law_566 (by decide) ?_
    refine n_lald (q0 := 156) (n := 1) C zLW_o (nI_in (by decide) (by decide)) dL_law_567 ?_
    refine g_iload (j := 0) C dL_law_568 rfl ?_
    refine n_i2l C dL_law_570 ?_
    refine n_lcmp C dL_law_571 ?_
    refine g_if_eq C dL_law_572 (tgt := 577) (by decide) (fun _ => ?_) (fun h9 => absurd (lg_cmp_rf ((updL_0 _ _).trans (congrArg Int32.toInt64 (e4 h0)))) h9)
    refine g_goto C dL_law_577 (tgt := 2819) (by decide) ?_
    refine zG.wide (k := cells + 200) (n := slots + 3200) (by omega) (by omega) ?_
    refine zG_sub (L' := [(5, .int (nI (6 * j))), (4, .ref aod), (3, .ref ao), (2, .ref (adM 0)), (1, .ref (ad 0)), (0, .ref b)]) [2, 3, 4, 5, 6, 7] rfl ?_
    exact kk _ ⟨v1, n1, k1, z1, f1, t1, v2, n2, k2, z2, f2, t2, _, fd, X', Y', a', rfl, hP.step e5 e6⟩
  · skip
    refine g_istore (L' := [(6, .int (nI (i + 1))), (5, .int (nI (6 * j))), (4, .ref aod), (3, .ref ao), (2, .ref (adM 0)), (1, .ref (ad 0)), (0, .ref b)]) C dL_law_517 (by decide) rfl ?_
    refine g_aload_n (j := 4) C dL_law_519 rfl rfl ?_
    refine g_aload_n (j := 6) C dL_law_520 rfl rfl ?_
    refine g_iload (j := 1) C dL_law_521 rfl ?_
    refine g_iconst (v := (nI 1)) C dL_law_523 (by decide) ?_
    refine g_iadd C dL_law_524 ?_
    refine p_num (y := (nI (6 * j + 1))) (nI_add _ _) ?_
    refine n_sld C hX hbl hbA (nI_in (by omega) (by omega)) dL_law_525 ?_
    refine p_num (y := (xs (6 * j + 1))) (by rw [nI_clamp (by omega)]) ?_
    refine g_aload_n (j := 6) C dL_law_526 rfl rfl ?_
    refine g_iload (j := 1) C dL_law_527 rfl ?_
    refine g_iconst (v := (nI 2)) C dL_law_529 (by decide) ?_
    refine g_iadd C dL_law_530 ?_
    refine p_num (y := (nI (6 * j + 2))) (nI_add _ _) ?_
    refine n_sld C hX hbl hbA (nI_in (by omega) (by omega)) dL_law_531 ?_
    refine p_num (y := (xs (6 * j + 2))) (by rw [nI_clamp (by omega)]) ?_
    refine g_aload_n (j := 6) C dL_law_532 rfl rfl ?_
    refine g_iload (j := 1) C dL_law_533 rfl ?_
    refine g_iconst (v := (nI 3)) C dL_law_535 (by decide) ?_
    refine g_iadd C dL_law_536 ?_
    refine p_num (y := (nI (6 * j + 3))) (nI_add _ _) ?_
    refine n_sld C hX hbl hbA (nI_in (by omega) (by omega)) dL_law_537 ?_
    refine p_num (y := (xs (6 * j + 3))) (by rw [nI_clamp (by omega)]) ?_
    refine g_aload_n (j := 6) C dL_law_538 rfl rfl ?_
    refine g_iload (j := 1) C dL_law_539 rfl ?_
    refine g_iconst (v := (nI 4)) C dL_law_541 (by decide) ?_
    refine g_iadd C dL_law_542 ?_
    refine p_num (y := (nI (6 * j + 4))) (nI_add _ _) ?_
    refine n_sld C hX hbl hbA (nI_in (by omega) (by omega)) dL_law_543 ?_
    refine p_num (y := (xs (6 * j + 4))) (by rw [nI_clamp (by omega)]) ?_
    refine zG.less (ws' := (zW cy adM shM (z_rend cy ad X' 0 shC ++ ((tB cy (ad 152) v1 n1 z1 k1 f1) ++ ((tB cy (ad 153) v2 n2 z2 k2 f2) ++ [(zOut cy ao fo), (zOuD cy aod fd)]))) Y)) (l' := (zW cy ad shC (zLT cy adM (tB cy (ad 152) v1 n1 z1 k1 f1) (tB cy (ad 153) v2 n2 z2 k2 f2) (zOut cy ao fo) (zOuD cy aod fd) Y) X')) (zpM _ _ _ _ _ _) (List.Sublist.refl _) ?_
    refine g_vi (ws' := (zW cy adM shM (z_rend cy ad X' 0 shC ++ ((tB cy (ad 152) v1 n1 z1 k1 f1) ++ ((tB cy (ad 153) v2 n2 z2 k2 f2) ++ [(zOut cy ao fo), (zOuD cy aod fd)]))) Y')) (As := [.int (xs (6 * j + 1)), .int (xs (6 * j + 2)), .int (xs (6 * j + 3)), .int (xs (6 * j + 4))]) (rest := []) (res := b9) C (c_X6_addTrailer l D cy adM (z_rend cy ad X' 0 shC ++ ((tB cy (ad 152) v1 n1 z1 k1 f1) ++ ((tB cy (ad 153) v2 n2 z2 k2 f2) ++ [(zOut cy ao fo), (zOuD cy aod fd)]))) Y (xs (6 * j + 1)) (xs (6 * j + 2)) (xs (6 * j + 3)) (xs (6 * j + 4)) e2) zml_RL_168 zcv_X6_addTrailer (zW_get Y sM_0) rfl rfl rfl ⟨Nat.le_of_ble_eq_true rfl, Nat.le_of_ble_eq_true rfl⟩ rfl rfl (Nat.le_of_ble_eq_true rfl) ⟨by show cells + 1 ≤ 603072; omega, by show slots + 6 ≤ 7194730; omega⟩ dL_law_544 ?_
    refine g_istore (L' := [(7, .int b9), (6, .int (nI (i + 1))), (5, .int (nI (6 * j))), (4, .ref aod), (3, .ref ao), (2, .ref (adM 0)), (1, .ref (ad 0)), (0, .ref b)]) C dL_law_547 (by decide) rfl ?_
    refine g_aload_n (j := 5) C dL_law_549 rfl rfl ?_
    refine g_vi (ws' := (zW cy adM shM (z_rend cy ad X' 0 shC ++ ((tB cy (ad 152) v1 n1 z1 k1 f1) ++ ((tB cy (ad 153) v2 n2 z2 k2 f2) ++ [(zOut cy ao fo), (zOuD cy aod fd)]))) Y')) (As := []) (rest := []) (res := Y' 0 0) C (c_X6_thrown l D cy adM (z_rend cy ad X' 0 shC ++ ((tB cy (ad 152) v1 n1 z1 k1 f1) ++ ((tB cy (ad 153) v2 n2 z2 k2 f2) ++ [(zOut cy ao fo), (zOuD cy aod fd)]))) Y') zml_RL_155 zcv_X6_thrown (zW_get Y' sM_0) rfl rfl rfl ⟨Nat.le_of_ble_eq_true rfl, Nat.le_of_ble_eq_true rfl⟩ rfl rfl (Nat.le_of_ble_eq_true rfl) ⟨by show cells + 1 ≤ 603072; omega, by show slots + 6 ≤ 7194730; omega⟩ dL_law_550 ?_
    refine zG.less (ws' := (zW cy ad shC (zLT cy adM (tB cy (ad 152) v1 n1 z1 k1 f1) (tB cy (ad 153) v2 n2 z2 k2 f2) (zOut cy ao fo) (zOuD cy aod fd) Y') X')) (l' := (zW cy adM shM (z_rend cy ad X' 0 shC ++ ((tB cy (ad 152) v1 n1 z1 k1 f1) ++ ((tB cy (ad 153) v2 n2 z2 k2 f2) ++ [(zOut cy ao fo), (zOuD cy aod fd)]))) Y')) (zpM _ _ _ _ _ _).symm (List.Sublist.refl _) ?_
    refine g_iload (j := 1) C dL_law_553 rfl ?_
    refine g_icmp_eq C dL_law_555 (tgt := 560) (by decide) (fun _ => ?_) (fun h9 => absurd (e3.trans (congrArg nI (kx_312 i _ hi))) h9)
    refine g_iload (j := 1) C dL_law_560 rfl ?_
    refine g_if_ne C dL_law_562 (tgt := 577) (by decide) (fun _ => ?_) (fun h9 => absurd h9 (nIs_ne0 (getE_lt hi (by decide))))
    refine g_goto C dL_law_577 (tgt := 2819) (by decide) ?_
    refine zG.wide (k := cells + 200) (n := slots + 3200) (by omega) (by omega) ?_
    refine zG_sub (L' := [(5, .int (nI (6 * j))), (4, .ref aod), (3, .ref ao), (2, .ref (adM 0)), (1, .ref (ad 0)), (0, .ref b)]) [2, 3, 4, 5, 6, 7] rfl ?_
    exact kk _ ⟨v1, n1, k1, z1, f1, t1, v2, n2, k2, z2, f2, t2, fo, fd, X', Y', a', rfl, hP.step e5 e6⟩
theorem zml_RL_172 : Cond.methodLink RL 172 yX6_set ∈ zAll := zg (z_t7 (List.mem_of_getElem? (i := 92) (by decide +kernel))) (by decide +kernel)
set_option maxRecDepth 100000 in
set_option maxHeartbeats 8000000 in
theorem law_set (C : zC p s m args meth c code 9 RL D (zTy cy) A) (hE : zEl A s s.heap) (hlt : l.stackTraces = false) (hX : va_X b N xs s s.heap) (hbl : b < s.heap.size) (hbA : ¬ A b) (j : Nat) (hj : 6 * j + 6 ≤ N) (hN : N ≤ 3072) (w : va_W) (hJ : zLJ cy ad adM ao aod w) (hc : cells + 200 ≤ 603072) (hs : slots + 3200 ≤ 7194730) (kk : ∀ w', zLJ cy ad adM ao aod w' → zG p l e room_1 s m args below meth c 9 D A (cells + 200) (slots + 3200) Q w' 2819 [(5, .int (nI (6 * j))), (4, .ref aod), (3, .ref ao), (2, .ref (adM 0)), (1, .ref (ad 0)), (0, .ref b)] []) : zG p l e room_1 s m args below meth c 9 D A cells slots Q w 580 [(5, .int (nI (6 * j))), (4, .ref aod), (3, .ref ao), (2, .ref (adM 0)), (1, .ref (ad 0)), (0, .ref b)] [] := by
  obtain ⟨v1, n1, k1, z1, f1, t1, v2, n2, k2, z2, f2, t2, fo, fd, X, Y, a, rfl, hP⟩ := hJ
  obtain ⟨c9, v9, b9, X', Y', a', e1, e2, e3, e4, e5, e6⟩ := sim_set hP.1 (xs (6 * j + 1)) (xs (6 * j + 2))
  have hcd : inC [3, 1] c9 := (oc_set X (xs (6 * j + 1)) (xs (6 * j + 2))).o _ e1
  have hM := c_X5_set l hlt D cy ad (zLT cy adM (tB cy (ad 152) v1 n1 z1 k1 f1) (tB cy (ad 153) v2 n2 z2 k2 f2) (zOut cy ao fo) (zOuD cy aod fd) Y) X (xs (6 * j + 1)) (xs (6 * j + 2))
  rw [Option.some.inj e1] at hM
  have hw := hw_set l D cy zE5_ge zEw_e5 _ (ad 0) _ (xs (6 * j + 1)) (xs (6 * j + 2)) ao 156 fo 1 6 _ _ _ hM rfl rfl ⟨by decide, by decide⟩ (zW_get X sC_0) (fun v w hh => by obtain ⟨_, _, rfl⟩ := hh; exact zLW_o) (fun c w hh h0 => by obtain ⟨rfl, _⟩ := hh; simpa using hcd.ne h0)
  refine g_aload_n (j := 4) C dL_law_580 rfl rfl ?_
  refine g_aload_n (j := 5) C dL_law_581 rfl rfl ?_
  refine g_iload (j := 0) C dL_law_582 rfl ?_
  refine g_iconst (v := (nI 1)) C dL_law_584 (by decide) ?_
  refine g_iadd C dL_law_585 ?_
  refine p_num (y := (nI (6 * j + 1))) (nI_add _ _) ?_
  refine n_sld C hX hbl hbA (nI_in (by omega) (by omega)) dL_law_586 ?_
  refine p_num (y := (xs (6 * j + 1))) (by rw [nI_clamp (by omega)]) ?_
  refine g_aload_n (j := 5) C dL_law_587 rfl rfl ?_
  refine g_iload (j := 0) C dL_law_588 rfl ?_
  refine g_iconst (v := (nI 2)) C dL_law_590 (by decide) ?_
  refine g_iadd C dL_law_591 ?_
  refine p_num (y := (nI (6 * j + 2))) (nI_add _ _) ?_
  refine n_sld C hX hbl hbA (nI_in (by omega) (by omega)) dL_law_592 ?_
  refine p_num (y := (xs (6 * j + 2))) (by rw [nI_clamp (by omega)]) ?_
  refine g_aload_n (j := 2) C dL_law_593 rfl rfl ?_
  refine t_SWi (As := [.ref (ad 0), .int (xs (6 * j + 1)), .int (xs (6 * j + 2)), .ref ao]) (rest := []) zEw_ge hE.1 C hw zcw_set rfl rfl ⟨Nat.le_of_ble_eq_true rfl, Nat.le_of_ble_eq_true rfl⟩ rfl rfl (Nat.le_of_ble_eq_true rfl) ⟨by show cells + 1 ≤ 603072; omega, by show slots + 6 ≤ 7194730; omega⟩ dL_law_594 ?_
  intro r w hr9
  rcases hr9 with ⟨rfl, v', w1, ⟨h0, hv9, rfl⟩, rfl⟩ | ⟨i, c', hi, ⟨rfl, rfl⟩, hne, rfl⟩
  · skip
    have hv9 : v9 = v' := hv9.symm
    subst hv9
    rw [show List.set _ 156 _ = (zW cy ad shC (zLT cy adM (tB cy (ad 152) v1 n1 z1 k1 f1) (tB cy (ad 153) v2 n2 z2 k2 f2) (zOut cy ao (vp_updL fo 0 v9.toInt64)) (zOuD cy aod fd) Y) X') from zLW_so]
    have h0 : c9 = 0 := h0
    refine g_istore (L' := [(6, .int (nI 0)), (5, .int (nI (6 * j))), (4, .ref aod), (3, .ref ao), (2, .ref (adM 0)), (1, .ref (ad 0)), (0, .ref b)]) C dL_law_597 (by decide) rfl ?_
    refine g_aload_n (j := 4) C dL_law_599 rfl rfl ?_
    refine g_aload_n (j := 6) C dL_law_600 rfl rfl ?_
    refine g_iload (j := 1) C dL_law_601 rfl ?_
    refine g_iconst (v := (nI 1)) C dL_law_603 (by decide) ?_
    refine g_iadd C dL_law_604 ?_
    refine p_num (y := (nI (6 * j + 1))) (nI_add _ _) ?_
    refine n_sld C hX hbl hbA (nI_in (by omega) (by omega)) dL_law_605 ?_
    refine p_num (y := (xs (6 * j + 1))) (by rw [nI_clamp (by omega)]) ?_
    refine g_aload_n (j := 6) C dL_law_606 rfl rfl ?_
    refine g_iload (j := 1) C dL_law_607 rfl ?_
    refine g_iconst (v := (nI 2)) C dL_law_609 (by decide) ?_
    refine g_iadd C dL_law_610 ?_
    refine p_num (y := (nI (6 * j + 2))) (nI_add _ _) ?_
    refine n_sld C hX hbl hbA (nI_in (by omega) (by omega)) dL_law_611 ?_
    refine p_num (y := (xs (6 * j + 2))) (by rw [nI_clamp (by omega)]) ?_
    refine zG.less (ws' := (zW cy adM shM (z_rend cy ad X' 0 shC ++ ((tB cy (ad 152) v1 n1 z1 k1 f1) ++ ((tB cy (ad 153) v2 n2 z2 k2 f2) ++ [(zOut cy ao (vp_updL fo 0 v9.toInt64)), (zOuD cy aod fd)]))) Y)) (l' := (zW cy ad shC (zLT cy adM (tB cy (ad 152) v1 n1 z1 k1 f1) (tB cy (ad 153) v2 n2 z2 k2 f2) (zOut cy ao (vp_updL fo 0 v9.toInt64)) (zOuD cy aod fd) Y) X')) (zpM _ _ _ _ _ _) (List.Sublist.refl _) ?_
    refine g_vi (ws' := (zW cy adM shM (z_rend cy ad X' 0 shC ++ ((tB cy (ad 152) v1 n1 z1 k1 f1) ++ ((tB cy (ad 153) v2 n2 z2 k2 f2) ++ [(zOut cy ao (vp_updL fo 0 v9.toInt64)), (zOuD cy aod fd)]))) Y')) (As := [.int (xs (6 * j + 1)), .int (xs (6 * j + 2))]) (rest := []) (res := b9) C (c_X6_set l D cy adM (z_rend cy ad X' 0 shC ++ ((tB cy (ad 152) v1 n1 z1 k1 f1) ++ ((tB cy (ad 153) v2 n2 z2 k2 f2) ++ [(zOut cy ao (vp_updL fo 0 v9.toInt64)), (zOuD cy aod fd)]))) Y (xs (6 * j + 1)) (xs (6 * j + 2)) e2) zml_RL_172 zcv_X6_set (zW_get Y sM_0) rfl rfl rfl ⟨Nat.le_of_ble_eq_true rfl, Nat.le_of_ble_eq_true rfl⟩ rfl rfl (Nat.le_of_ble_eq_true rfl) ⟨by show cells + 1 ≤ 603072; omega, by show slots + 6 ≤ 7194730; omega⟩ dL_law_612 ?_
    refine g_istore (L' := [(7, .int b9), (6, .int (nI 0)), (5, .int (nI (6 * j))), (4, .ref aod), (3, .ref ao), (2, .ref (adM 0)), (1, .ref (ad 0)), (0, .ref b)]) C dL_law_615 (by decide) rfl ?_
    refine g_aload_n (j := 5) C dL_law_617 rfl rfl ?_
    refine g_vi (ws' := (zW cy adM shM (z_rend cy ad X' 0 shC ++ ((tB cy (ad 152) v1 n1 z1 k1 f1) ++ ((tB cy (ad 153) v2 n2 z2 k2 f2) ++ [(zOut cy ao (vp_updL fo 0 v9.toInt64)), (zOuD cy aod fd)]))) Y')) (As := []) (rest := []) (res := Y' 0 0) C (c_X6_thrown l D cy adM (z_rend cy ad X' 0 shC ++ ((tB cy (ad 152) v1 n1 z1 k1 f1) ++ ((tB cy (ad 153) v2 n2 z2 k2 f2) ++ [(zOut cy ao (vp_updL fo 0 v9.toInt64)), (zOuD cy aod fd)]))) Y') zml_RL_155 zcv_X6_thrown (zW_get Y' sM_0) rfl rfl rfl ⟨Nat.le_of_ble_eq_true rfl, Nat.le_of_ble_eq_true rfl⟩ rfl rfl (Nat.le_of_ble_eq_true rfl) ⟨by show cells + 1 ≤ 603072; omega, by show slots + 6 ≤ 7194730; omega⟩ dL_law_618 ?_
    refine zG.less (ws' := (zW cy ad shC (zLT cy adM (tB cy (ad 152) v1 n1 z1 k1 f1) (tB cy (ad 153) v2 n2 z2 k2 f2) (zOut cy ao (vp_updL fo 0 v9.toInt64)) (zOuD cy aod fd) Y') X')) (l' := (zW cy adM shM (z_rend cy ad X' 0 shC ++ ((tB cy (ad 152) v1 n1 z1 k1 f1) ++ ((tB cy (ad 153) v2 n2 z2 k2 f2) ++ [(zOut cy ao (vp_updL fo 0 v9.toInt64)), (zOuD cy aod fd)]))) Y')) (zpM _ _ _ _ _ _).symm (List.Sublist.refl _) ?_
    refine g_iload (j := 1) C dL_law_621 rfl ?_
    refine g_icmp_eq C dL_law_623 (tgt := 628) (by decide) (fun _ => ?_) (fun h9 => absurd (e3.trans (by rw [h0]; rfl)) h9)
    refine g_iload (j := 1) C dL_law_628 rfl ?_
    refine g_if_ne C dL_law_630 (tgt := 645) (by decide) (fun h9 => absurd nI_0 h9) (fun _ => ?_)
    refine g_aload_n (j := 4) C dL_law_633 rfl rfl ?_
    refine g_iconst (v := (nI 0)) C dL_law_634 (by decide) ?_
    refine n_lald (q0 := 156) (n := 1) C zLW_o (nI_in (by decide) (by decide)) dL_law_635 ?_
    refine g_iload (j := 0) C dL_law_636 rfl ?_
    refine n_i2l C dL_law_638 ?_
    refine n_lcmp C dL_law_639 ?_
    refine g_if_eq C dL_law_640 (tgt := 645) (by decide) (fun _ => ?_) (fun h9 => absurd (lg_cmp_rf ((updL_0 _ _).trans (congrArg Int32.toInt64 (e4 h0)))) h9)
    refine g_goto C dL_law_645 (tgt := 2819) (by decide) ?_
    refine zG.wide (k := cells + 200) (n := slots + 3200) (by omega) (by omega) ?_
    refine zG_sub (L' := [(5, .int (nI (6 * j))), (4, .ref aod), (3, .ref ao), (2, .ref (adM 0)), (1, .ref (ad 0)), (0, .ref b)]) [2, 3, 4, 5, 6, 7] rfl ?_
    exact kk _ ⟨v1, n1, k1, z1, f1, t1, v2, n2, k2, z2, f2, t2, _, fd, X', Y', a', rfl, hP.step e5 e6⟩
  · skip
    refine g_istore (L' := [(6, .int (nI (i + 1))), (5, .int (nI (6 * j))), (4, .ref aod), (3, .ref ao), (2, .ref (adM 0)), (1, .ref (ad 0)), (0, .ref b)]) C dL_law_597 (by decide) rfl ?_
    refine g_aload_n (j := 4) C dL_law_599 rfl rfl ?_
    refine g_aload_n (j := 6) C dL_law_600 rfl rfl ?_
    refine g_iload (j := 1) C dL_law_601 rfl ?_
    refine g_iconst (v := (nI 1)) C dL_law_603 (by decide) ?_
    refine g_iadd C dL_law_604 ?_
    refine p_num (y := (nI (6 * j + 1))) (nI_add _ _) ?_
    refine n_sld C hX hbl hbA (nI_in (by omega) (by omega)) dL_law_605 ?_
    refine p_num (y := (xs (6 * j + 1))) (by rw [nI_clamp (by omega)]) ?_
    refine g_aload_n (j := 6) C dL_law_606 rfl rfl ?_
    refine g_iload (j := 1) C dL_law_607 rfl ?_
    refine g_iconst (v := (nI 2)) C dL_law_609 (by decide) ?_
    refine g_iadd C dL_law_610 ?_
    refine p_num (y := (nI (6 * j + 2))) (nI_add _ _) ?_
    refine n_sld C hX hbl hbA (nI_in (by omega) (by omega)) dL_law_611 ?_
    refine p_num (y := (xs (6 * j + 2))) (by rw [nI_clamp (by omega)]) ?_
    refine zG.less (ws' := (zW cy adM shM (z_rend cy ad X' 0 shC ++ ((tB cy (ad 152) v1 n1 z1 k1 f1) ++ ((tB cy (ad 153) v2 n2 z2 k2 f2) ++ [(zOut cy ao fo), (zOuD cy aod fd)]))) Y)) (l' := (zW cy ad shC (zLT cy adM (tB cy (ad 152) v1 n1 z1 k1 f1) (tB cy (ad 153) v2 n2 z2 k2 f2) (zOut cy ao fo) (zOuD cy aod fd) Y) X')) (zpM _ _ _ _ _ _) (List.Sublist.refl _) ?_
    refine g_vi (ws' := (zW cy adM shM (z_rend cy ad X' 0 shC ++ ((tB cy (ad 152) v1 n1 z1 k1 f1) ++ ((tB cy (ad 153) v2 n2 z2 k2 f2) ++ [(zOut cy ao fo), (zOuD cy aod fd)]))) Y')) (As := [.int (xs (6 * j + 1)), .int (xs (6 * j + 2))]) (rest := []) (res := b9) C (c_X6_set l D cy adM (z_rend cy ad X' 0 shC ++ ((tB cy (ad 152) v1 n1 z1 k1 f1) ++ ((tB cy (ad 153) v2 n2 z2 k2 f2) ++ [(zOut cy ao fo), (zOuD cy aod fd)]))) Y (xs (6 * j + 1)) (xs (6 * j + 2)) e2) zml_RL_172 zcv_X6_set (zW_get Y sM_0) rfl rfl rfl ⟨Nat.le_of_ble_eq_true rfl, Nat.le_of_ble_eq_true rfl⟩ rfl rfl (Nat.le_of_ble_eq_true rfl) ⟨by show cells + 1 ≤ 603072; omega, by show slots + 6 ≤ 7194730; omega⟩ dL_law_612 ?_
    refine g_istore (L' := [(7, .int b9), (6, .int (nI (i + 1))), (5, .int (nI (6 * j))), (4, .ref aod), (3, .ref ao), (2, .ref (adM 0)), (1, .ref (ad 0)), (0, .ref b)]) C dL_law_615 (by decide) rfl ?_
    refine g_aload_n (j := 5) C dL_law_617 rfl rfl ?_
    refine g_vi (ws' := (zW cy adM shM (z_rend cy ad X' 0 shC ++ ((tB cy (ad 152) v1 n1 z1 k1 f1) ++ ((tB cy (ad 153) v2 n2 z2 k2 f2) ++ [(zOut cy ao fo), (zOuD cy aod fd)]))) Y')) (As := []) (rest := []) (res := Y' 0 0) C (c_X6_thrown l D cy adM (z_rend cy ad X' 0 shC ++ ((tB cy (ad 152) v1 n1 z1 k1 f1) ++ ((tB cy (ad 153) v2 n2 z2 k2 f2) ++ [(zOut cy ao fo), (zOuD cy aod fd)]))) Y') zml_RL_155 zcv_X6_thrown (zW_get Y' sM_0) rfl rfl rfl ⟨Nat.le_of_ble_eq_true rfl, Nat.le_of_ble_eq_true rfl⟩ rfl rfl (Nat.le_of_ble_eq_true rfl) ⟨by show cells + 1 ≤ 603072; omega, by show slots + 6 ≤ 7194730; omega⟩ dL_law_618 ?_
    refine zG.less (ws' := (zW cy ad shC (zLT cy adM (tB cy (ad 152) v1 n1 z1 k1 f1) (tB cy (ad 153) v2 n2 z2 k2 f2) (zOut cy ao fo) (zOuD cy aod fd) Y') X')) (l' := (zW cy adM shM (z_rend cy ad X' 0 shC ++ ((tB cy (ad 152) v1 n1 z1 k1 f1) ++ ((tB cy (ad 153) v2 n2 z2 k2 f2) ++ [(zOut cy ao fo), (zOuD cy aod fd)]))) Y')) (zpM _ _ _ _ _ _).symm (List.Sublist.refl _) ?_
    refine g_iload (j := 1) C dL_law_621 rfl ?_
    refine g_icmp_eq C dL_law_623 (tgt := 628) (by decide) (fun _ => ?_) (fun h9 => absurd (e3.trans (congrArg nI (kx_31 i _ hi))) h9)
    refine g_iload (j := 1) C dL_law_628 rfl ?_
    refine g_if_ne C dL_law_630 (tgt := 645) (by decide) (fun _ => ?_) (fun h9 => absurd h9 (nIs_ne0 (getE_lt hi (by decide))))
    refine g_goto C dL_law_645 (tgt := 2819) (by decide) ?_
    refine zG.wide (k := cells + 200) (n := slots + 3200) (by omega) (by omega) ?_
    refine zG_sub (L' := [(5, .int (nI (6 * j))), (4, .ref aod), (3, .ref ao), (2, .ref (adM 0)), (1, .ref (ad 0)), (0, .ref b)]) [2, 3, 4, 5, 6, 7] rfl ?_
    exact kk _ ⟨v1, n1, k1, z1, f1, t1, v2, n2, k2, z2, f2, t2, fo, fd, X', Y', a', rfl, hP.step e5 e6⟩
theorem zml_RL_175 : Cond.methodLink RL 175 yX6_setLimit ∈ zAll := zg (z_t7 (List.mem_of_getElem? (i := 99) (by decide +kernel))) (by decide +kernel)
set_option maxRecDepth 100000 in
set_option maxHeartbeats 8000000 in
theorem law_setLimit (C : zC p s m args meth c code 9 RL D (zTy cy) A) (hE : zEl A s s.heap) (hlt : l.stackTraces = false) (hX : va_X b N xs s s.heap) (hbl : b < s.heap.size) (hbA : ¬ A b) (j : Nat) (hj : 6 * j + 6 ≤ N) (hN : N ≤ 3072) (w : va_W) (hJ : zLJ cy ad adM ao aod w) (hc : cells + 200 ≤ 603072) (hs : slots + 3200 ≤ 7194730) (kk : ∀ w', zLJ cy ad adM ao aod w' → zG p l e room_1 s m args below meth c 9 D A (cells + 200) (slots + 3200) Q w' 2819 [(5, .int (nI (6 * j))), (4, .ref aod), (3, .ref ao), (2, .ref (adM 0)), (1, .ref (ad 0)), (0, .ref b)] []) : zG p l e room_1 s m args below meth c 9 D A cells slots Q w 648 [(5, .int (nI (6 * j))), (4, .ref aod), (3, .ref ao), (2, .ref (adM 0)), (1, .ref (ad 0)), (0, .ref b)] [] := by
  obtain ⟨v1, n1, k1, z1, f1, t1, v2, n2, k2, z2, f2, t2, fo, fd, X, Y, a, rfl, hP⟩ := hJ
  obtain ⟨c9, v9, b9, X', Y', a', e1, e2, e3, e4, e5, e6⟩ := sim_setLimit hP.1 (xs (6 * j + 1)) (xs (6 * j + 2))
  have hcd : inC [3, 1] c9 := (oc_setLimit X (xs (6 * j + 1)) (xs (6 * j + 2))).o _ e1
  have hM := (c_X5_setLimit l hlt D cy ad (zLT cy adM (tB cy (ad 152) v1 n1 z1 k1 f1) (tB cy (ad 153) v2 n2 z2 k2 f2) (zOut cy ao fo) (zOuD cy aod fd) Y) X (xs (6 * j + 1)) (xs (6 * j + 2))).toY
  rw [Option.some.inj e1] at hM
  have hw := hw_setLimit l D cy zTh_ge zEw_th _ (ad 0) _ (xs (6 * j + 1)) (xs (6 * j + 2)) ao 156 fo 1 6 _ _ _ hM rfl rfl ⟨by decide, by decide⟩ (zW_get X sC_0) (fun v w hh => by obtain ⟨_, _, rfl⟩ := hh; exact zLW_o) (fun c w hh h0 => by obtain ⟨rfl, _⟩ := hh; simpa using hcd.ne h0)
  refine g_aload_n (j := 4) C dL_law_648 rfl rfl ?_
  refine g_aload_n (j := 5) C dL_law_649 rfl rfl ?_
  refine g_iload (j := 0) C dL_law_650 rfl ?_
  refine g_iconst (v := (nI 1)) C dL_law_652 (by decide) ?_
  refine g_iadd C dL_law_653 ?_
  refine p_num (y := (nI (6 * j + 1))) (nI_add _ _) ?_
  refine n_sld C hX hbl hbA (nI_in (by omega) (by omega)) dL_law_654 ?_
  refine p_num (y := (xs (6 * j + 1))) (by rw [nI_clamp (by omega)]) ?_
  refine g_aload_n (j := 5) C dL_law_655 rfl rfl ?_
  refine g_iload (j := 0) C dL_law_656 rfl ?_
  refine g_iconst (v := (nI 2)) C dL_law_658 (by decide) ?_
  refine g_iadd C dL_law_659 ?_
  refine p_num (y := (nI (6 * j + 2))) (nI_add _ _) ?_
  refine n_sld C hX hbl hbA (nI_in (by omega) (by omega)) dL_law_660 ?_
  refine p_num (y := (xs (6 * j + 2))) (by rw [nI_clamp (by omega)]) ?_
  refine g_aload_n (j := 2) C dL_law_661 rfl rfl ?_
  refine t_SWi (As := [.ref (ad 0), .int (xs (6 * j + 1)), .int (xs (6 * j + 2)), .ref ao]) (rest := []) zEw_ge hE.1 C hw zcw_setLimit rfl rfl ⟨Nat.le_of_ble_eq_true rfl, Nat.le_of_ble_eq_true rfl⟩ rfl rfl (Nat.le_of_ble_eq_true rfl) ⟨by show cells + 1 ≤ 603072; omega, by show slots + 6 ≤ 7194730; omega⟩ dL_law_662 ?_
  intro r w hr9
  rcases hr9 with ⟨rfl, v', w1, ⟨h0, hv9, rfl⟩, rfl⟩ | ⟨i, c', hi, ⟨rfl, rfl⟩, hne, rfl⟩
  · skip
    have hv9 : v9 = v' := hv9.symm
    subst hv9
    rw [show List.set _ 156 _ = (zW cy ad shC (zLT cy adM (tB cy (ad 152) v1 n1 z1 k1 f1) (tB cy (ad 153) v2 n2 z2 k2 f2) (zOut cy ao (vp_updL fo 0 v9.toInt64)) (zOuD cy aod fd) Y) X') from zLW_so]
    have h0 : c9 = 0 := h0
    refine g_istore (L' := [(6, .int (nI 0)), (5, .int (nI (6 * j))), (4, .ref aod), (3, .ref ao), (2, .ref (adM 0)), (1, .ref (ad 0)), (0, .ref b)]) C dL_law_665 (by decide) rfl ?_
    refine g_aload_n (j := 4) C dL_law_667 rfl rfl ?_
    refine g_aload_n (j := 6) C dL_law_668 rfl rfl ?_
    refine g_iload (j := 1) C dL_law_669 rfl ?_
    refine g_iconst (v := (nI 1)) C dL_law_671 (by decide) ?_
    refine g_iadd C dL_law_672 ?_
    refine p_num (y := (nI (6 * j + 1))) (nI_add _ _) ?_
    refine n_sld C hX hbl hbA (nI_in (by omega) (by omega)) dL_law_673 ?_
    refine p_num (y := (xs (6 * j + 1))) (by rw [nI_clamp (by omega)]) ?_
    refine g_aload_n (j := 6) C dL_law_674 rfl rfl ?_
    refine g_iload (j := 1) C dL_law_675 rfl ?_
    refine g_iconst (v := (nI 2)) C dL_law_677 (by decide) ?_
    refine g_iadd C dL_law_678 ?_
    refine p_num (y := (nI (6 * j + 2))) (nI_add _ _) ?_
    refine n_sld C hX hbl hbA (nI_in (by omega) (by omega)) dL_law_679 ?_
    refine p_num (y := (xs (6 * j + 2))) (by rw [nI_clamp (by omega)]) ?_
    refine zG.less (ws' := (zW cy adM shM (z_rend cy ad X' 0 shC ++ ((tB cy (ad 152) v1 n1 z1 k1 f1) ++ ((tB cy (ad 153) v2 n2 z2 k2 f2) ++ [(zOut cy ao (vp_updL fo 0 v9.toInt64)), (zOuD cy aod fd)]))) Y)) (l' := (zW cy ad shC (zLT cy adM (tB cy (ad 152) v1 n1 z1 k1 f1) (tB cy (ad 153) v2 n2 z2 k2 f2) (zOut cy ao (vp_updL fo 0 v9.toInt64)) (zOuD cy aod fd) Y) X')) (zpM _ _ _ _ _ _) (List.Sublist.refl _) ?_
    refine g_vi (ws' := (zW cy adM shM (z_rend cy ad X' 0 shC ++ ((tB cy (ad 152) v1 n1 z1 k1 f1) ++ ((tB cy (ad 153) v2 n2 z2 k2 f2) ++ [(zOut cy ao (vp_updL fo 0 v9.toInt64)), (zOuD cy aod fd)]))) Y')) (As := [.int (xs (6 * j + 1)), .int (xs (6 * j + 2))]) (rest := []) (res := b9) C (c_X6_setLimit l D cy adM (z_rend cy ad X' 0 shC ++ ((tB cy (ad 152) v1 n1 z1 k1 f1) ++ ((tB cy (ad 153) v2 n2 z2 k2 f2) ++ [(zOut cy ao (vp_updL fo 0 v9.toInt64)), (zOuD cy aod fd)]))) Y (xs (6 * j + 1)) (xs (6 * j + 2)) e2) zml_RL_175 zcv_X6_setLimit (zW_get Y sM_0) rfl rfl rfl ⟨Nat.le_of_ble_eq_true rfl, Nat.le_of_ble_eq_true rfl⟩ rfl rfl (Nat.le_of_ble_eq_true rfl) ⟨by show cells + 1 ≤ 603072; omega, by show slots + 6 ≤ 7194730; omega⟩ dL_law_680 ?_
    refine g_istore (L' := [(7, .int b9), (6, .int (nI 0)), (5, .int (nI (6 * j))), (4, .ref aod), (3, .ref ao), (2, .ref (adM 0)), (1, .ref (ad 0)), (0, .ref b)]) C dL_law_683 (by decide) rfl ?_
    refine g_aload_n (j := 5) C dL_law_685 rfl rfl ?_
    refine g_vi (ws' := (zW cy adM shM (z_rend cy ad X' 0 shC ++ ((tB cy (ad 152) v1 n1 z1 k1 f1) ++ ((tB cy (ad 153) v2 n2 z2 k2 f2) ++ [(zOut cy ao (vp_updL fo 0 v9.toInt64)), (zOuD cy aod fd)]))) Y')) (As := []) (rest := []) (res := Y' 0 0) C (c_X6_thrown l D cy adM (z_rend cy ad X' 0 shC ++ ((tB cy (ad 152) v1 n1 z1 k1 f1) ++ ((tB cy (ad 153) v2 n2 z2 k2 f2) ++ [(zOut cy ao (vp_updL fo 0 v9.toInt64)), (zOuD cy aod fd)]))) Y') zml_RL_155 zcv_X6_thrown (zW_get Y' sM_0) rfl rfl rfl ⟨Nat.le_of_ble_eq_true rfl, Nat.le_of_ble_eq_true rfl⟩ rfl rfl (Nat.le_of_ble_eq_true rfl) ⟨by show cells + 1 ≤ 603072; omega, by show slots + 6 ≤ 7194730; omega⟩ dL_law_686 ?_
    refine zG.less (ws' := (zW cy ad shC (zLT cy adM (tB cy (ad 152) v1 n1 z1 k1 f1) (tB cy (ad 153) v2 n2 z2 k2 f2) (zOut cy ao (vp_updL fo 0 v9.toInt64)) (zOuD cy aod fd) Y') X')) (l' := (zW cy adM shM (z_rend cy ad X' 0 shC ++ ((tB cy (ad 152) v1 n1 z1 k1 f1) ++ ((tB cy (ad 153) v2 n2 z2 k2 f2) ++ [(zOut cy ao (vp_updL fo 0 v9.toInt64)), (zOuD cy aod fd)]))) Y')) (zpM _ _ _ _ _ _).symm (List.Sublist.refl _) ?_
    refine g_iload (j := 1) C dL_law_689 rfl ?_
    refine g_icmp_eq C dL_law_691 (tgt := 696) (by decide) (fun _ => ?_) (fun h9 => absurd (e3.trans (by rw [h0]; rfl)) h9)
    refine g_iload (j := 1) C dL_law_696 rfl ?_
    refine g_if_ne C dL_law_698 (tgt := 713) (by decide) (fun h9 => absurd nI_0 h9) (fun _ => ?_)
    refine g_aload_n (j := 4) C dL_law_701 rfl rfl ?_
    refine g_iconst (v := (nI 0)) C dL_law_702 (by decide) ?_
    refine n_lald (q0 := 156) (n := 1) C zLW_o (nI_in (by decide) (by decide)) dL_law_703 ?_
    refine g_iload (j := 0) C dL_law_704 rfl ?_
    refine n_i2l C dL_law_706 ?_
    refine n_lcmp C dL_law_707 ?_
    refine g_if_eq C dL_law_708 (tgt := 713) (by decide) (fun _ => ?_) (fun h9 => absurd (lg_cmp_rf ((updL_0 _ _).trans (congrArg Int32.toInt64 (e4 h0)))) h9)
    refine g_goto C dL_law_713 (tgt := 2819) (by decide) ?_
    refine zG.wide (k := cells + 200) (n := slots + 3200) (by omega) (by omega) ?_
    refine zG_sub (L' := [(5, .int (nI (6 * j))), (4, .ref aod), (3, .ref ao), (2, .ref (adM 0)), (1, .ref (ad 0)), (0, .ref b)]) [2, 3, 4, 5, 6, 7] rfl ?_
    exact kk _ ⟨v1, n1, k1, z1, f1, t1, v2, n2, k2, z2, f2, t2, _, fd, X', Y', a', rfl, hP.step e5 e6⟩
  · skip
    refine g_istore (L' := [(6, .int (nI (i + 1))), (5, .int (nI (6 * j))), (4, .ref aod), (3, .ref ao), (2, .ref (adM 0)), (1, .ref (ad 0)), (0, .ref b)]) C dL_law_665 (by decide) rfl ?_
    refine g_aload_n (j := 4) C dL_law_667 rfl rfl ?_
    refine g_aload_n (j := 6) C dL_law_668 rfl rfl ?_
    refine g_iload (j := 1) C dL_law_669 rfl ?_
    refine g_iconst (v := (nI 1)) C dL_law_671 (by decide) ?_
    refine g_iadd C dL_law_672 ?_
    refine p_num (y := (nI (6 * j + 1))) (nI_add _ _) ?_
    refine n_sld C hX hbl hbA (nI_in (by omega) (by omega)) dL_law_673 ?_
    refine p_num (y := (xs (6 * j + 1))) (by rw [nI_clamp (by omega)]) ?_
    refine g_aload_n (j := 6) C dL_law_674 rfl rfl ?_
    refine g_iload (j := 1) C dL_law_675 rfl ?_
    refine g_iconst (v := (nI 2)) C dL_law_677 (by decide) ?_
    refine g_iadd C dL_law_678 ?_
    refine p_num (y := (nI (6 * j + 2))) (nI_add _ _) ?_
    refine n_sld C hX hbl hbA (nI_in (by omega) (by omega)) dL_law_679 ?_
    refine p_num (y := (xs (6 * j + 2))) (by rw [nI_clamp (by omega)]) ?_
    refine zG.less (ws' := (zW cy adM shM (z_rend cy ad X' 0 shC ++ ((tB cy (ad 152) v1 n1 z1 k1 f1) ++ ((tB cy (ad 153) v2 n2 z2 k2 f2) ++ [(zOut cy ao fo), (zOuD cy aod fd)]))) Y)) (l' := (zW cy ad shC (zLT cy adM (tB cy (ad 152) v1 n1 z1 k1 f1) (tB cy (ad 153) v2 n2 z2 k2 f2) (zOut cy ao fo) (zOuD cy aod fd) Y) X')) (zpM _ _ _ _ _ _) (List.Sublist.refl _) ?_
    refine g_vi (ws' := (zW cy adM shM (z_rend cy ad X' 0 shC ++ ((tB cy (ad 152) v1 n1 z1 k1 f1) ++ ((tB cy (ad 153) v2 n2 z2 k2 f2) ++ [(zOut cy ao fo), (zOuD cy aod fd)]))) Y')) (As := [.int (xs (6 * j + 1)), .int (xs (6 * j + 2))]) (rest := []) (res := b9) C (c_X6_setLimit l D cy adM (z_rend cy ad X' 0 shC ++ ((tB cy (ad 152) v1 n1 z1 k1 f1) ++ ((tB cy (ad 153) v2 n2 z2 k2 f2) ++ [(zOut cy ao fo), (zOuD cy aod fd)]))) Y (xs (6 * j + 1)) (xs (6 * j + 2)) e2) zml_RL_175 zcv_X6_setLimit (zW_get Y sM_0) rfl rfl rfl ⟨Nat.le_of_ble_eq_true rfl, Nat.le_of_ble_eq_true rfl⟩ rfl rfl (Nat.le_of_ble_eq_true rfl) ⟨by show cells + 1 ≤ 603072; omega, by show slots + 6 ≤ 7194730; omega⟩ dL_law_680 ?_
    refine g_istore (L' := [(7, .int b9), (6, .int (nI (i + 1))), (5, .int (nI (6 * j))), (4, .ref aod), (3, .ref ao), (2, .ref (adM 0)), (1, .ref (ad 0)), (0, .ref b)]) C dL_law_683 (by decide) rfl ?_
    refine g_aload_n (j := 5) C dL_law_685 rfl rfl ?_
    refine g_vi (ws' := (zW cy adM shM (z_rend cy ad X' 0 shC ++ ((tB cy (ad 152) v1 n1 z1 k1 f1) ++ ((tB cy (ad 153) v2 n2 z2 k2 f2) ++ [(zOut cy ao fo), (zOuD cy aod fd)]))) Y')) (As := []) (rest := []) (res := Y' 0 0) C (c_X6_thrown l D cy adM (z_rend cy ad X' 0 shC ++ ((tB cy (ad 152) v1 n1 z1 k1 f1) ++ ((tB cy (ad 153) v2 n2 z2 k2 f2) ++ [(zOut cy ao fo), (zOuD cy aod fd)]))) Y') zml_RL_155 zcv_X6_thrown (zW_get Y' sM_0) rfl rfl rfl ⟨Nat.le_of_ble_eq_true rfl, Nat.le_of_ble_eq_true rfl⟩ rfl rfl (Nat.le_of_ble_eq_true rfl) ⟨by show cells + 1 ≤ 603072; omega, by show slots + 6 ≤ 7194730; omega⟩ dL_law_686 ?_
    refine zG.less (ws' := (zW cy ad shC (zLT cy adM (tB cy (ad 152) v1 n1 z1 k1 f1) (tB cy (ad 153) v2 n2 z2 k2 f2) (zOut cy ao fo) (zOuD cy aod fd) Y') X')) (l' := (zW cy adM shM (z_rend cy ad X' 0 shC ++ ((tB cy (ad 152) v1 n1 z1 k1 f1) ++ ((tB cy (ad 153) v2 n2 z2 k2 f2) ++ [(zOut cy ao fo), (zOuD cy aod fd)]))) Y')) (zpM _ _ _ _ _ _).symm (List.Sublist.refl _) ?_
    refine g_iload (j := 1) C dL_law_689 rfl ?_
    refine g_icmp_eq C dL_law_691 (tgt := 696) (by decide) (fun _ => ?_) (fun h9 => absurd (e3.trans (congrArg nI (kx_31 i _ hi))) h9)
    refine g_iload (j := 1) C dL_law_696 rfl ?_
    refine g_if_ne C dL_law_698 (tgt := 713) (by decide) (fun _ => ?_) (fun h9 => absurd h9 (nIs_ne0 (getE_lt hi (by decide))))
    refine g_goto C dL_law_713 (tgt := 2819) (by decide) ?_
    refine zG.wide (k := cells + 200) (n := slots + 3200) (by omega) (by omega) ?_
    refine zG_sub (L' := [(5, .int (nI (6 * j))), (4, .ref aod), (3, .ref ao), (2, .ref (adM 0)), (1, .ref (ad 0)), (0, .ref b)]) [2, 3, 4, 5, 6, 7] rfl ?_
    exact kk _ ⟨v1, n1, k1, z1, f1, t1, v2, n2, k2, z2, f2, t2, fo, fd, X', Y', a', rfl, hP.step e5 e6⟩
theorem zml_RL_179 : Cond.methodLink RL 179 yX6_setting ∈ zAll := zg (z_t7 (List.mem_of_getElem? (i := 103) (by decide +kernel))) (by decide +kernel)
set_option maxRecDepth 100000 in
set_option maxHeartbeats 8000000 in
theorem law_setting (C : zC p s m args meth c code 9 RL D (zTy cy) A) (hE : zEl A s s.heap) (hlt : l.stackTraces = false) (hX : va_X b N xs s s.heap) (hbl : b < s.heap.size) (hbA : ¬ A b) (j : Nat) (hj : 6 * j + 6 ≤ N) (hN : N ≤ 3072) (w : va_W) (hJ : zLJ cy ad adM ao aod w) (hc : cells + 200 ≤ 603072) (hs : slots + 3200 ≤ 7194730) (kk : ∀ w', zLJ cy ad adM ao aod w' → zG p l e room_1 s m args below meth c 9 D A (cells + 200) (slots + 3200) Q w' 2819 [(5, .int (nI (6 * j))), (4, .ref aod), (3, .ref ao), (2, .ref (adM 0)), (1, .ref (ad 0)), (0, .ref b)] []) : zG p l e room_1 s m args below meth c 9 D A cells slots Q w 716 [(5, .int (nI (6 * j))), (4, .ref aod), (3, .ref ao), (2, .ref (adM 0)), (1, .ref (ad 0)), (0, .ref b)] [] := by
  obtain ⟨v1, n1, k1, z1, f1, t1, v2, n2, k2, z2, f2, t2, fo, fd, X, Y, a, rfl, hP⟩ := hJ
  obtain ⟨c9, v9, b9, X', Y', a', e1, e2, e3, e4, e5, e6⟩ := zSimR.up hP.1 (sim_setting hP.1.1 hP.1.2.1 (xs (6 * j + 1)))
  have hcd : inC [3] c9 := (oc_setting X (xs (6 * j + 1))).o _ e1
  have hM := (c_X5_setting l hlt D cy ad (zLT cy adM (tB cy (ad 152) v1 n1 z1 k1 f1) (tB cy (ad 153) v2 n2 z2 k2 f2) (zOut cy ao fo) (zOuD cy aod fd) Y) X (xs (6 * j + 1))).toY
  rw [Option.some.inj e1] at hM
  have hw := hw_setting l D cy zTh_ge zEw_th _ (ad 0) _ (xs (6 * j + 1)) ao 156 fo 1 6 _ _ _ hM rfl rfl ⟨by decide, by decide⟩ (zW_get X sC_0) (fun v w hh => by obtain ⟨_, _, rfl⟩ := hh; exact zLW_o) (fun c w hh h0 => by obtain ⟨rfl, _⟩ := hh; simpa using hcd.ne h0)
  refine g_aload_n (j := 4) C dL_law_716 rfl rfl ?_
  refine g_aload_n (j := 5) C dL_law_717 rfl rfl ?_
  refine g_iload (j := 0) C dL_law_718 rfl ?_
  refine g_iconst (v := (nI 1)) C dL_law_720 (by decide) ?_
  refine g_iadd C dL_law_721 ?_
  refine p_num (y := (nI (6 * j + 1))) (nI_add _ _) ?_
  refine n_sld C hX hbl hbA (nI_in (by omega) (by omega)) dL_law_722 ?_
  refine p_num (y := (xs (6 * j + 1))) (by rw [nI_clamp (by omega)]) ?_
  refine g_aload_n (j := 2) C dL_law_723 rfl rfl ?_
  refine t_SWi (As := [.ref (ad 0), .int (xs (6 * j + 1)), .ref ao]) (rest := []) zEw_ge hE.1 C hw zcw_setting rfl rfl ⟨Nat.le_of_ble_eq_true rfl, Nat.le_of_ble_eq_true rfl⟩ rfl rfl (Nat.le_of_ble_eq_true rfl) ⟨by show cells + 1 ≤ 603072; omega, by show slots + 6 ≤ 7194730; omega⟩ dL_law_724 ?_
  intro r w hr9
  rcases hr9 with ⟨rfl, v', w1, ⟨h0, hv9, rfl⟩, rfl⟩ | ⟨i, c', hi, ⟨rfl, rfl⟩, hne, rfl⟩
  · skip
    have hv9 : v9 = v' := hv9.symm
    subst hv9
    rw [show List.set _ 156 _ = (zW cy ad shC (zLT cy adM (tB cy (ad 152) v1 n1 z1 k1 f1) (tB cy (ad 153) v2 n2 z2 k2 f2) (zOut cy ao (vp_updL fo 0 v9.toInt64)) (zOuD cy aod fd) Y) X') from zLW_so]
    have h0 : c9 = 0 := h0
    refine g_istore (L' := [(6, .int (nI 0)), (5, .int (nI (6 * j))), (4, .ref aod), (3, .ref ao), (2, .ref (adM 0)), (1, .ref (ad 0)), (0, .ref b)]) C dL_law_727 (by decide) rfl ?_
    refine g_aload_n (j := 4) C dL_law_729 rfl rfl ?_
    refine g_aload_n (j := 6) C dL_law_730 rfl rfl ?_
    refine g_iload (j := 1) C dL_law_731 rfl ?_
    refine g_iconst (v := (nI 1)) C dL_law_733 (by decide) ?_
    refine g_iadd C dL_law_734 ?_
    refine p_num (y := (nI (6 * j + 1))) (nI_add _ _) ?_
    refine n_sld C hX hbl hbA (nI_in (by omega) (by omega)) dL_law_735 ?_
    refine p_num (y := (xs (6 * j + 1))) (by rw [nI_clamp (by omega)]) ?_
    refine zG.less (ws' := (zW cy adM shM (z_rend cy ad X' 0 shC ++ ((tB cy (ad 152) v1 n1 z1 k1 f1) ++ ((tB cy (ad 153) v2 n2 z2 k2 f2) ++ [(zOut cy ao (vp_updL fo 0 v9.toInt64)), (zOuD cy aod fd)]))) Y)) (l' := (zW cy ad shC (zLT cy adM (tB cy (ad 152) v1 n1 z1 k1 f1) (tB cy (ad 153) v2 n2 z2 k2 f2) (zOut cy ao (vp_updL fo 0 v9.toInt64)) (zOuD cy aod fd) Y) X')) (zpM _ _ _ _ _ _) (List.Sublist.refl _) ?_
    refine g_vi (ws' := (zW cy adM shM (z_rend cy ad X' 0 shC ++ ((tB cy (ad 152) v1 n1 z1 k1 f1) ++ ((tB cy (ad 153) v2 n2 z2 k2 f2) ++ [(zOut cy ao (vp_updL fo 0 v9.toInt64)), (zOuD cy aod fd)]))) Y')) (As := [.int (xs (6 * j + 1))]) (rest := []) (res := b9) C (c_X6_setting l D cy adM (z_rend cy ad X' 0 shC ++ ((tB cy (ad 152) v1 n1 z1 k1 f1) ++ ((tB cy (ad 153) v2 n2 z2 k2 f2) ++ [(zOut cy ao (vp_updL fo 0 v9.toInt64)), (zOuD cy aod fd)]))) Y (xs (6 * j + 1)) e2) zml_RL_179 zcv_X6_setting (zW_get Y sM_0) rfl rfl rfl ⟨Nat.le_of_ble_eq_true rfl, Nat.le_of_ble_eq_true rfl⟩ rfl rfl (Nat.le_of_ble_eq_true rfl) ⟨by show cells + 1 ≤ 603072; omega, by show slots + 6 ≤ 7194730; omega⟩ dL_law_736 ?_
    refine g_istore (L' := [(7, .int b9), (6, .int (nI 0)), (5, .int (nI (6 * j))), (4, .ref aod), (3, .ref ao), (2, .ref (adM 0)), (1, .ref (ad 0)), (0, .ref b)]) C dL_law_739 (by decide) rfl ?_
    refine g_aload_n (j := 5) C dL_law_741 rfl rfl ?_
    refine g_vi (ws' := (zW cy adM shM (z_rend cy ad X' 0 shC ++ ((tB cy (ad 152) v1 n1 z1 k1 f1) ++ ((tB cy (ad 153) v2 n2 z2 k2 f2) ++ [(zOut cy ao (vp_updL fo 0 v9.toInt64)), (zOuD cy aod fd)]))) Y')) (As := []) (rest := []) (res := Y' 0 0) C (c_X6_thrown l D cy adM (z_rend cy ad X' 0 shC ++ ((tB cy (ad 152) v1 n1 z1 k1 f1) ++ ((tB cy (ad 153) v2 n2 z2 k2 f2) ++ [(zOut cy ao (vp_updL fo 0 v9.toInt64)), (zOuD cy aod fd)]))) Y') zml_RL_155 zcv_X6_thrown (zW_get Y' sM_0) rfl rfl rfl ⟨Nat.le_of_ble_eq_true rfl, Nat.le_of_ble_eq_true rfl⟩ rfl rfl (Nat.le_of_ble_eq_true rfl) ⟨by show cells + 1 ≤ 603072; omega, by show slots + 6 ≤ 7194730; omega⟩ dL_law_742 ?_
    refine zG.less (ws' := (zW cy ad shC (zLT cy adM (tB cy (ad 152) v1 n1 z1 k1 f1) (tB cy (ad 153) v2 n2 z2 k2 f2) (zOut cy ao (vp_updL fo 0 v9.toInt64)) (zOuD cy aod fd) Y') X')) (l' := (zW cy adM shM (z_rend cy ad X' 0 shC ++ ((tB cy (ad 152) v1 n1 z1 k1 f1) ++ ((tB cy (ad 153) v2 n2 z2 k2 f2) ++ [(zOut cy ao (vp_updL fo 0 v9.toInt64)), (zOuD cy aod fd)]))) Y')) (zpM _ _ _ _ _ _).symm (List.Sublist.refl _) ?_
    refine g_iload (j := 1) C dL_law_745 rfl ?_
    refine g_icmp_eq C dL_law_747 (tgt := 752) (by decide) (fun _ => ?_) (fun h9 => absurd (e3.trans (by rw [h0]; rfl)) h9)
    refine g_iload (j := 1) C dL_law_752 rfl ?_
    refine g_if_ne C dL_law_754 (tgt := 769) (by decide) (fun h9 => absurd nI_0 h9) (fun _ => ?_)
    refine g_aload_n (j := 4) C dL_law_757 rfl rfl ?_
    refine g_iconst (v := (nI 0)) C dL_law_758 (by decide) ?_
    refine n_lald (q0 := 156) (n := 1) C zLW_o (nI_in (by decide) (by decide)) dL_law_759 ?_
    refine g_iload (j := 0) C dL_law_760 rfl ?_
    refine n_i2l C dL_law_762 ?_
    refine n_lcmp C dL_law_763 ?_
    refine g_if_eq C dL_law_764 (tgt := 769) (by decide) (fun _ => ?_) (fun h9 => absurd (lg_cmp_rf ((updL_0 _ _).trans (congrArg Int32.toInt64 (e4 h0)))) h9)
    refine g_goto C dL_law_769 (tgt := 2819) (by decide) ?_
    refine zG.wide (k := cells + 200) (n := slots + 3200) (by omega) (by omega) ?_
    refine zG_sub (L' := [(5, .int (nI (6 * j))), (4, .ref aod), (3, .ref ao), (2, .ref (adM 0)), (1, .ref (ad 0)), (0, .ref b)]) [2, 3, 4, 5, 6, 7] rfl ?_
    exact kk _ ⟨v1, n1, k1, z1, f1, t1, v2, n2, k2, z2, f2, t2, _, fd, X', Y', a', rfl, hP.step e5 e6⟩
  · skip
    refine g_istore (L' := [(6, .int (nI (i + 1))), (5, .int (nI (6 * j))), (4, .ref aod), (3, .ref ao), (2, .ref (adM 0)), (1, .ref (ad 0)), (0, .ref b)]) C dL_law_727 (by decide) rfl ?_
    refine g_aload_n (j := 4) C dL_law_729 rfl rfl ?_
    refine g_aload_n (j := 6) C dL_law_730 rfl rfl ?_
    refine g_iload (j := 1) C dL_law_731 rfl ?_
    refine g_iconst (v := (nI 1)) C dL_law_733 (by decide) ?_
    refine g_iadd C dL_law_734 ?_
    refine p_num (y := (nI (6 * j + 1))) (nI_add _ _) ?_
    refine n_sld C hX hbl hbA (nI_in (by omega) (by omega)) dL_law_735 ?_
    refine p_num (y := (xs (6 * j + 1))) (by rw [nI_clamp (by omega)]) ?_
    refine zG.less (ws' := (zW cy adM shM (z_rend cy ad X' 0 shC ++ ((tB cy (ad 152) v1 n1 z1 k1 f1) ++ ((tB cy (ad 153) v2 n2 z2 k2 f2) ++ [(zOut cy ao fo), (zOuD cy aod fd)]))) Y)) (l' := (zW cy ad shC (zLT cy adM (tB cy (ad 152) v1 n1 z1 k1 f1) (tB cy (ad 153) v2 n2 z2 k2 f2) (zOut cy ao fo) (zOuD cy aod fd) Y) X')) (zpM _ _ _ _ _ _) (List.Sublist.refl _) ?_
    refine g_vi (ws' := (zW cy adM shM (z_rend cy ad X' 0 shC ++ ((tB cy (ad 152) v1 n1 z1 k1 f1) ++ ((tB cy (ad 153) v2 n2 z2 k2 f2) ++ [(zOut cy ao fo), (zOuD cy aod fd)]))) Y')) (As := [.int (xs (6 * j + 1))]) (rest := []) (res := b9) C (c_X6_setting l D cy adM (z_rend cy ad X' 0 shC ++ ((tB cy (ad 152) v1 n1 z1 k1 f1) ++ ((tB cy (ad 153) v2 n2 z2 k2 f2) ++ [(zOut cy ao fo), (zOuD cy aod fd)]))) Y (xs (6 * j + 1)) e2) zml_RL_179 zcv_X6_setting (zW_get Y sM_0) rfl rfl rfl ⟨Nat.le_of_ble_eq_true rfl, Nat.le_of_ble_eq_true rfl⟩ rfl rfl (Nat.le_of_ble_eq_true rfl) ⟨by show cells + 1 ≤ 603072; omega, by show slots + 6 ≤ 7194730; omega⟩ dL_law_736 ?_
    refine g_istore (L' := [(7, .int b9), (6, .int (nI (i + 1))), (5, .int (nI (6 * j))), (4, .ref aod), (3, .ref ao), (2, .ref (adM 0)), (1, .ref (ad 0)), (0, .ref b)]) C dL_law_739 (by decide) rfl ?_
    refine g_aload_n (j := 5) C dL_law_741 rfl rfl ?_
    refine g_vi (ws' := (zW cy adM shM (z_rend cy ad X' 0 shC ++ ((tB cy (ad 152) v1 n1 z1 k1 f1) ++ ((tB cy (ad 153) v2 n2 z2 k2 f2) ++ [(zOut cy ao fo), (zOuD cy aod fd)]))) Y')) (As := []) (rest := []) (res := Y' 0 0) C (c_X6_thrown l D cy adM (z_rend cy ad X' 0 shC ++ ((tB cy (ad 152) v1 n1 z1 k1 f1) ++ ((tB cy (ad 153) v2 n2 z2 k2 f2) ++ [(zOut cy ao fo), (zOuD cy aod fd)]))) Y') zml_RL_155 zcv_X6_thrown (zW_get Y' sM_0) rfl rfl rfl ⟨Nat.le_of_ble_eq_true rfl, Nat.le_of_ble_eq_true rfl⟩ rfl rfl (Nat.le_of_ble_eq_true rfl) ⟨by show cells + 1 ≤ 603072; omega, by show slots + 6 ≤ 7194730; omega⟩ dL_law_742 ?_
    refine zG.less (ws' := (zW cy ad shC (zLT cy adM (tB cy (ad 152) v1 n1 z1 k1 f1) (tB cy (ad 153) v2 n2 z2 k2 f2) (zOut cy ao fo) (zOuD cy aod fd) Y') X')) (l' := (zW cy adM shM (z_rend cy ad X' 0 shC ++ ((tB cy (ad 152) v1 n1 z1 k1 f1) ++ ((tB cy (ad 153) v2 n2 z2 k2 f2) ++ [(zOut cy ao fo), (zOuD cy aod fd)]))) Y')) (zpM _ _ _ _ _ _).symm (List.Sublist.refl _) ?_
    refine g_iload (j := 1) C dL_law_745 rfl ?_
    refine g_icmp_eq C dL_law_747 (tgt := 752) (by decide) (fun _ => ?_) (fun h9 => absurd (e3.trans (congrArg nI (kx_3 i _ hi))) h9)
    refine g_iload (j := 1) C dL_law_752 rfl ?_
    refine g_if_ne C dL_law_754 (tgt := 769) (by decide) (fun _ => ?_) (fun h9 => absurd h9 (nIs_ne0 (getE_lt hi (by decide))))
    refine g_goto C dL_law_769 (tgt := 2819) (by decide) ?_
    refine zG.wide (k := cells + 200) (n := slots + 3200) (by omega) (by omega) ?_
    refine zG_sub (L' := [(5, .int (nI (6 * j))), (4, .ref aod), (3, .ref ao), (2, .ref (adM 0)), (1, .ref (ad 0)), (0, .ref b)]) [2, 3, 4, 5, 6, 7] rfl ?_
    exact kk _ ⟨v1, n1, k1, z1, f1, t1, v2, n2, k2, z2, f2, t2, fo, fd, X', Y', a', rfl, hP.step e5 e6⟩
theorem zml_RL_182 : Cond.methodLink RL 182 yX6_hall ∈ zAll := zg (z_t7 (List.mem_of_getElem? (i := 107) (by decide +kernel))) (by decide +kernel)
set_option maxRecDepth 100000 in
set_option maxHeartbeats 8000000 in
theorem law_hall (C : zC p s m args meth c code 9 RL D (zTy cy) A) (hE : zEl A s s.heap) (hlt : l.stackTraces = false) (hX : va_X b N xs s s.heap) (hbl : b < s.heap.size) (hbA : ¬ A b) (j : Nat) (hj : 6 * j + 6 ≤ N) (hN : N ≤ 3072) (w : va_W) (hJ : zLJ cy ad adM ao aod w) (hc : cells + 200 ≤ 603072) (hs : slots + 3200 ≤ 7194730) (kk : ∀ w', zLJ cy ad adM ao aod w' → zG p l e room_1 s m args below meth c 9 D A (cells + 200) (slots + 3200) Q w' 2819 [(5, .int (nI (6 * j))), (4, .ref aod), (3, .ref ao), (2, .ref (adM 0)), (1, .ref (ad 0)), (0, .ref b)] []) : zG p l e room_1 s m args below meth c 9 D A cells slots Q w 772 [(5, .int (nI (6 * j))), (4, .ref aod), (3, .ref ao), (2, .ref (adM 0)), (1, .ref (ad 0)), (0, .ref b)] [] := by
  obtain ⟨v1, n1, k1, z1, f1, t1, v2, n2, k2, z2, f2, t2, fo, fd, X, Y, a, rfl, hP⟩ := hJ
  obtain ⟨c9, v9, b9, X', Y', a', e1, e2, e3, e4, e5, e6⟩ := zSimR.up hP.1 (sim_hall hP.1.1 hP.1.2.1 hP.1.2.2.1.1 (xs (6 * j + 1)) (xs (6 * j + 2)))
  have hcd : inC [3, 1] c9 := oc_hall X (xs (6 * j + 1)) (xs (6 * j + 2)) _ e1
  have hM := (c_X5_hall l hlt D cy ad (zLT cy adM (tB cy (ad 152) v1 n1 z1 k1 f1) (tB cy (ad 153) v2 n2 z2 k2 f2) (zOut cy ao fo) (zOuD cy aod fd) Y) X (xs (6 * j + 1)) (xs (6 * j + 2)) e1).toY
  have hw := hw_hall l D cy zTh_ge zEw_th _ (ad 0) _ (xs (6 * j + 1)) (xs (6 * j + 2)) ao 156 fo 1 6 _ _ _ hM rfl rfl ⟨by decide, by decide⟩ (zW_get X sC_0) (fun v w hh => by obtain ⟨_, _, rfl⟩ := hh; exact zLW_o) (fun c w hh h0 => by obtain ⟨rfl, _⟩ := hh; simpa using hcd.ne h0)
  refine g_aload_n (j := 4) C dL_law_772 rfl rfl ?_
  refine g_aload_n (j := 5) C dL_law_773 rfl rfl ?_
  refine g_iload (j := 0) C dL_law_774 rfl ?_
  refine g_iconst (v := (nI 1)) C dL_law_776 (by decide) ?_
  refine g_iadd C dL_law_777 ?_
  refine p_num (y := (nI (6 * j + 1))) (nI_add _ _) ?_
  refine n_sld C hX hbl hbA (nI_in (by omega) (by omega)) dL_law_778 ?_
  refine p_num (y := (xs (6 * j + 1))) (by rw [nI_clamp (by omega)]) ?_
  refine g_aload_n (j := 5) C dL_law_779 rfl rfl ?_
  refine g_iload (j := 0) C dL_law_780 rfl ?_
  refine g_iconst (v := (nI 2)) C dL_law_782 (by decide) ?_
  refine g_iadd C dL_law_783 ?_
  refine p_num (y := (nI (6 * j + 2))) (nI_add _ _) ?_
  refine n_sld C hX hbl hbA (nI_in (by omega) (by omega)) dL_law_784 ?_
  refine p_num (y := (xs (6 * j + 2))) (by rw [nI_clamp (by omega)]) ?_
  refine g_aload_n (j := 2) C dL_law_785 rfl rfl ?_
  refine t_SWi (As := [.ref (ad 0), .int (xs (6 * j + 1)), .int (xs (6 * j + 2)), .ref ao]) (rest := []) zEw_ge hE.1 C hw zcw_hall rfl rfl ⟨Nat.le_of_ble_eq_true rfl, Nat.le_of_ble_eq_true rfl⟩ rfl rfl (Nat.le_of_ble_eq_true rfl) ⟨by show cells + 1 ≤ 603072; omega, by show slots + 6 ≤ 7194730; omega⟩ dL_law_786 ?_
  intro r w hr9
  rcases hr9 with ⟨rfl, v', w1, ⟨h0, hv9, rfl⟩, rfl⟩ | ⟨i, c', hi, ⟨rfl, rfl⟩, hne, rfl⟩
  · skip
    have hv9 : v9 = v' := hv9.symm
    subst hv9
    rw [show List.set _ 156 _ = (zW cy ad shC (zLT cy adM (tB cy (ad 152) v1 n1 z1 k1 f1) (tB cy (ad 153) v2 n2 z2 k2 f2) (zOut cy ao (vp_updL fo 0 v9.toInt64)) (zOuD cy aod fd) Y) X') from zLW_so]
    have h0 : c9 = 0 := h0
    refine g_istore (L' := [(6, .int (nI 0)), (5, .int (nI (6 * j))), (4, .ref aod), (3, .ref ao), (2, .ref (adM 0)), (1, .ref (ad 0)), (0, .ref b)]) C dL_law_789 (by decide) rfl ?_
    refine g_aload_n (j := 4) C dL_law_791 rfl rfl ?_
    refine g_aload_n (j := 6) C dL_law_792 rfl rfl ?_
    refine g_iload (j := 1) C dL_law_793 rfl ?_
    refine g_iconst (v := (nI 1)) C dL_law_795 (by decide) ?_
    refine g_iadd C dL_law_796 ?_
    refine p_num (y := (nI (6 * j + 1))) (nI_add _ _) ?_
    refine n_sld C hX hbl hbA (nI_in (by omega) (by omega)) dL_law_797 ?_
    refine p_num (y := (xs (6 * j + 1))) (by rw [nI_clamp (by omega)]) ?_
    refine g_aload_n (j := 6) C dL_law_798 rfl rfl ?_
    refine g_iload (j := 1) C dL_law_799 rfl ?_
    refine g_iconst (v := (nI 2)) C dL_law_801 (by decide) ?_
    refine g_iadd C dL_law_802 ?_
    refine p_num (y := (nI (6 * j + 2))) (nI_add _ _) ?_
    refine n_sld C hX hbl hbA (nI_in (by omega) (by omega)) dL_law_803 ?_
    refine p_num (y := (xs (6 * j + 2))) (by rw [nI_clamp (by omega)]) ?_
    refine zG.less (ws' := (zW cy adM shM (z_rend cy ad X' 0 shC ++ ((tB cy (ad 152) v1 n1 z1 k1 f1) ++ ((tB cy (ad 153) v2 n2 z2 k2 f2) ++ [(zOut cy ao (vp_updL fo 0 v9.toInt64)), (zOuD cy aod fd)]))) Y)) (l' := (zW cy ad shC (zLT cy adM (tB cy (ad 152) v1 n1 z1 k1 f1) (tB cy (ad 153) v2 n2 z2 k2 f2) (zOut cy ao (vp_updL fo 0 v9.toInt64)) (zOuD cy aod fd) Y) X')) (zpM _ _ _ _ _ _) (List.Sublist.refl _) ?_
    refine g_vi (ws' := (zW cy adM shM (z_rend cy ad X' 0 shC ++ ((tB cy (ad 152) v1 n1 z1 k1 f1) ++ ((tB cy (ad 153) v2 n2 z2 k2 f2) ++ [(zOut cy ao (vp_updL fo 0 v9.toInt64)), (zOuD cy aod fd)]))) Y')) (As := [.int (xs (6 * j + 1)), .int (xs (6 * j + 2))]) (rest := []) (res := b9) C (c_X6_hall l D cy adM (z_rend cy ad X' 0 shC ++ ((tB cy (ad 152) v1 n1 z1 k1 f1) ++ ((tB cy (ad 153) v2 n2 z2 k2 f2) ++ [(zOut cy ao (vp_updL fo 0 v9.toInt64)), (zOuD cy aod fd)]))) Y (xs (6 * j + 1)) (xs (6 * j + 2)) e2) zml_RL_182 zcv_X6_hall (zW_get Y sM_0) rfl rfl rfl ⟨Nat.le_of_ble_eq_true rfl, Nat.le_of_ble_eq_true rfl⟩ rfl rfl (Nat.le_of_ble_eq_true rfl) ⟨by show cells + 1 ≤ 603072; omega, by show slots + 6 ≤ 7194730; omega⟩ dL_law_804 ?_
    refine g_istore (L' := [(7, .int b9), (6, .int (nI 0)), (5, .int (nI (6 * j))), (4, .ref aod), (3, .ref ao), (2, .ref (adM 0)), (1, .ref (ad 0)), (0, .ref b)]) C dL_law_807 (by decide) rfl ?_
    refine g_aload_n (j := 5) C dL_law_809 rfl rfl ?_
    refine g_vi (ws' := (zW cy adM shM (z_rend cy ad X' 0 shC ++ ((tB cy (ad 152) v1 n1 z1 k1 f1) ++ ((tB cy (ad 153) v2 n2 z2 k2 f2) ++ [(zOut cy ao (vp_updL fo 0 v9.toInt64)), (zOuD cy aod fd)]))) Y')) (As := []) (rest := []) (res := Y' 0 0) C (c_X6_thrown l D cy adM (z_rend cy ad X' 0 shC ++ ((tB cy (ad 152) v1 n1 z1 k1 f1) ++ ((tB cy (ad 153) v2 n2 z2 k2 f2) ++ [(zOut cy ao (vp_updL fo 0 v9.toInt64)), (zOuD cy aod fd)]))) Y') zml_RL_155 zcv_X6_thrown (zW_get Y' sM_0) rfl rfl rfl ⟨Nat.le_of_ble_eq_true rfl, Nat.le_of_ble_eq_true rfl⟩ rfl rfl (Nat.le_of_ble_eq_true rfl) ⟨by show cells + 1 ≤ 603072; omega, by show slots + 6 ≤ 7194730; omega⟩ dL_law_810 ?_
    refine zG.less (ws' := (zW cy ad shC (zLT cy adM (tB cy (ad 152) v1 n1 z1 k1 f1) (tB cy (ad 153) v2 n2 z2 k2 f2) (zOut cy ao (vp_updL fo 0 v9.toInt64)) (zOuD cy aod fd) Y') X')) (l' := (zW cy adM shM (z_rend cy ad X' 0 shC ++ ((tB cy (ad 152) v1 n1 z1 k1 f1) ++ ((tB cy (ad 153) v2 n2 z2 k2 f2) ++ [(zOut cy ao (vp_updL fo 0 v9.toInt64)), (zOuD cy aod fd)]))) Y')) (zpM _ _ _ _ _ _).symm (List.Sublist.refl _) ?_
    refine g_iload (j := 1) C dL_law_813 rfl ?_
    refine g_icmp_eq C dL_law_815 (tgt := 820) (by decide) (fun _ => ?_) (fun h9 => absurd (e3.trans (by rw [h0]; rfl)) h9)
    refine g_iload (j := 1) C dL_law_820 rfl ?_
    refine g_if_ne C dL_law_822 (tgt := 837) (by decide) (fun h9 => absurd nI_0 h9) (fun _ => ?_)
    refine g_aload_n (j := 4) C dL_law_825 rfl rfl ?_
    refine g_iconst (v := (nI 0)) C dL_law_826 (by decide) ?_
    refine n_lald (q0 := 156) (n := 1) C zLW_o (nI_in (by decide) (by decide)) dL_law_827 ?_
    refine g_iload (j := 0) C dL_law_828 rfl ?_
    refine n_i2l C dL_law_830 ?_
    refine n_lcmp C dL_law_831 ?_
    refine g_if_eq C dL_law_832 (tgt := 837) (by decide) (fun _ => ?_) (fun h9 => absurd (lg_cmp_rf ((updL_0 _ _).trans (congrArg Int32.toInt64 (e4 h0)))) h9)
    refine g_goto C dL_law_837 (tgt := 2819) (by decide) ?_
    refine zG.wide (k := cells + 200) (n := slots + 3200) (by omega) (by omega) ?_
    refine zG_sub (L' := [(5, .int (nI (6 * j))), (4, .ref aod), (3, .ref ao), (2, .ref (adM 0)), (1, .ref (ad 0)), (0, .ref b)]) [2, 3, 4, 5, 6, 7] rfl ?_
    exact kk _ ⟨v1, n1, k1, z1, f1, t1, v2, n2, k2, z2, f2, t2, _, fd, X', Y', a', rfl, hP.step e5 e6⟩
  · skip
    refine g_istore (L' := [(6, .int (nI (i + 1))), (5, .int (nI (6 * j))), (4, .ref aod), (3, .ref ao), (2, .ref (adM 0)), (1, .ref (ad 0)), (0, .ref b)]) C dL_law_789 (by decide) rfl ?_
    refine g_aload_n (j := 4) C dL_law_791 rfl rfl ?_
    refine g_aload_n (j := 6) C dL_law_792 rfl rfl ?_
    refine g_iload (j := 1) C dL_law_793 rfl ?_
    refine g_iconst (v := (nI 1)) C dL_law_795 (by decide) ?_
    refine g_iadd C dL_law_796 ?_
    refine p_num (y := (nI (6 * j + 1))) (nI_add _ _) ?_
    refine n_sld C hX hbl hbA (nI_in (by omega) (by omega)) dL_law_797 ?_
    refine p_num (y := (xs (6 * j + 1))) (by rw [nI_clamp (by omega)]) ?_
    refine g_aload_n (j := 6) C dL_law_798 rfl rfl ?_
    refine g_iload (j := 1) C dL_law_799 rfl ?_
    refine g_iconst (v := (nI 2)) C dL_law_801 (by decide) ?_
    refine g_iadd C dL_law_802 ?_
    refine p_num (y := (nI (6 * j + 2))) (nI_add _ _) ?_
    refine n_sld C hX hbl hbA (nI_in (by omega) (by omega)) dL_law_803 ?_
    refine p_num (y := (xs (6 * j + 2))) (by rw [nI_clamp (by omega)]) ?_
    refine zG.less (ws' := (zW cy adM shM (z_rend cy ad X' 0 shC ++ ((tB cy (ad 152) v1 n1 z1 k1 f1) ++ ((tB cy (ad 153) v2 n2 z2 k2 f2) ++ [(zOut cy ao fo), (zOuD cy aod fd)]))) Y)) (l' := (zW cy ad shC (zLT cy adM (tB cy (ad 152) v1 n1 z1 k1 f1) (tB cy (ad 153) v2 n2 z2 k2 f2) (zOut cy ao fo) (zOuD cy aod fd) Y) X')) (zpM _ _ _ _ _ _) (List.Sublist.refl _) ?_
    refine g_vi (ws' := (zW cy adM shM (z_rend cy ad X' 0 shC ++ ((tB cy (ad 152) v1 n1 z1 k1 f1) ++ ((tB cy (ad 153) v2 n2 z2 k2 f2) ++ [(zOut cy ao fo), (zOuD cy aod fd)]))) Y')) (As := [.int (xs (6 * j + 1)), .int (xs (6 * j + 2))]) (rest := []) (res := b9) C (c_X6_hall l D cy adM (z_rend cy ad X' 0 shC ++ ((tB cy (ad 152) v1 n1 z1 k1 f1) ++ ((tB cy (ad 153) v2 n2 z2 k2 f2) ++ [(zOut cy ao fo), (zOuD cy aod fd)]))) Y (xs (6 * j + 1)) (xs (6 * j + 2)) e2) zml_RL_182 zcv_X6_hall (zW_get Y sM_0) rfl rfl rfl ⟨Nat.le_of_ble_eq_true rfl, Nat.le_of_ble_eq_true rfl⟩ rfl rfl (Nat.le_of_ble_eq_true rfl) ⟨by show cells + 1 ≤ 603072; omega, by show slots + 6 ≤ 7194730; omega⟩ dL_law_804 ?_
    refine g_istore (L' := [(7, .int b9), (6, .int (nI (i + 1))), (5, .int (nI (6 * j))), (4, .ref aod), (3, .ref ao), (2, .ref (adM 0)), (1, .ref (ad 0)), (0, .ref b)]) C dL_law_807 (by decide) rfl ?_
    refine g_aload_n (j := 5) C dL_law_809 rfl rfl ?_
    refine g_vi (ws' := (zW cy adM shM (z_rend cy ad X' 0 shC ++ ((tB cy (ad 152) v1 n1 z1 k1 f1) ++ ((tB cy (ad 153) v2 n2 z2 k2 f2) ++ [(zOut cy ao fo), (zOuD cy aod fd)]))) Y')) (As := []) (rest := []) (res := Y' 0 0) C (c_X6_thrown l D cy adM (z_rend cy ad X' 0 shC ++ ((tB cy (ad 152) v1 n1 z1 k1 f1) ++ ((tB cy (ad 153) v2 n2 z2 k2 f2) ++ [(zOut cy ao fo), (zOuD cy aod fd)]))) Y') zml_RL_155 zcv_X6_thrown (zW_get Y' sM_0) rfl rfl rfl ⟨Nat.le_of_ble_eq_true rfl, Nat.le_of_ble_eq_true rfl⟩ rfl rfl (Nat.le_of_ble_eq_true rfl) ⟨by show cells + 1 ≤ 603072; omega, by show slots + 6 ≤ 7194730; omega⟩ dL_law_810 ?_
    refine zG.less (ws' := (zW cy ad shC (zLT cy adM (tB cy (ad 152) v1 n1 z1 k1 f1) (tB cy (ad 153) v2 n2 z2 k2 f2) (zOut cy ao fo) (zOuD cy aod fd) Y') X')) (l' := (zW cy adM shM (z_rend cy ad X' 0 shC ++ ((tB cy (ad 152) v1 n1 z1 k1 f1) ++ ((tB cy (ad 153) v2 n2 z2 k2 f2) ++ [(zOut cy ao fo), (zOuD cy aod fd)]))) Y')) (zpM _ _ _ _ _ _).symm (List.Sublist.refl _) ?_
    refine g_iload (j := 1) C dL_law_813 rfl ?_
    refine g_icmp_eq C dL_law_815 (tgt := 820) (by decide) (fun _ => ?_) (fun h9 => absurd (e3.trans (congrArg nI (kx_31 i _ hi))) h9)
    refine g_iload (j := 1) C dL_law_820 rfl ?_
    refine g_if_ne C dL_law_822 (tgt := 837) (by decide) (fun _ => ?_) (fun h9 => absurd h9 (nIs_ne0 (getE_lt hi (by decide))))
    refine g_goto C dL_law_837 (tgt := 2819) (by decide) ?_
    refine zG.wide (k := cells + 200) (n := slots + 3200) (by omega) (by omega) ?_
    refine zG_sub (L' := [(5, .int (nI (6 * j))), (4, .ref aod), (3, .ref ao), (2, .ref (adM 0)), (1, .ref (ad 0)), (0, .ref b)]) [2, 3, 4, 5, 6, 7] rfl ?_
    exact kk _ ⟨v1, n1, k1, z1, f1, t1, v2, n2, k2, z2, f2, t2, fo, fd, X', Y', a', rfl, hP.step e5 e6⟩
end LAWC
