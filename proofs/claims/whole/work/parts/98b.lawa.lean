/-! THE LAW'S CASES (laid by wip/whole/mklaw.py) -/
section LAWC
variable {p : Program} {l : Launch} {e : Env} {s : State} {m : MethodId} {args : Array Value} {below : List Frame} {meth : Method} {c : Code} {D : va_G} {A : Nat → Prop} {cells slots : Nat} {Q : State → Prop} {cy : Nat → ClassId} {ad adM : Nat → Nat} {ao aod b N : Nat} {xs : Nat → Int32}
theorem zml_RL_154 : Cond.methodLink RL 154 yX6_addHall ∈ zAll := zg (z_t7 (List.mem_of_getElem? (i := 43) (by decide +kernel))) (by decide +kernel)
theorem zml_RL_155 : Cond.methodLink RL 155 yX6_thrown ∈ zAll := zg (z_t7 (List.mem_of_getElem? (i := 39) (by decide +kernel))) (by decide +kernel)
set_option maxRecDepth 100000 in
set_option maxHeartbeats 8000000 in
theorem law_addHall (C : zC p s m args meth c code 9 RL D (zTy cy) A) (hE : zEl A s s.heap) (hlt : l.stackTraces = false) (hX : va_X b N xs s s.heap) (hbl : b < s.heap.size) (hbA : ¬ A b) (j : Nat) (hj : 6 * j + 6 ≤ N) (hN : N ≤ 3072) (w : va_W) (hJ : zLJ cy ad adM ao aod w) (hc : cells + 200 ≤ 603072) (hs : slots + 3200 ≤ 7194730) (kk : ∀ w', zLJ cy ad adM ao aod w' → zG p l e room_1 s m args below meth c 9 D A (cells + 200) (slots + 3200) Q w' 2819 [(5, .int (nI (6 * j))), (4, .ref aod), (3, .ref ao), (2, .ref (adM 0)), (1, .ref (ad 0)), (0, .ref b)] []) : zG p l e room_1 s m args below meth c 9 D A cells slots Q w 212 [(5, .int (nI (6 * j))), (4, .ref aod), (3, .ref ao), (2, .ref (adM 0)), (1, .ref (ad 0)), (0, .ref b)] [] := by
  obtain ⟨v1, n1, k1, z1, f1, t1, v2, n2, k2, z2, f2, t2, fo, fd, X, Y, a, rfl, hP⟩ := hJ
  obtain ⟨c9, v9, b9, X', Y', a', e1, e2, e3, e4, e5, e6⟩ := sim_addHall hP.1 (xs (6 * j + 1)) (xs (6 * j + 2)) (xs (6 * j + 3))
  have hcd : inC [1, 2] c9 := oc_addHall X (xs (6 * j + 1)) (xs (6 * j + 2)) (xs (6 * j + 3)) _ e1
  have hM := (c_X5_addHall l hlt D cy ad (zLT cy adM (tB cy (ad 152) v1 n1 z1 k1 f1) (tB cy (ad 153) v2 n2 z2 k2 f2) (zOut cy ao fo) (zOuD cy aod fd) Y) X (xs (6 * j + 1)) (xs (6 * j + 2)) (xs (6 * j + 3)) e1).toY
  have hw := hw_addHall l D cy zTh_ge zEw_th _ (ad 0) _ (xs (6 * j + 1)) (xs (6 * j + 2)) (xs (6 * j + 3)) ao 156 fo 1 6 _ _ _ hM rfl rfl ⟨by decide, by decide⟩ (zW_get X sC_0) (fun v w hh => by obtain ⟨_, _, rfl⟩ := hh; exact zLW_o) (fun c w hh h0 => by obtain ⟨rfl, _⟩ := hh; simpa using hcd.ne h0)
  refine g_aload_n (j := 4) C dL_law_212 rfl rfl ?_
  refine g_aload_n (j := 5) C dL_law_213 rfl rfl ?_
  refine g_iload (j := 0) C dL_law_214 rfl ?_
  refine g_iconst (v := (nI 1)) C dL_law_216 (by decide) ?_
  refine g_iadd C dL_law_217 ?_
  refine p_num (y := (nI (6 * j + 1))) (nI_add _ _) ?_
  refine n_sld C hX hbl hbA (nI_in (by omega) (by omega)) dL_law_218 ?_
  refine p_num (y := (xs (6 * j + 1))) (by rw [nI_clamp (by omega)]) ?_
  refine g_aload_n (j := 5) C dL_law_219 rfl rfl ?_
  refine g_iload (j := 0) C dL_law_220 rfl ?_
  refine g_iconst (v := (nI 2)) C dL_law_222 (by decide) ?_
  refine g_iadd C dL_law_223 ?_
  refine p_num (y := (nI (6 * j + 2))) (nI_add _ _) ?_
  refine n_sld C hX hbl hbA (nI_in (by omega) (by omega)) dL_law_224 ?_
  refine p_num (y := (xs (6 * j + 2))) (by rw [nI_clamp (by omega)]) ?_
  refine g_aload_n (j := 5) C dL_law_225 rfl rfl ?_
  refine g_iload (j := 0) C dL_law_226 rfl ?_
  refine g_iconst (v := (nI 3)) C dL_law_228 (by decide) ?_
  refine g_iadd C dL_law_229 ?_
  refine p_num (y := (nI (6 * j + 3))) (nI_add _ _) ?_
  refine n_sld C hX hbl hbA (nI_in (by omega) (by omega)) dL_law_230 ?_
  refine p_num (y := (xs (6 * j + 3))) (by rw [nI_clamp (by omega)]) ?_
  refine g_aload_n (j := 2) C dL_law_231 rfl rfl ?_
  refine t_SWi (As := [.ref (ad 0), .int (xs (6 * j + 1)), .int (xs (6 * j + 2)), .int (xs (6 * j + 3)), .ref ao]) (rest := []) zEw_ge hE.1 C hw zcw_addHall rfl rfl ⟨Nat.le_of_ble_eq_true rfl, Nat.le_of_ble_eq_true rfl⟩ rfl rfl (Nat.le_of_ble_eq_true rfl) ⟨by show cells + 1 ≤ 603072; omega, by show slots + 6 ≤ 7194730; omega⟩ dL_law_232 ?_
  intro r w hr9
  rcases hr9 with ⟨rfl, v', w1, ⟨h0, hv9, rfl⟩, rfl⟩ | ⟨i, c', hi, ⟨rfl, rfl⟩, hne, rfl⟩
  · skip
    have hv9 : v9 = v' := hv9.symm
    subst hv9
    rw [show List.set _ 156 _ = (zW cy ad shC (zLT cy adM (tB cy (ad 152) v1 n1 z1 k1 f1) (tB cy (ad 153) v2 n2 z2 k2 f2) (zOut cy ao (vp_updL fo 0 v9.toInt64)) (zOuD cy aod fd) Y) X') from zLW_so]
    have h0 : c9 = 0 := h0
    refine g_istore (L' := [(6, .int (nI 0)), (5, .int (nI (6 * j))), (4, .ref aod), (3, .ref ao), (2, .ref (adM 0)), (1, .ref (ad 0)), (0, .ref b)]) C dL_law_235 (by decide) rfl ?_
    refine g_aload_n (j := 4) C dL_law_237 rfl rfl ?_
    refine g_aload_n (j := 6) C dL_law_238 rfl rfl ?_
    refine g_iload (j := 1) C dL_law_239 rfl ?_
    refine g_iconst (v := (nI 1)) C dL_law_241 (by decide) ?_
    refine g_iadd C dL_law_242 ?_
    refine p_num (y := (nI (6 * j + 1))) (nI_add _ _) ?_
    refine n_sld C hX hbl hbA (nI_in (by omega) (by omega)) dL_law_243 ?_
    refine p_num (y := (xs (6 * j + 1))) (by rw [nI_clamp (by omega)]) ?_
    refine g_aload_n (j := 6) C dL_law_244 rfl rfl ?_
    refine g_iload (j := 1) C dL_law_245 rfl ?_
    refine g_iconst (v := (nI 2)) C dL_law_247 (by decide) ?_
    refine g_iadd C dL_law_248 ?_
    refine p_num (y := (nI (6 * j + 2))) (nI_add _ _) ?_
    refine n_sld C hX hbl hbA (nI_in (by omega) (by omega)) dL_law_249 ?_
    refine p_num (y := (xs (6 * j + 2))) (by rw [nI_clamp (by omega)]) ?_
    refine g_aload_n (j := 6) C dL_law_250 rfl rfl ?_
    refine g_iload (j := 1) C dL_law_251 rfl ?_
    refine g_iconst (v := (nI 3)) C dL_law_253 (by decide) ?_
    refine g_iadd C dL_law_254 ?_
    refine p_num (y := (nI (6 * j + 3))) (nI_add _ _) ?_
    refine n_sld C hX hbl hbA (nI_in (by omega) (by omega)) dL_law_255 ?_
    refine p_num (y := (xs (6 * j + 3))) (by rw [nI_clamp (by omega)]) ?_
    refine zG.less (ws' := (zW cy adM shM (z_rend cy ad X' 0 shC ++ ((tB cy (ad 152) v1 n1 z1 k1 f1) ++ ((tB cy (ad 153) v2 n2 z2 k2 f2) ++ [(zOut cy ao (vp_updL fo 0 v9.toInt64)), (zOuD cy aod fd)]))) Y)) (l' := (zW cy ad shC (zLT cy adM (tB cy (ad 152) v1 n1 z1 k1 f1) (tB cy (ad 153) v2 n2 z2 k2 f2) (zOut cy ao (vp_updL fo 0 v9.toInt64)) (zOuD cy aod fd) Y) X')) (zpM _ _ _ _ _ _) (List.Sublist.refl _) ?_
    refine g_vi (ws' := (zW cy adM shM (z_rend cy ad X' 0 shC ++ ((tB cy (ad 152) v1 n1 z1 k1 f1) ++ ((tB cy (ad 153) v2 n2 z2 k2 f2) ++ [(zOut cy ao (vp_updL fo 0 v9.toInt64)), (zOuD cy aod fd)]))) Y')) (As := [.int (xs (6 * j + 1)), .int (xs (6 * j + 2)), .int (xs (6 * j + 3))]) (rest := []) (res := b9) C (c_X6_addHall l D cy adM (z_rend cy ad X' 0 shC ++ ((tB cy (ad 152) v1 n1 z1 k1 f1) ++ ((tB cy (ad 153) v2 n2 z2 k2 f2) ++ [(zOut cy ao (vp_updL fo 0 v9.toInt64)), (zOuD cy aod fd)]))) Y (xs (6 * j + 1)) (xs (6 * j + 2)) (xs (6 * j + 3)) e2) zml_RL_154 zcv_X6_addHall (zW_get Y sM_0) rfl rfl rfl ⟨Nat.le_of_ble_eq_true rfl, Nat.le_of_ble_eq_true rfl⟩ rfl rfl (Nat.le_of_ble_eq_true rfl) ⟨by show cells + 1 ≤ 603072; omega, by show slots + 6 ≤ 7194730; omega⟩ dL_law_256 ?_
    refine g_istore (L' := [(7, .int b9), (6, .int (nI 0)), (5, .int (nI (6 * j))), (4, .ref aod), (3, .ref ao), (2, .ref (adM 0)), (1, .ref (ad 0)), (0, .ref b)]) C dL_law_259 (by decide) rfl ?_
    refine g_aload_n (j := 5) C dL_law_261 rfl rfl ?_
    refine g_vi (ws' := (zW cy adM shM (z_rend cy ad X' 0 shC ++ ((tB cy (ad 152) v1 n1 z1 k1 f1) ++ ((tB cy (ad 153) v2 n2 z2 k2 f2) ++ [(zOut cy ao (vp_updL fo 0 v9.toInt64)), (zOuD cy aod fd)]))) Y')) (As := []) (rest := []) (res := Y' 0 0) C (c_X6_thrown l D cy adM (z_rend cy ad X' 0 shC ++ ((tB cy (ad 152) v1 n1 z1 k1 f1) ++ ((tB cy (ad 153) v2 n2 z2 k2 f2) ++ [(zOut cy ao (vp_updL fo 0 v9.toInt64)), (zOuD cy aod fd)]))) Y') zml_RL_155 zcv_X6_thrown (zW_get Y' sM_0) rfl rfl rfl ⟨Nat.le_of_ble_eq_true rfl, Nat.le_of_ble_eq_true rfl⟩ rfl rfl (Nat.le_of_ble_eq_true rfl) ⟨by show cells + 1 ≤ 603072; omega, by show slots + 6 ≤ 7194730; omega⟩ dL_law_262 ?_
    refine zG.less (ws' := (zW cy ad shC (zLT cy adM (tB cy (ad 152) v1 n1 z1 k1 f1) (tB cy (ad 153) v2 n2 z2 k2 f2) (zOut cy ao (vp_updL fo 0 v9.toInt64)) (zOuD cy aod fd) Y') X')) (l' := (zW cy adM shM (z_rend cy ad X' 0 shC ++ ((tB cy (ad 152) v1 n1 z1 k1 f1) ++ ((tB cy (ad 153) v2 n2 z2 k2 f2) ++ [(zOut cy ao (vp_updL fo 0 v9.toInt64)), (zOuD cy aod fd)]))) Y')) (zpM _ _ _ _ _ _).symm (List.Sublist.refl _) ?_
    refine g_iload (j := 1) C dL_law_265 rfl ?_
    refine g_icmp_eq C dL_law_267 (tgt := 272) (by decide) (fun _ => ?_) (fun h9 => absurd (e3.trans (by rw [h0]; rfl)) h9)
    refine g_iload (j := 1) C dL_law_272 rfl ?_
    refine g_if_ne C dL_law_274 (tgt := 289) (by decide) (fun h9 => absurd nI_0 h9) (fun _ => ?_)
    refine g_aload_n (j := 4) C dL_law_277 rfl rfl ?_
    refine g_iconst (v := (nI 0)) C dL_law_278 (by decide) ?_
    refine n_lald (q0 := 156) (n := 1) C zLW_o (nI_in (by decide) (by decide)) dL_law_279 ?_
    refine g_iload (j := 0) C dL_law_280 rfl ?_
    refine n_i2l C dL_law_282 ?_
    refine n_lcmp C dL_law_283 ?_
    refine g_if_eq C dL_law_284 (tgt := 289) (by decide) (fun _ => ?_) (fun h9 => absurd (lg_cmp_rf ((updL_0 _ _).trans (congrArg Int32.toInt64 (e4 h0)))) h9)
    refine g_goto C dL_law_289 (tgt := 2819) (by decide) ?_
    refine zG.wide (k := cells + 200) (n := slots + 3200) (by omega) (by omega) ?_
    refine zG_sub (L' := [(5, .int (nI (6 * j))), (4, .ref aod), (3, .ref ao), (2, .ref (adM 0)), (1, .ref (ad 0)), (0, .ref b)]) [2, 3, 4, 5, 6, 7] rfl ?_
    exact kk _ ⟨v1, n1, k1, z1, f1, t1, v2, n2, k2, z2, f2, t2, _, fd, X', Y', a', rfl, hP.step e5 e6⟩
  · skip
    refine g_istore (L' := [(6, .int (nI (i + 1))), (5, .int (nI (6 * j))), (4, .ref aod), (3, .ref ao), (2, .ref (adM 0)), (1, .ref (ad 0)), (0, .ref b)]) C dL_law_235 (by decide) rfl ?_
    refine g_aload_n (j := 4) C dL_law_237 rfl rfl ?_
    refine g_aload_n (j := 6) C dL_law_238 rfl rfl ?_
    refine g_iload (j := 1) C dL_law_239 rfl ?_
    refine g_iconst (v := (nI 1)) C dL_law_241 (by decide) ?_
    refine g_iadd C dL_law_242 ?_
    refine p_num (y := (nI (6 * j + 1))) (nI_add _ _) ?_
    refine n_sld C hX hbl hbA (nI_in (by omega) (by omega)) dL_law_243 ?_
    refine p_num (y := (xs (6 * j + 1))) (by rw [nI_clamp (by omega)]) ?_
    refine g_aload_n (j := 6) C dL_law_244 rfl rfl ?_
    refine g_iload (j := 1) C dL_law_245 rfl ?_
    refine g_iconst (v := (nI 2)) C dL_law_247 (by decide) ?_
    refine g_iadd C dL_law_248 ?_
    refine p_num (y := (nI (6 * j + 2))) (nI_add _ _) ?_
    refine n_sld C hX hbl hbA (nI_in (by omega) (by omega)) dL_law_249 ?_
    refine p_num (y := (xs (6 * j + 2))) (by rw [nI_clamp (by omega)]) ?_
    refine g_aload_n (j := 6) C dL_law_250 rfl rfl ?_
    refine g_iload (j := 1) C dL_law_251 rfl ?_
    refine g_iconst (v := (nI 3)) C dL_law_253 (by decide) ?_
    refine g_iadd C dL_law_254 ?_
    refine p_num (y := (nI (6 * j + 3))) (nI_add _ _) ?_
    refine n_sld C hX hbl hbA (nI_in (by omega) (by omega)) dL_law_255 ?_
    refine p_num (y := (xs (6 * j + 3))) (by rw [nI_clamp (by omega)]) ?_
    refine zG.less (ws' := (zW cy adM shM (z_rend cy ad X' 0 shC ++ ((tB cy (ad 152) v1 n1 z1 k1 f1) ++ ((tB cy (ad 153) v2 n2 z2 k2 f2) ++ [(zOut cy ao fo), (zOuD cy aod fd)]))) Y)) (l' := (zW cy ad shC (zLT cy adM (tB cy (ad 152) v1 n1 z1 k1 f1) (tB cy (ad 153) v2 n2 z2 k2 f2) (zOut cy ao fo) (zOuD cy aod fd) Y) X')) (zpM _ _ _ _ _ _) (List.Sublist.refl _) ?_
    refine g_vi (ws' := (zW cy adM shM (z_rend cy ad X' 0 shC ++ ((tB cy (ad 152) v1 n1 z1 k1 f1) ++ ((tB cy (ad 153) v2 n2 z2 k2 f2) ++ [(zOut cy ao fo), (zOuD cy aod fd)]))) Y')) (As := [.int (xs (6 * j + 1)), .int (xs (6 * j + 2)), .int (xs (6 * j + 3))]) (rest := []) (res := b9) C (c_X6_addHall l D cy adM (z_rend cy ad X' 0 shC ++ ((tB cy (ad 152) v1 n1 z1 k1 f1) ++ ((tB cy (ad 153) v2 n2 z2 k2 f2) ++ [(zOut cy ao fo), (zOuD cy aod fd)]))) Y (xs (6 * j + 1)) (xs (6 * j + 2)) (xs (6 * j + 3)) e2) zml_RL_154 zcv_X6_addHall (zW_get Y sM_0) rfl rfl rfl ⟨Nat.le_of_ble_eq_true rfl, Nat.le_of_ble_eq_true rfl⟩ rfl rfl (Nat.le_of_ble_eq_true rfl) ⟨by show cells + 1 ≤ 603072; omega, by show slots + 6 ≤ 7194730; omega⟩ dL_law_256 ?_
    refine g_istore (L' := [(7, .int b9), (6, .int (nI (i + 1))), (5, .int (nI (6 * j))), (4, .ref aod), (3, .ref ao), (2, .ref (adM 0)), (1, .ref (ad 0)), (0, .ref b)]) C dL_law_259 (by decide) rfl ?_
    refine g_aload_n (j := 5) C dL_law_261 rfl rfl ?_
    refine g_vi (ws' := (zW cy adM shM (z_rend cy ad X' 0 shC ++ ((tB cy (ad 152) v1 n1 z1 k1 f1) ++ ((tB cy (ad 153) v2 n2 z2 k2 f2) ++ [(zOut cy ao fo), (zOuD cy aod fd)]))) Y')) (As := []) (rest := []) (res := Y' 0 0) C (c_X6_thrown l D cy adM (z_rend cy ad X' 0 shC ++ ((tB cy (ad 152) v1 n1 z1 k1 f1) ++ ((tB cy (ad 153) v2 n2 z2 k2 f2) ++ [(zOut cy ao fo), (zOuD cy aod fd)]))) Y') zml_RL_155 zcv_X6_thrown (zW_get Y' sM_0) rfl rfl rfl ⟨Nat.le_of_ble_eq_true rfl, Nat.le_of_ble_eq_true rfl⟩ rfl rfl (Nat.le_of_ble_eq_true rfl) ⟨by show cells + 1 ≤ 603072; omega, by show slots + 6 ≤ 7194730; omega⟩ dL_law_262 ?_
    refine zG.less (ws' := (zW cy ad shC (zLT cy adM (tB cy (ad 152) v1 n1 z1 k1 f1) (tB cy (ad 153) v2 n2 z2 k2 f2) (zOut cy ao fo) (zOuD cy aod fd) Y') X')) (l' := (zW cy adM shM (z_rend cy ad X' 0 shC ++ ((tB cy (ad 152) v1 n1 z1 k1 f1) ++ ((tB cy (ad 153) v2 n2 z2 k2 f2) ++ [(zOut cy ao fo), (zOuD cy aod fd)]))) Y')) (zpM _ _ _ _ _ _).symm (List.Sublist.refl _) ?_
    refine g_iload (j := 1) C dL_law_265 rfl ?_
    refine g_icmp_eq C dL_law_267 (tgt := 272) (by decide) (fun _ => ?_) (fun h9 => absurd (e3.trans (congrArg nI (kx_12 i _ hi))) h9)
    refine g_iload (j := 1) C dL_law_272 rfl ?_
    refine g_if_ne C dL_law_274 (tgt := 289) (by decide) (fun _ => ?_) (fun h9 => absurd h9 (nIs_ne0 (getE_lt hi (by decide))))
    refine g_goto C dL_law_289 (tgt := 2819) (by decide) ?_
    refine zG.wide (k := cells + 200) (n := slots + 3200) (by omega) (by omega) ?_
    refine zG_sub (L' := [(5, .int (nI (6 * j))), (4, .ref aod), (3, .ref ao), (2, .ref (adM 0)), (1, .ref (ad 0)), (0, .ref b)]) [2, 3, 4, 5, 6, 7] rfl ?_
    exact kk _ ⟨v1, n1, k1, z1, f1, t1, v2, n2, k2, z2, f2, t2, fo, fd, X', Y', a', rfl, hP.step e5 e6⟩
end LAWC
