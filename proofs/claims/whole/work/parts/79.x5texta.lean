/-! THE CLASS'S METHODS WITH TEXTS (laid by wip/whole/mkx5.py) -/
theorem zfs_RX5_135 : Cond.fieldLink RX5 135 "CinemaProgramme" "LOWEST_SETTINGS" "[I" ∈ zAll := zg (z_t2 (List.mem_of_getElem? (i := 222) (by decide +kernel))) (by decide +kernel)
theorem zfs_RX5_139 : Cond.fieldLink RX5 139 "CinemaProgramme" "HIGHEST_SETTINGS" "[I" ∈ zAll := zg (z_t2 (List.mem_of_getElem? (i := 224) (by decide +kernel))) (by decide +kernel)
theorem p_ldcSW {p : Program} {l : Launch} {e : Env} {R : Room} {s : State} {m : MethodId} {args : Array Value} {below : List Frame} {meth : Method} {c : Code} {cc : ByteArray} {nL : Nat} {own : String} {D : va_G} {tys : List (ClassId × FieldType)} {A : Nat → Prop} {cells slots : Nat} {Q : State → Prop} {ws : va_W} {pc : Nat} {L : List (Nat × Value)} {st : List Value} (C : zC p s m args meth c cc nL own D tys A) {tx : String} {index q : Nat} (hZ : vk_R own index tx q s) (hdg : decode cc pc = .ok (.ldc_w index, 3))
    (kk : zG p l e R s m args below meth c nL D A cells slots Q ws (pc + 3) L (.ref q :: st)) : zG p l e R s m args below meth c nL D A cells slots Q ws pc L st := by
  obtain ⟨hx, hb, hml, hown, hts, hK, hA, hlk⟩ := C
  intro H locs ls hP hD hS hl9
  intro T hT X
  obtain ⟨t, a1, b1⟩ := kk H locs ls hP hD hS hl9 T hT X
  exact ⟨t, X.ldcStringW hx hown (text := tx) (a := q) hZ.1 hZ.2 (g := F0 m pc ls (st : List Value)) rfl (by rw [hb]; exact hdg) t a1, b1⟩
/-- what one step of a builder's room costs -/
theorem zstep {n m : Nat} (h16 : 16 ≤ n) (hb : n ≤ 1600) (hm : m ≤ 800) : m ≤ zcp n m ∧ 16 ≤ zcp n m ∧ zcp n m ≤ 1600 ∧ n ≤ zcp n m ∧ n / 8 + zmc n m ≤ zcp n m / 8 ∧ 2 * n + zms n m ≤ 2 * zcp n m := by
  have h1 := zcp_ge n m
  by_cases c : m ≤ n
  · have e1 : zcp n m = n := if_pos c
    have e2 : zmc n m = 0 := if_pos c
    have e3 : zms n m = 0 := if_pos c
    omega
  · have e1 : zcp n m = zcap n m := if_neg c
    have e2 : zmc n m = 1 := if_neg c
    have e3 : zms n m = zcap n m := if_neg c
    have h2 := zcap_ge (n := n) (m := m) (by omega)
    omega
theorem d_appC (l : Launch) (D : va_G) (cy : Nat → ClassId) (E : va_W) (q v n k : Nat) (z : Int32) (f : Nat → Int32) (c0 : Nat) (hc : c0 < 256) (t : Nat → Nat) (hL : sb_Lat t k f) (hf : sb_Fit f) (hkn : k ≤ n) (hn : n < 2 ^ 26) (k' n' : Nat) (e1 : k' = k + 1) (e2 : n' = zcp n k') : zMt l yJ4_append_cf468 cJ4_append_cf468 2 (some (.object "java/lang/StringBuilder")) (zrt 6 (zmc n k') (zms n k')) D (zTy cy) zEn (tB cy q v n z k f ++ E) [.ref q, .int (nI c0)] (zmc n k') (zms n k') (tR D (zTy cy) (fun a w => a = q ∧ ∃ v2 f2, w = tB cy q v2 n' z k' f2 ++ E ∧ sb_Lat (sb_cat t k (fun _ => c0)) k' f2 ∧ sb_Fit f2)) := by
  subst e1
  subst e2
  exact c_appC l D cy E q v n k z f c0 hc t hL hf hkn hn
theorem d_appI (l : Launch) (D : va_G) (cy : Nat → ClassId) (E : va_W) (q v n k : Nat) (z : Int32) (f : Nat → Int32) (v0 : Nat) (hv : v0 < 10000) (t : Nat → Nat) (hL : sb_Lat t k f) (hf : sb_Fit f) (hkn : k ≤ n) (hn : n < 2 ^ 26) (k' n' : Nat) (e1 : k' = k + sb_dg v0) (e2 : n' = zcp n k') : zMt l yJ4_append_bf812 cJ4_append_bf812 2 (some (.object "java/lang/StringBuilder")) (zrt 6 (zmc n k') (zms n k')) D (zTy cy) zEn (tB cy q v n z k f ++ E) [.ref q, .int (nI v0)] (zmc n k') (zms n k') (tR D (zTy cy) (fun a w => a = q ∧ ∃ v2 f2, w = tB cy q v2 n' z k' f2 ++ E ∧ sb_Lat (sb_cat t k (sb_dec v0)) k' f2 ∧ sb_Fit f2)) := by
  subst e1
  subst e2
  exact c_appI l D cy E q v n k z f v0 hv t hL hf hkn hn
theorem d_appS (l : Launch) (D : va_G) (cy : Nat → ClassId) (E : va_W) (q v n k : Nat) (z : Int32) (f : Nat → Int32) (a0 : Nat) (ls : List Int32) (hls : ls.length < 2 ^ 25) (hbl : ∀ b ∈ ls, fits .byte (.int b) = true) (u9 : Nat → Nat) (hs : sb_Lat u9 ls.length (fun j => ls.getD j 0)) (t : Nat → Nat) (hL : sb_Lat t k f) (hf : sb_Fit f) (hkn : k ≤ n) (hn : n < 2 ^ 26) (k' n' : Nat) (e1 : k' = k + ls.length) (e2 : n' = zcp n k') : zMt l yJ4_append_15ec4 cJ4_append_15ec4 2 (some (.object "java/lang/StringBuilder")) (zrt 6 (zmc n k') (zms n k')) D (zTy cy) (zES a0 ls) (tB cy q v n z k f ++ E) [.ref q, .ref a0] (zmc n k') (zms n k') (tR D (zTy cy) (fun a w => a = q ∧ ∃ v2 f2, w = tB cy q v2 n' z k' f2 ++ E ∧ sb_Lat (sb_cat t k u9) k' f2 ∧ sb_Fit f2)) := by
  subst e1
  subst e2
  exact c_appS l D cy E q v n k z f a0 ls hls hbl t hL hf hkn hn u9 hs
def zu (ls : List Int32) (j : Nat) : Nat := (ls.getD j 0).toNatClampNeg
theorem zu_351 : sb_Lat (zu zT351) zT351.length (fun j => zT351.getD j 0) ∧ ∀ b ∈ zT351, fits .byte (.int b) = true := by
  refine ⟨?_, by decide⟩
  intro j hj
  revert j
  decide
theorem zu_357 : sb_Lat (zu zT357) zT357.length (fun j => zT357.getD j 0) ∧ ∀ b ∈ zT357, fits .byte (.int b) = true := by
  refine ⟨?_, by decide⟩
  intro j hj
  revert j
  decide
theorem zu_359 : sb_Lat (zu zT359) zT359.length (fun j => zT359.getD j 0) ∧ ∀ b ∈ zT359, fits .byte (.int b) = true := by
  refine ⟨?_, by decide⟩
  intro j hj
  revert j
  decide
theorem zu_449 : sb_Lat (zu zT449) zT449.length (fun j => zT449.getD j 0) ∧ ∀ b ∈ zT449, fits .byte (.int b) = true := by
  refine ⟨?_, by decide⟩
  intro j hj
  revert j
  decide
set_option maxRecDepth 100000 in
set_option maxHeartbeats 8000000 in
theorem c_X5_appendShow (l : Launch) (D : va_G) (cy : Nat → ClassId) (ad : Nat → Nat) (E : va_W) (X : Nat → Nat → Int32) (vS : Int32) (v n k : Nat) (z : Int32) (f : Nat → Int32) (t : Nat → Nat) (hL0 : sb_Lat t k f) (hf0 : sb_Fit f) (hkn0 : k ≤ n) (h16 : 16 ≤ n) (hb : n ≤ 1600) (a3 a4 a1 a5 a9 : Nat) (ha3 : a3 < 10000) (qa3 : f_X4_get X 8 360 vS (nI 3) = nI a3) (ha4 : a4 < 10000) (qa4 : f_X4_get X 8 360 vS (nI 4) = nI a4) (ha1 : a1 < 10000) (qa1 : f_X4_get X 8 360 vS (nI 1) = nI a1) (ha5 : a5 < 10000) (qa5 : f_X4_get X 8 360 vS (nI 5) = nI a5) (ha9 : a9 < 10000) (qa9 : f_X3_seatsOf X vS = nI a9) (k1 k2 k3 k4 k5 k6 k7 k8 k9 n1 n2 n3 n4 n5 n6 n7 n8 n9 : Nat) (e1 : k1 = k + sb_dg a3) (g1 : n1 = zcp n k1) (e2 : k2 = k1 + 1) (g2 : n2 = zcp n1 k2) (e3 : k3 = k2 + sb_dg a4) (g3 : n3 = zcp n2 k3) (e4 : k4 = k3 + 2) (g4 : n4 = zcp n3 k4) (e5 : k5 = k4 + sb_dg a1) (g5 : n5 = zcp n4 k5) (e6 : k6 = k5 + 1) (g6 : n6 = zcp n5 k6) (e7 : k7 = k6 + sb_dg a5) (g7 : n7 = zcp n6 k7) (e8 : k8 = k7 + 1) (g8 : n8 = zcp n7 k8) (e9 : k9 = k8 + sb_dg a9) (g9 : n9 = zcp n8 k9) (hk9 : k9 ≤ 800) : zMt l yX5_appendShow cX5_appendShow 2 none (zrt 8 (n9 / 8 - n / 8) (2 * n9 - 2 * n)) D (zTy cy) zE5 (zW cy ad shC (tB cy (ad 153) v n z k f ++ E) X) [.ref (ad 0), .int vS] (n9 / 8 - n / 8) (2 * n9 - 2 * n) (tV D (zTy cy) (fun w => ∃ v2 f2, w = zW cy ad shC (tB cy (ad 153) v2 n9 z k9 f2 ++ E) X ∧ sb_Lat (sb_cat (sb_cat (sb_cat (sb_cat (sb_cat (sb_cat (sb_cat (sb_cat (sb_cat t k (sb_dec a3)) k1 (fun _ => 45)) k2 (sb_dec a4)) k3 (zu zT449)) k4 (sb_dec a1)) k5 (fun _ => 32)) k6 (sb_dec a5)) k7 (fun _ => 47)) k8 (sb_dec a9)) k9 f2 ∧ sb_Fit f2)) := by
  refine zMt.of (by decide) (Nat.le_of_ble_eq_true rfl) ?_
  intro p e s m below meth c A C hr hE
  obtain ⟨aS, hS1, hS2⟩ := hE.2.2.2.1.2.2.2
  have s1 := zstep (n := n) (m := k1) (by omega) (by omega) (by omega)
  rw [← g1] at s1
  have hkn1 : k1 ≤ n1 := s1.1
  have s2 := zstep (n := n1) (m := k2) (by omega) (by omega) (by omega)
  rw [← g2] at s2
  have hkn2 : k2 ≤ n2 := s2.1
  have s3 := zstep (n := n2) (m := k3) (by omega) (by omega) (by omega)
  rw [← g3] at s3
  have hkn3 : k3 ≤ n3 := s3.1
  have s4 := zstep (n := n3) (m := k4) (by omega) (by omega) (by omega)
  rw [← g4] at s4
  have hkn4 : k4 ≤ n4 := s4.1
  have s5 := zstep (n := n4) (m := k5) (by omega) (by omega) (by omega)
  rw [← g5] at s5
  have hkn5 : k5 ≤ n5 := s5.1
  have s6 := zstep (n := n5) (m := k6) (by omega) (by omega) (by omega)
  rw [← g6] at s6
  have hkn6 : k6 ≤ n6 := s6.1
  have s7 := zstep (n := n6) (m := k7) (by omega) (by omega) (by omega)
  rw [← g7] at s7
  have hkn7 : k7 ≤ n7 := s7.1
  have s8 := zstep (n := n7) (m := k8) (by omega) (by omega) (by omega)
  rw [← g8] at s8
  have hkn8 : k8 ≤ n8 := s8.1
  have s9 := zstep (n := n8) (m := k9) (by omega) (by omega) (by omega)
  rw [← g9] at s9
  have hkn9 : k9 ≤ n9 := s9.1
  refine zG_L (L' := [(0, .ref (ad 0)), (1, .int vS)]) rfl ?_
  refine g_aload_n (j := 0) C dX5_appendShow_0 rfl rfl ?_
  refine g_getr (k := 6) (N := 11) C sC_0 rfl zin_RX5 (by decide) rfl zfl_RX5_47 rfl dX5_appendShow_1 ?_
  refine g_aload_n (j := 0) C dX5_appendShow_4 rfl rfl ?_
  refine g_getr (k := 0) (N := 11) C sC_0 rfl zin_RX5 (by decide) rfl zfl_RX5_10 rfl dX5_appendShow_5 ?_
  refine g_getr (k := 3) (N := 8) C sC_1 rfl zin_RX3 (by decide) rfl zfl_RX5_210 rfl dX5_appendShow_8 ?_
  refine g_iload_n (j := 1) C dX5_appendShow_11 rfl rfl ?_
  refine g_iconst (v := (nI 3)) C dX5_appendShow_12 (by decide) ?_
  refine g_vi (ws' := (zW cy ad shC (tB cy (ad 153) v n z k f ++ E) X)) (As := [.int vS, .int (nI 3)]) (rest := [.ref (ad 153)]) (res := (f_X4_get X 8 360 vS (nI 3))) C (c_X4_get l D cy ad (tB cy (ad 153) v n z k f ++ E) X 8 360 sC_8 sC_9 (by decide) vS (nI 3)) zml_RX5_126 zcv_X4_get (zW_get _ sC_8) rfl rfl rfl ⟨Nat.le_of_ble_eq_true rfl, Nat.le_of_ble_eq_true rfl⟩ rfl rfl (Nat.le_of_ble_eq_true rfl) ⟨by show 0 + 0 ≤ n9 / 8 - n / 8; omega, by show 0 + 0 ≤ 2 * n9 - 2 * n; omega⟩ dX5_appendShow_13 ?_
  refine p_num (y := (nI a3)) qa3 ?_
  refine zG.less (ws' := (tB cy (ad 153) v n z k f ++ (z_rend cy ad X 0 shC ++ E))) (l' := (zW cy ad shC (tB cy (ad 153) v n z k f ++ E) X)) (zpT _ _ _) (List.Sublist.refl _) ?_
  refine t_Vr (As := [.int (nI a3)]) (rest := []) zEn_ge hE.1.1 C (d_appI l D cy (z_rend cy ad X 0 shC ++ E) (ad 153) v n k z f a3 ha3 t hL0 hf0 hkn0 (by omega) k1 n1 e1 g1) zml_RX5_446 zcv_J4_append_bf812 (zRec.of C (ci := 1) (q0 := 0) rfl rfl) rfl rfl ⟨Nat.le_of_ble_eq_true rfl, Nat.le_of_ble_eq_true rfl⟩ rfl rfl (Nat.le_of_ble_eq_true rfl) ⟨by show 0 + zmc n k1 ≤ n9 / 8 - n / 8; omega, by show 0 + zms n k1 ≤ 2 * n9 - 2 * n; omega⟩ dX5_appendShow_16 ?_
  intro r w h9
  obtain ⟨rfl, v1, f1, rfl, hL1, hf1⟩ := h9
  refine zG.less (ws' := (zW cy ad shC (tB cy (ad 153) v1 n1 z k1 f1 ++ E) X)) (l' := (tB cy (ad 153) v1 n1 z k1 f1 ++ (z_rend cy ad X 0 shC ++ E))) (zpT _ _ _).symm (List.Sublist.refl _) ?_
  refine zG.wide (k := n1 / 8 - n / 8) (n := 2 * n1 - 2 * n) (by show 0 + zmc n k1 ≤ _; omega) (by show 0 + zms n k1 ≤ _; omega) ?_
  refine g_pop C dX5_appendShow_19 rfl ?_
  refine g_aload_n (j := 0) C dX5_appendShow_20 rfl rfl ?_
  refine g_getr (k := 6) (N := 11) C sC_0 rfl zin_RX5 (by decide) rfl zfl_RX5_47 rfl dX5_appendShow_21 ?_
  refine g_bipush (v := (nI 45)) C dX5_appendShow_24 (by decide) ?_
  refine zG.less (ws' := (tB cy (ad 153) v1 n1 z k1 f1 ++ (z_rend cy ad X 0 shC ++ E))) (l' := (zW cy ad shC (tB cy (ad 153) v1 n1 z k1 f1 ++ E) X)) (zpT _ _ _) (List.Sublist.refl _) ?_
  refine t_Vr (As := [.int (nI 45)]) (rest := []) zEn_ge hE.1.1 C (d_appC l D cy (z_rend cy ad X 0 shC ++ E) (ad 153) v1 n1 k1 z f1 45 (by decide) (sb_cat t k (sb_dec a3)) hL1 hf1 hkn1 (by omega) k2 n2 e2 g2) zml_RX5_377 zcv_J4_append_cf468 (zRec.of C (ci := 1) (q0 := 0) rfl rfl) rfl rfl ⟨Nat.le_of_ble_eq_true rfl, Nat.le_of_ble_eq_true rfl⟩ rfl rfl (Nat.le_of_ble_eq_true rfl) ⟨by show (n1 / 8 - n / 8) + zmc n1 k2 ≤ n9 / 8 - n / 8; omega, by show (2 * n1 - 2 * n) + zms n1 k2 ≤ 2 * n9 - 2 * n; omega⟩ dX5_appendShow_26 ?_
  intro r w h9
  obtain ⟨rfl, v2, f2, rfl, hL2, hf2⟩ := h9
  refine zG.less (ws' := (zW cy ad shC (tB cy (ad 153) v2 n2 z k2 f2 ++ E) X)) (l' := (tB cy (ad 153) v2 n2 z k2 f2 ++ (z_rend cy ad X 0 shC ++ E))) (zpT _ _ _).symm (List.Sublist.refl _) ?_
  refine zG.wide (k := n2 / 8 - n / 8) (n := 2 * n2 - 2 * n) (by show (n1 / 8 - n / 8) + zmc n1 k2 ≤ _; omega) (by show (2 * n1 - 2 * n) + zms n1 k2 ≤ _; omega) ?_
  refine g_pop C dX5_appendShow_29 rfl ?_
  refine g_aload_n (j := 0) C dX5_appendShow_30 rfl rfl ?_
  refine g_getr (k := 6) (N := 11) C sC_0 rfl zin_RX5 (by decide) rfl zfl_RX5_47 rfl dX5_appendShow_31 ?_
  refine g_aload_n (j := 0) C dX5_appendShow_34 rfl rfl ?_
  refine g_getr (k := 0) (N := 11) C sC_0 rfl zin_RX5 (by decide) rfl zfl_RX5_10 rfl dX5_appendShow_35 ?_
  refine g_getr (k := 3) (N := 8) C sC_1 rfl zin_RX3 (by decide) rfl zfl_RX5_210 rfl dX5_appendShow_38 ?_
  refine g_iload_n (j := 1) C dX5_appendShow_41 rfl rfl ?_
  refine g_iconst (v := (nI 4)) C dX5_appendShow_42 (by decide) ?_
  refine g_vi (ws' := (zW cy ad shC (tB cy (ad 153) v2 n2 z k2 f2 ++ E) X)) (As := [.int vS, .int (nI 4)]) (rest := [.ref (ad 153)]) (res := (f_X4_get X 8 360 vS (nI 4))) C (c_X4_get l D cy ad (tB cy (ad 153) v2 n2 z k2 f2 ++ E) X 8 360 sC_8 sC_9 (by decide) vS (nI 4)) zml_RX5_126 zcv_X4_get (zW_get _ sC_8) rfl rfl rfl ⟨Nat.le_of_ble_eq_true rfl, Nat.le_of_ble_eq_true rfl⟩ rfl rfl (Nat.le_of_ble_eq_true rfl) ⟨by show (n2 / 8 - n / 8) + 0 ≤ n9 / 8 - n / 8; omega, by show (2 * n2 - 2 * n) + 0 ≤ 2 * n9 - 2 * n; omega⟩ dX5_appendShow_43 ?_
  refine p_num (y := (nI a4)) qa4 ?_
  refine zG.less (ws' := (tB cy (ad 153) v2 n2 z k2 f2 ++ (z_rend cy ad X 0 shC ++ E))) (l' := (zW cy ad shC (tB cy (ad 153) v2 n2 z k2 f2 ++ E) X)) (zpT _ _ _) (List.Sublist.refl _) ?_
  refine t_Vr (As := [.int (nI a4)]) (rest := []) zEn_ge hE.1.1 C (d_appI l D cy (z_rend cy ad X 0 shC ++ E) (ad 153) v2 n2 k2 z f2 a4 ha4 (sb_cat (sb_cat t k (sb_dec a3)) k1 (fun _ => 45)) hL2 hf2 hkn2 (by omega) k3 n3 e3 g3) zml_RX5_446 zcv_J4_append_bf812 (zRec.of C (ci := 1) (q0 := 0) rfl rfl) rfl rfl ⟨Nat.le_of_ble_eq_true rfl, Nat.le_of_ble_eq_true rfl⟩ rfl rfl (Nat.le_of_ble_eq_true rfl) ⟨by show (n2 / 8 - n / 8) + zmc n2 k3 ≤ n9 / 8 - n / 8; omega, by show (2 * n2 - 2 * n) + zms n2 k3 ≤ 2 * n9 - 2 * n; omega⟩ dX5_appendShow_46 ?_
  intro r w h9
  obtain ⟨rfl, v3, f3, rfl, hL3, hf3⟩ := h9
  refine zG.less (ws' := (zW cy ad shC (tB cy (ad 153) v3 n3 z k3 f3 ++ E) X)) (l' := (tB cy (ad 153) v3 n3 z k3 f3 ++ (z_rend cy ad X 0 shC ++ E))) (zpT _ _ _).symm (List.Sublist.refl _) ?_
  refine zG.wide (k := n3 / 8 - n / 8) (n := 2 * n3 - 2 * n) (by show (n2 / 8 - n / 8) + zmc n2 k3 ≤ _; omega) (by show (2 * n2 - 2 * n) + zms n2 k3 ≤ _; omega) ?_
  refine g_pop C dX5_appendShow_49 rfl ?_
  refine g_aload_n (j := 0) C dX5_appendShow_50 rfl rfl ?_
  refine g_getr (k := 6) (N := 11) C sC_0 rfl zin_RX5 (by decide) rfl zfl_RX5_47 rfl dX5_appendShow_51 ?_
  refine p_ldcSW C hS1 dX5_appendShow_54 ?_
  refine zG.less (ws' := (tB cy (ad 153) v3 n3 z k3 f3 ++ (z_rend cy ad X 0 shC ++ E))) (l' := (zW cy ad shC (tB cy (ad 153) v3 n3 z k3 f3 ++ E) X)) (zpT _ _ _) (List.Sublist.refl _) ?_
  refine t_Vr (As := [.ref aS]) (rest := []) (zES_ge _ _) ⟨hE.1.1, hS2⟩ C (d_appS l D cy (z_rend cy ad X 0 shC ++ E) (ad 153) v3 n3 k3 z f3 aS zT449 (by decide) zu_449.2 (zu zT449) zu_449.1 (sb_cat (sb_cat (sb_cat t k (sb_dec a3)) k1 (fun _ => 45)) k2 (sb_dec a4)) hL3 hf3 hkn3 (by omega) k4 n4 e4 g4) zml_RX5_353 zcv_J4_append_15ec4 (zRec.of C (ci := 1) (q0 := 0) rfl rfl) rfl rfl ⟨Nat.le_of_ble_eq_true rfl, Nat.le_of_ble_eq_true rfl⟩ rfl rfl (Nat.le_of_ble_eq_true rfl) ⟨by show (n3 / 8 - n / 8) + zmc n3 k4 ≤ n9 / 8 - n / 8; omega, by show (2 * n3 - 2 * n) + zms n3 k4 ≤ 2 * n9 - 2 * n; omega⟩ dX5_appendShow_57 ?_
  intro r w h9
  obtain ⟨rfl, v4, f4, rfl, hL4, hf4⟩ := h9
  refine zG.less (ws' := (zW cy ad shC (tB cy (ad 153) v4 n4 z k4 f4 ++ E) X)) (l' := (tB cy (ad 153) v4 n4 z k4 f4 ++ (z_rend cy ad X 0 shC ++ E))) (zpT _ _ _).symm (List.Sublist.refl _) ?_
  refine zG.wide (k := n4 / 8 - n / 8) (n := 2 * n4 - 2 * n) (by show (n3 / 8 - n / 8) + zmc n3 k4 ≤ _; omega) (by show (2 * n3 - 2 * n) + zms n3 k4 ≤ _; omega) ?_
  refine g_pop C dX5_appendShow_60 rfl ?_
  refine g_aload_n (j := 0) C dX5_appendShow_61 rfl rfl ?_
  refine g_getr (k := 6) (N := 11) C sC_0 rfl zin_RX5 (by decide) rfl zfl_RX5_47 rfl dX5_appendShow_62 ?_
  refine g_aload_n (j := 0) C dX5_appendShow_65 rfl rfl ?_
  refine g_getr (k := 0) (N := 11) C sC_0 rfl zin_RX5 (by decide) rfl zfl_RX5_10 rfl dX5_appendShow_66 ?_
  refine g_getr (k := 3) (N := 8) C sC_1 rfl zin_RX3 (by decide) rfl zfl_RX5_210 rfl dX5_appendShow_69 ?_
  refine g_iload_n (j := 1) C dX5_appendShow_72 rfl rfl ?_
  refine g_iconst (v := (nI 1)) C dX5_appendShow_73 (by decide) ?_
  refine g_vi (ws' := (zW cy ad shC (tB cy (ad 153) v4 n4 z k4 f4 ++ E) X)) (As := [.int vS, .int (nI 1)]) (rest := [.ref (ad 153)]) (res := (f_X4_get X 8 360 vS (nI 1))) C (c_X4_get l D cy ad (tB cy (ad 153) v4 n4 z k4 f4 ++ E) X 8 360 sC_8 sC_9 (by decide) vS (nI 1)) zml_RX5_126 zcv_X4_get (zW_get _ sC_8) rfl rfl rfl ⟨Nat.le_of_ble_eq_true rfl, Nat.le_of_ble_eq_true rfl⟩ rfl rfl (Nat.le_of_ble_eq_true rfl) ⟨by show (n4 / 8 - n / 8) + 0 ≤ n9 / 8 - n / 8; omega, by show (2 * n4 - 2 * n) + 0 ≤ 2 * n9 - 2 * n; omega⟩ dX5_appendShow_74 ?_
  refine p_num (y := (nI a1)) qa1 ?_
  refine zG.less (ws' := (tB cy (ad 153) v4 n4 z k4 f4 ++ (z_rend cy ad X 0 shC ++ E))) (l' := (zW cy ad shC (tB cy (ad 153) v4 n4 z k4 f4 ++ E) X)) (zpT _ _ _) (List.Sublist.refl _) ?_
  refine t_Vr (As := [.int (nI a1)]) (rest := []) zEn_ge hE.1.1 C (d_appI l D cy (z_rend cy ad X 0 shC ++ E) (ad 153) v4 n4 k4 z f4 a1 ha1 (sb_cat (sb_cat (sb_cat (sb_cat t k (sb_dec a3)) k1 (fun _ => 45)) k2 (sb_dec a4)) k3 (zu zT449)) hL4 hf4 hkn4 (by omega) k5 n5 e5 g5) zml_RX5_446 zcv_J4_append_bf812 (zRec.of C (ci := 1) (q0 := 0) rfl rfl) rfl rfl ⟨Nat.le_of_ble_eq_true rfl, Nat.le_of_ble_eq_true rfl⟩ rfl rfl (Nat.le_of_ble_eq_true rfl) ⟨by show (n4 / 8 - n / 8) + zmc n4 k5 ≤ n9 / 8 - n / 8; omega, by show (2 * n4 - 2 * n) + zms n4 k5 ≤ 2 * n9 - 2 * n; omega⟩ dX5_appendShow_77 ?_
  intro r w h9
  obtain ⟨rfl, v5, f5, rfl, hL5, hf5⟩ := h9
  refine zG.less (ws' := (zW cy ad shC (tB cy (ad 153) v5 n5 z k5 f5 ++ E) X)) (l' := (tB cy (ad 153) v5 n5 z k5 f5 ++ (z_rend cy ad X 0 shC ++ E))) (zpT _ _ _).symm (List.Sublist.refl _) ?_
  refine zG.wide (k := n5 / 8 - n / 8) (n := 2 * n5 - 2 * n) (by show (n4 / 8 - n / 8) + zmc n4 k5 ≤ _; omega) (by show (2 * n4 - 2 * n) + zms n4 k5 ≤ _; omega) ?_
  refine g_pop C dX5_appendShow_80 rfl ?_
  refine g_aload_n (j := 0) C dX5_appendShow_81 rfl rfl ?_
  refine g_getr (k := 6) (N := 11) C sC_0 rfl zin_RX5 (by decide) rfl zfl_RX5_47 rfl dX5_appendShow_82 ?_
  refine g_bipush (v := (nI 32)) C dX5_appendShow_85 (by decide) ?_
  refine zG.less (ws' := (tB cy (ad 153) v5 n5 z k5 f5 ++ (z_rend cy ad X 0 shC ++ E))) (l' := (zW cy ad shC (tB cy (ad 153) v5 n5 z k5 f5 ++ E) X)) (zpT _ _ _) (List.Sublist.refl _) ?_
  refine t_Vr (As := [.int (nI 32)]) (rest := []) zEn_ge hE.1.1 C (d_appC l D cy (z_rend cy ad X 0 shC ++ E) (ad 153) v5 n5 k5 z f5 32 (by decide) (sb_cat (sb_cat (sb_cat (sb_cat (sb_cat t k (sb_dec a3)) k1 (fun _ => 45)) k2 (sb_dec a4)) k3 (zu zT449)) k4 (sb_dec a1)) hL5 hf5 hkn5 (by omega) k6 n6 e6 g6) zml_RX5_377 zcv_J4_append_cf468 (zRec.of C (ci := 1) (q0 := 0) rfl rfl) rfl rfl ⟨Nat.le_of_ble_eq_true rfl, Nat.le_of_ble_eq_true rfl⟩ rfl rfl (Nat.le_of_ble_eq_true rfl) ⟨by show (n5 / 8 - n / 8) + zmc n5 k6 ≤ n9 / 8 - n / 8; omega, by show (2 * n5 - 2 * n) + zms n5 k6 ≤ 2 * n9 - 2 * n; omega⟩ dX5_appendShow_87 ?_
  intro r w h9
  obtain ⟨rfl, v6, f6, rfl, hL6, hf6⟩ := h9
  refine zG.less (ws' := (zW cy ad shC (tB cy (ad 153) v6 n6 z k6 f6 ++ E) X)) (l' := (tB cy (ad 153) v6 n6 z k6 f6 ++ (z_rend cy ad X 0 shC ++ E))) (zpT _ _ _).symm (List.Sublist.refl _) ?_
  refine zG.wide (k := n6 / 8 - n / 8) (n := 2 * n6 - 2 * n) (by show (n5 / 8 - n / 8) + zmc n5 k6 ≤ _; omega) (by show (2 * n5 - 2 * n) + zms n5 k6 ≤ _; omega) ?_
  refine g_pop C dX5_appendShow_90 rfl ?_
  refine g_aload_n (j := 0) C dX5_appendShow_91 rfl rfl ?_
  refine g_getr (k := 6) (N := 11) C sC_0 rfl zin_RX5 (by decide) rfl zfl_RX5_47 rfl dX5_appendShow_92 ?_
  refine g_aload_n (j := 0) C dX5_appendShow_95 rfl rfl ?_
  refine g_getr (k := 0) (N := 11) C sC_0 rfl zin_RX5 (by decide) rfl zfl_RX5_10 rfl dX5_appendShow_96 ?_
  refine g_getr (k := 3) (N := 8) C sC_1 rfl zin_RX3 (by decide) rfl zfl_RX5_210 rfl dX5_appendShow_99 ?_
  refine g_iload_n (j := 1) C dX5_appendShow_102 rfl rfl ?_
  refine g_iconst (v := (nI 5)) C dX5_appendShow_103 (by decide) ?_
  refine g_vi (ws' := (zW cy ad shC (tB cy (ad 153) v6 n6 z k6 f6 ++ E) X)) (As := [.int vS, .int (nI 5)]) (rest := [.ref (ad 153)]) (res := (f_X4_get X 8 360 vS (nI 5))) C (c_X4_get l D cy ad (tB cy (ad 153) v6 n6 z k6 f6 ++ E) X 8 360 sC_8 sC_9 (by decide) vS (nI 5)) zml_RX5_126 zcv_X4_get (zW_get _ sC_8) rfl rfl rfl ⟨Nat.le_of_ble_eq_true rfl, Nat.le_of_ble_eq_true rfl⟩ rfl rfl (Nat.le_of_ble_eq_true rfl) ⟨by show (n6 / 8 - n / 8) + 0 ≤ n9 / 8 - n / 8; omega, by show (2 * n6 - 2 * n) + 0 ≤ 2 * n9 - 2 * n; omega⟩ dX5_appendShow_104 ?_
  refine p_num (y := (nI a5)) qa5 ?_
  refine zG.less (ws' := (tB cy (ad 153) v6 n6 z k6 f6 ++ (z_rend cy ad X 0 shC ++ E))) (l' := (zW cy ad shC (tB cy (ad 153) v6 n6 z k6 f6 ++ E) X)) (zpT _ _ _) (List.Sublist.refl _) ?_
  refine t_Vr (As := [.int (nI a5)]) (rest := []) zEn_ge hE.1.1 C (d_appI l D cy (z_rend cy ad X 0 shC ++ E) (ad 153) v6 n6 k6 z f6 a5 ha5 (sb_cat (sb_cat (sb_cat (sb_cat (sb_cat (sb_cat t k (sb_dec a3)) k1 (fun _ => 45)) k2 (sb_dec a4)) k3 (zu zT449)) k4 (sb_dec a1)) k5 (fun _ => 32)) hL6 hf6 hkn6 (by omega) k7 n7 e7 g7) zml_RX5_446 zcv_J4_append_bf812 (zRec.of C (ci := 1) (q0 := 0) rfl rfl) rfl rfl ⟨Nat.le_of_ble_eq_true rfl, Nat.le_of_ble_eq_true rfl⟩ rfl rfl (Nat.le_of_ble_eq_true rfl) ⟨by show (n6 / 8 - n / 8) + zmc n6 k7 ≤ n9 / 8 - n / 8; omega, by show (2 * n6 - 2 * n) + zms n6 k7 ≤ 2 * n9 - 2 * n; omega⟩ dX5_appendShow_107 ?_
  intro r w h9
  obtain ⟨rfl, v7, f7, rfl, hL7, hf7⟩ := h9
  refine zG.less (ws' := (zW cy ad shC (tB cy (ad 153) v7 n7 z k7 f7 ++ E) X)) (l' := (tB cy (ad 153) v7 n7 z k7 f7 ++ (z_rend cy ad X 0 shC ++ E))) (zpT _ _ _).symm (List.Sublist.refl _) ?_
  refine zG.wide (k := n7 / 8 - n / 8) (n := 2 * n7 - 2 * n) (by show (n6 / 8 - n / 8) + zmc n6 k7 ≤ _; omega) (by show (2 * n6 - 2 * n) + zms n6 k7 ≤ _; omega) ?_
  refine g_pop C dX5_appendShow_110 rfl ?_
  refine g_aload_n (j := 0) C dX5_appendShow_111 rfl rfl ?_
  refine g_getr (k := 6) (N := 11) C sC_0 rfl zin_RX5 (by decide) rfl zfl_RX5_47 rfl dX5_appendShow_112 ?_
  refine g_bipush (v := (nI 47)) C dX5_appendShow_115 (by decide) ?_
  refine zG.less (ws' := (tB cy (ad 153) v7 n7 z k7 f7 ++ (z_rend cy ad X 0 shC ++ E))) (l' := (zW cy ad shC (tB cy (ad 153) v7 n7 z k7 f7 ++ E) X)) (zpT _ _ _) (List.Sublist.refl _) ?_
  refine t_Vr (As := [.int (nI 47)]) (rest := []) zEn_ge hE.1.1 C (d_appC l D cy (z_rend cy ad X 0 shC ++ E) (ad 153) v7 n7 k7 z f7 47 (by decide) (sb_cat (sb_cat (sb_cat (sb_cat (sb_cat (sb_cat (sb_cat t k (sb_dec a3)) k1 (fun _ => 45)) k2 (sb_dec a4)) k3 (zu zT449)) k4 (sb_dec a1)) k5 (fun _ => 32)) k6 (sb_dec a5)) hL7 hf7 hkn7 (by omega) k8 n8 e8 g8) zml_RX5_377 zcv_J4_append_cf468 (zRec.of C (ci := 1) (q0 := 0) rfl rfl) rfl rfl ⟨Nat.le_of_ble_eq_true rfl, Nat.le_of_ble_eq_true rfl⟩ rfl rfl (Nat.le_of_ble_eq_true rfl) ⟨by show (n7 / 8 - n / 8) + zmc n7 k8 ≤ n9 / 8 - n / 8; omega, by show (2 * n7 - 2 * n) + zms n7 k8 ≤ 2 * n9 - 2 * n; omega⟩ dX5_appendShow_117 ?_
  intro r w h9
  obtain ⟨rfl, v8, f8, rfl, hL8, hf8⟩ := h9
  refine zG.less (ws' := (zW cy ad shC (tB cy (ad 153) v8 n8 z k8 f8 ++ E) X)) (l' := (tB cy (ad 153) v8 n8 z k8 f8 ++ (z_rend cy ad X 0 shC ++ E))) (zpT _ _ _).symm (List.Sublist.refl _) ?_
  refine zG.wide (k := n8 / 8 - n / 8) (n := 2 * n8 - 2 * n) (by show (n7 / 8 - n / 8) + zmc n7 k8 ≤ _; omega) (by show (2 * n7 - 2 * n) + zms n7 k8 ≤ _; omega) ?_
  refine g_pop C dX5_appendShow_120 rfl ?_
  refine g_aload_n (j := 0) C dX5_appendShow_121 rfl rfl ?_
  refine g_getr (k := 6) (N := 11) C sC_0 rfl zin_RX5 (by decide) rfl zfl_RX5_47 rfl dX5_appendShow_122 ?_
  refine g_aload_n (j := 0) C dX5_appendShow_125 rfl rfl ?_
  refine g_getr (k := 0) (N := 11) C sC_0 rfl zin_RX5 (by decide) rfl zfl_RX5_10 rfl dX5_appendShow_126 ?_
  refine g_iload_n (j := 1) C dX5_appendShow_129 rfl rfl ?_
  refine g_vi (ws' := (zW cy ad shC (tB cy (ad 153) v8 n8 z k8 f8 ++ E) X)) (As := [.int vS]) (rest := [.ref (ad 153)]) (res := (f_X3_seatsOf X vS)) C (c_X3_seatsOf l D cy ad (tB cy (ad 153) v8 n8 z k8 f8 ++ E) X vS) zml_RX5_431 zcv_X3_seatsOf (zW_get _ sC_1) rfl rfl rfl ⟨Nat.le_of_ble_eq_true rfl, Nat.le_of_ble_eq_true rfl⟩ rfl rfl (Nat.le_of_ble_eq_true rfl) ⟨by show (n8 / 8 - n / 8) + 0 ≤ n9 / 8 - n / 8; omega, by show (2 * n8 - 2 * n) + 0 ≤ 2 * n9 - 2 * n; omega⟩ dX5_appendShow_130 ?_
  refine p_num (y := (nI a9)) qa9 ?_
  refine zG.less (ws' := (tB cy (ad 153) v8 n8 z k8 f8 ++ (z_rend cy ad X 0 shC ++ E))) (l' := (zW cy ad shC (tB cy (ad 153) v8 n8 z k8 f8 ++ E) X)) (zpT _ _ _) (List.Sublist.refl _) ?_
  refine t_Vr (As := [.int (nI a9)]) (rest := []) zEn_ge hE.1.1 C (d_appI l D cy (z_rend cy ad X 0 shC ++ E) (ad 153) v8 n8 k8 z f8 a9 ha9 (sb_cat (sb_cat (sb_cat (sb_cat (sb_cat (sb_cat (sb_cat (sb_cat t k (sb_dec a3)) k1 (fun _ => 45)) k2 (sb_dec a4)) k3 (zu zT449)) k4 (sb_dec a1)) k5 (fun _ => 32)) k6 (sb_dec a5)) k7 (fun _ => 47)) hL8 hf8 hkn8 (by omega) k9 n9 e9 g9) zml_RX5_446 zcv_J4_append_bf812 (zRec.of C (ci := 1) (q0 := 0) rfl rfl) rfl rfl ⟨Nat.le_of_ble_eq_true rfl, Nat.le_of_ble_eq_true rfl⟩ rfl rfl (Nat.le_of_ble_eq_true rfl) ⟨by show (n8 / 8 - n / 8) + zmc n8 k9 ≤ n9 / 8 - n / 8; omega, by show (2 * n8 - 2 * n) + zms n8 k9 ≤ 2 * n9 - 2 * n; omega⟩ dX5_appendShow_133 ?_
  intro r w h9
  obtain ⟨rfl, v9, f9, rfl, hL9, hf9⟩ := h9
  refine zG.less (ws' := (zW cy ad shC (tB cy (ad 153) v9 n9 z k9 f9 ++ E) X)) (l' := (tB cy (ad 153) v9 n9 z k9 f9 ++ (z_rend cy ad X 0 shC ++ E))) (zpT _ _ _).symm (List.Sublist.refl _) ?_
  refine zG.wide (k := n9 / 8 - n / 8) (n := 2 * n9 - 2 * n) (by show (n8 / 8 - n / 8) + zmc n8 k9 ≤ _; omega) (by show (2 * n8 - 2 * n) + zms n8 k9 ≤ _; omega) ?_
  refine g_pop C dX5_appendShow_136 rfl ?_
  exact t_vret C hr ⟨v9, f9, rfl, hL9, hf9⟩ (Nat.le_refl _) (Nat.le_refl _) dX5_appendShow_137
abbrev zrmy (d mc ms : Nat) : Room := { frames := d + 12, cells := mc, slots := ms, locals := 60 * d + 500 }
def f_X5_written (k : Nat) (f : Nat → Int32) (v1 : Int32) : Nat × Int32 := if v1 < 0 then (3, 0) else if nI k ≤ v1 then (3, 0) else (0, ((f v1.toNatClampNeg &&& (nI 255)).toUInt32 % 65536).toInt32)
set_option maxRecDepth 100000 in
set_option maxHeartbeats 8000000 in
theorem c_X5_written (l : Launch) (hlt : l.stackTraces = false) (D : va_G) (cy : Nat → ClassId) (ad : Nat → Nat) (E : va_W) (X : Nat → Nat → Int32) (v1 : Int32) (v n k : Nat) (z : Int32) (f : Nat → Int32) (hkn : k ≤ n) (hn : n < 2 ^ 31) : zMy l yX5_written cX5_written 2 (some .char) (zrmy 5 1 6) D (zTy cy) zE5 (zW cy ad shC (tB cy (ad 153) v n z k f ++ E) X) [.ref (ad 0), .int v1] 1 6 (fun r w => (f_X5_written k f v1).1 = 0 ∧ r = (f_X5_written k f v1).2 ∧ w = (zW cy ad shC (tB cy (ad 153) v n z k f ++ E) X)) (fun c w => c = (f_X5_written k f v1).1 ∧ w = (zW cy ad shC (tB cy (ad 153) v n z k f ++ E) X)) := by
  refine zMy.of (by decide) (Nat.le_of_ble_eq_true rfl) ?_
  intro p e s m below meth c A C hr hE hout
  refine zG_L (L' := [(0, .ref (ad 0)), (1, .int v1)]) rfl ?_
  refine g_iload_n (j := 1) C dX5_written_0 rfl rfl ?_
  refine g_if_lt C dX5_written_1 (tgt := 15) (by decide) (fun h1 => ?_) (fun h1 => ?_)
  · have hf9 : f_X5_written k f v1 = (3, 0) := if_pos h1
    exact y_throwW 3 ⟨by rw [hf9], rfl⟩ C hE.2.1 (hE.2.2.1 _ (List.mem_of_getElem? (i := 1) rfl)) hlt hout (by decide) ⟨by decide +kernel, by decide +kernel⟩ zcl_119 zini_3 zat_123 zgw_123 dX5_written_15 dX5_written_18 dX5_written_19 dX5_written_22 dX5_written_25 ⟨Nat.le_of_ble_eq_true rfl, Nat.le_of_ble_eq_true rfl⟩ (by show 0 + 1 ≤ 1; omega) (by show 0 + 6 ≤ 6; omega) (by show 0 + 1 ≤ 1; omega) (by show 0 + 6 ≤ 6; omega)
  refine g_iload_n (j := 1) C dX5_written_4 rfl rfl ?_
  refine g_aload_n (j := 0) C dX5_written_5 rfl rfl ?_
  refine g_getr (k := 6) (N := 11) C sC_0 rfl zin_RX5 (by decide) rfl zfl_RX5_47 rfl dX5_written_6 ?_
  refine zG.less (ws' := (tB cy (ad 153) v n z k f ++ (z_rend cy ad X 0 shC ++ E))) (l' := (zW cy ad shC (tB cy (ad 153) v n z k f ++ E) X)) (zpT _ _ _) (List.Sublist.refl _) ?_
  refine t_Vi (As := []) (rest := [.int v1]) zEn_ge hE.1.1 C (c_length l D cy (z_rend cy ad X 0 shC ++ E) (ad 153) v n k z f) zml_RX5_364 zcv_J4_length_8abf5 (zRec.of C (ci := 1) (q0 := 0) rfl rfl) rfl rfl ⟨Nat.le_of_ble_eq_true rfl, Nat.le_of_ble_eq_true rfl⟩ rfl rfl (Nat.le_of_ble_eq_true rfl) ⟨Nat.zero_le _, Nat.zero_le _⟩ dX5_written_9 ?_
  intro r w h9
  obtain ⟨rfl, rfl⟩ := h9
  refine zG.less (ws' := (zW cy ad shC (tB cy (ad 153) v n z k f ++ E) X)) (l' := (tB cy (ad 153) v n z k f ++ (z_rend cy ad X 0 shC ++ E))) (zpT _ _ _).symm (List.Sublist.refl _) ?_
  refine g_icmp_lt C dX5_written_12 (tgt := 26) (by decide) (fun h2 => ?_) (fun h2 => ?_)
  · rcases pk_ix v1 (show k < 2 ^ 31 by omega) with h | h | ⟨i, hi, rfl⟩
    · exact absurd h h1
    · exact absurd h2 (Int32.not_lt.mpr h)
    have hf9 : f_X5_written k f (nI i) = (0, ((f (nI i).toNatClampNeg &&& (nI 255)).toUInt32 % 65536).toInt32) := (if_neg h1).trans (if_neg (Int32.not_le.mpr h2))
    rw [nI_clamp (by omega)] at hf9
    refine g_aload_n (j := 0) C dX5_written_26 rfl rfl ?_
    refine g_getr (k := 6) (N := 11) C sC_0 rfl zin_RX5 (by decide) rfl zfl_RX5_47 rfl dX5_written_27 ?_
    refine g_iload_n (j := 1) C dX5_written_30 rfl rfl ?_
    refine zG.less (ws' := (tB cy (ad 153) v n z k f ++ (z_rend cy ad X 0 shC ++ E))) (l' := (zW cy ad shC (tB cy (ad 153) v n z k f ++ E) X)) (zpT _ _ _) (List.Sublist.refl _) ?_
    refine t_Vi (As := [.int (nI i)]) (rest := []) zEn_ge hE.1.1 C (c_charAt l D cy (z_rend cy ad X 0 shC ++ E) (ad 153) v n k z f i hi hkn hn) zml_RX5_369 zcv_J4_charAt_5068e (zRec.of C (ci := 1) (q0 := 0) rfl rfl) rfl rfl ⟨Nat.le_of_ble_eq_true rfl, Nat.le_of_ble_eq_true rfl⟩ rfl rfl (Nat.le_of_ble_eq_true rfl) ⟨Nat.zero_le _, Nat.zero_le _⟩ dX5_written_31 ?_
    intro r w h9
    obtain ⟨rfl, rfl⟩ := h9
    refine zG.less (ws' := (zW cy ad shC (tB cy (ad 153) v n z k f ++ E) X)) (l' := (tB cy (ad 153) v n z k f ++ (z_rend cy ad X 0 shC ++ E))) (zpT _ _ _).symm (List.Sublist.refl _) ?_
    exact y_xret C hr (pk_nc _) ⟨by rw [hf9], by rw [hf9], rfl⟩ (by show 0 + 0 + 0 ≤ _; omega) (by show 0 + 0 + 0 ≤ _; omega) dX5_written_34
  · have hf9 : f_X5_written k f v1 = (3, 0) := (if_neg h1).trans (if_pos (Int32.not_lt.mp h2))
    exact y_throwW 3 ⟨by rw [hf9], rfl⟩ C hE.2.1 (hE.2.2.1 _ (List.mem_of_getElem? (i := 1) rfl)) hlt hout (by decide) ⟨by decide +kernel, by decide +kernel⟩ zcl_119 zini_3 zat_123 zgw_123 dX5_written_15 dX5_written_18 dX5_written_19 dX5_written_22 dX5_written_25 ⟨Nat.le_of_ble_eq_true rfl, Nat.le_of_ble_eq_true rfl⟩ (by show 0 + 0 + 1 ≤ 1; omega) (by show 0 + 0 + 6 ≤ 6; omega) (by show 0 + 0 + 1 ≤ 1; omega) (by show 0 + 0 + 6 ≤ 6; omega)
set_option maxRecDepth 100000 in
set_option maxHeartbeats 8000000 in
theorem c_X5_append (l : Launch) (hlt : l.stackTraces = false) (D : va_G) (cy : Nat → ClassId) (ad : Nat → Nat) (E : va_W) (X : Nat → Nat → Int32) (c0 : Nat) (hc0 : c0 < 65536) (v n k : Nat) (z : Int32) (f : Nat → Int32) (t : Nat → Nat) (hL : sb_Lat t k f) (hf : sb_Fit f) (hkn : k ≤ n) (hn : n < 2 ^ 20) (hk : k ≤ 60) : zMy l yX5_append cX5_append 2 (some .int) (zrmy 8 1 122) D (zTy cy) zE5 (zW cy ad shC (tB cy (ad 152) v n z k f ++ E) X) [.ref (ad 0), .int (nI c0)] 1 122 (fun r w => ¬ f_X5_isWithin (nI c0) (nI 32) (nI 126) = 0 ∧ k < 60 ∧ r = nI (k + 1) ∧ ∃ v2 f2, w = zW cy ad shC (tB cy (ad 152) v2 (zcp n (k + 1)) z (k + 1) f2 ++ E) X ∧ sb_Lat (sb_cat t k (fun _ => c0)) (k + 1) f2 ∧ sb_Fit f2) (fun c w => w = (zW cy ad shC (tB cy (ad 152) v n z k f ++ E) X) ∧ ((f_X5_isWithin (nI c0) (nI 32) (nI 126) = 0 ∧ c = 1) ∨ (¬ f_X5_isWithin (nI c0) (nI 32) (nI 126) = 0 ∧ 60 ≤ k ∧ c = 2))) := by
  refine zMy.of (by decide) (Nat.le_of_ble_eq_true rfl) ?_
  intro p e s m below meth c A C hr hE hout
  refine zG_L (L' := [(0, .ref (ad 0)), (1, .int (nI c0))]) rfl ?_
  refine g_iload_n (j := 1) C dX5_append_0 rfl rfl ?_
  refine g_bipush (v := (nI 32)) C dX5_append_1 (by decide) ?_
  refine g_bipush (v := (nI 126)) C dX5_append_3 (by decide) ?_
  refine g_si (ws' := (zW cy ad shC (tB cy (ad 152) v n z k f ++ E) X)) (As := [.int (nI c0), .int (nI 32), .int (nI 126)]) (rest := []) (res := (f_X5_isWithin (nI c0) (nI 32) (nI 126))) C (c_X5_isWithin l D cy (zW cy ad shC (tB cy (ad 152) v n z k f ++ E) X) (nI c0) (nI 32) (nI 126)) zml_RX5_64 zcs_X5_isWithin rfl rfl ⟨Nat.le_of_ble_eq_true rfl, Nat.le_of_ble_eq_true rfl⟩ rfl rfl (Nat.le_of_ble_eq_true rfl) ⟨Nat.zero_le _, Nat.zero_le _⟩ dX5_append_5 ?_
  refine g_if_ne C dX5_append_8 (tgt := 22) (by decide) (fun h1 => ?_) (fun h1 => ?_)
  · refine g_aload_n (j := 0) C dX5_append_22 rfl rfl ?_
    refine g_getr (k := 5) (N := 11) C sC_0 rfl zin_RX5 (by decide) rfl zfl_RX5_43 rfl dX5_append_23 ?_
    refine zG.less (ws' := (tB cy (ad 152) v n z k f ++ (z_rend cy ad X 0 shC ++ E))) (l' := (zW cy ad shC (tB cy (ad 152) v n z k f ++ E) X)) (zpT _ _ _) (List.Sublist.refl _) ?_
    refine t_Vi (As := []) (rest := []) zEn_ge hE.1.1 C (c_length l D cy (z_rend cy ad X 0 shC ++ E) (ad 152) v n k z f) zml_RX5_364 zcv_J4_length_8abf5 (zRec.of C (ci := 1) (q0 := 0) rfl rfl) rfl rfl ⟨Nat.le_of_ble_eq_true rfl, Nat.le_of_ble_eq_true rfl⟩ rfl rfl (Nat.le_of_ble_eq_true rfl) ⟨Nat.zero_le _, Nat.zero_le _⟩ dX5_append_26 ?_
    intro r w h9
    obtain ⟨rfl, rfl⟩ := h9
    refine zG.less (ws' := (zW cy ad shC (tB cy (ad 152) v n z k f ++ E) X)) (l' := (tB cy (ad 152) v n z k f ++ (z_rend cy ad X 0 shC ++ E))) (zpT _ _ _).symm (List.Sublist.refl _) ?_
    refine g_bipush (v := (nI 60)) C dX5_append_29 (by decide) ?_
    refine g_icmp_lt C dX5_append_31 (tgt := 45) (by decide) (fun h2 => ?_) (fun h2 => ?_)
    · have hk6 : k < 60 := by rw [nI_ltI (by omega) (by omega)] at h2; exact h2
      have hc1 : c0 < 256 := by
        rcases in_cases (nI c0) (lo := 32) (hi := 126) (by decide) (by decide) with ⟨-, g, -⟩ | ⟨-, g, x, x1, x2, x3⟩
        · exact absurd g h1
        · have := (nI_eq (by omega) (by omega)).mp x3; omega
      have hz : zmc n (k + 1) ≤ 1 ∧ zms n (k + 1) ≤ 122 := by
        unfold zmc zms
        split
        · omega
        · have := zcap_ge (n := n) (m := k + 1) (by omega); omega
      refine g_aload_n (j := 0) C dX5_append_45 rfl rfl ?_
      refine g_getr (k := 5) (N := 11) C sC_0 rfl zin_RX5 (by decide) rfl zfl_RX5_43 rfl dX5_append_46 ?_
      refine g_iload_n (j := 1) C dX5_append_49 rfl rfl ?_
      refine zG.less (ws' := (tB cy (ad 152) v n z k f ++ (z_rend cy ad X 0 shC ++ E))) (l' := (zW cy ad shC (tB cy (ad 152) v n z k f ++ E) X)) (zpT _ _ _) (List.Sublist.refl _) ?_
      refine t_Vr (As := [.int (nI c0)]) (rest := []) zEn_ge hE.1.1 C (c_appC l D cy (z_rend cy ad X 0 shC ++ E) (ad 152) v n k z f c0 (by omega) t hL hf hkn (by omega)) zml_RX5_377 zcv_J4_append_cf468 (zRec.of C (ci := 1) (q0 := 0) rfl rfl) rfl rfl ⟨Nat.le_of_ble_eq_true rfl, Nat.le_of_ble_eq_true rfl⟩ rfl rfl (Nat.le_of_ble_eq_true rfl) ⟨by show 0 + 0 + zmc n (k + 1) ≤ 1; omega, by show 0 + 0 + zms n (k + 1) ≤ 122; omega⟩ dX5_append_50 ?_
      intro r w h9
      obtain ⟨rfl, v2, f2, rfl, hL2, hf2⟩ := h9
      refine zG.less (ws' := (zW cy ad shC (tB cy (ad 152) v2 (zcp n (k + 1)) z (k + 1) f2 ++ E) X)) (l' := (tB cy (ad 152) v2 (zcp n (k + 1)) z (k + 1) f2 ++ (z_rend cy ad X 0 shC ++ E))) (zpT _ _ _).symm (List.Sublist.refl _) ?_
      refine g_pop C dX5_append_53 rfl ?_
      refine g_aload_n (j := 0) C dX5_append_54 rfl rfl ?_
      refine g_getr (k := 5) (N := 11) C sC_0 rfl zin_RX5 (by decide) rfl zfl_RX5_43 rfl dX5_append_55 ?_
      refine zG.less (ws' := (tB cy (ad 152) v2 (zcp n (k + 1)) z (k + 1) f2 ++ (z_rend cy ad X 0 shC ++ E))) (l' := (zW cy ad shC (tB cy (ad 152) v2 (zcp n (k + 1)) z (k + 1) f2 ++ E) X)) (zpT _ _ _) (List.Sublist.refl _) ?_
      refine t_Vi (As := []) (rest := []) zEn_ge hE.1.1 C (c_length l D cy (z_rend cy ad X 0 shC ++ E) (ad 152) v2 (zcp n (k + 1)) (k + 1) z f2) zml_RX5_364 zcv_J4_length_8abf5 (zRec.of C (ci := 1) (q0 := 0) rfl rfl) rfl rfl ⟨Nat.le_of_ble_eq_true rfl, Nat.le_of_ble_eq_true rfl⟩ rfl rfl (Nat.le_of_ble_eq_true rfl) ⟨by show 0 + 0 + zmc n (k + 1) + 0 ≤ 1; omega, by show 0 + 0 + zms n (k + 1) + 0 ≤ 122; omega⟩ dX5_append_58 ?_
      intro r w h9
      obtain ⟨rfl, rfl⟩ := h9
      refine zG.less (ws' := (zW cy ad shC (tB cy (ad 152) v2 (zcp n (k + 1)) z (k + 1) f2 ++ E) X)) (l' := (tB cy (ad 152) v2 (zcp n (k + 1)) z (k + 1) f2 ++ (z_rend cy ad X 0 shC ++ E))) (zpT _ _ _).symm (List.Sublist.refl _) ?_
      exact y_xret C hr rfl ⟨h1, hk6, rfl, v2, f2, rfl, hL2, hf2⟩ (by show 0 + 0 + zmc n (k + 1) + 0 ≤ 1; omega) (by show 0 + 0 + zms n (k + 1) + 0 ≤ 122; omega) dX5_append_61
    · have hk6 : 60 ≤ k := by rw [nI_ltI (by omega) (by omega)] at h2; omega
      exact y_throwW 2 ⟨rfl, Or.inr ⟨h1, hk6, rfl⟩⟩ C hE.2.1 (hE.2.2.1 _ (List.mem_of_getElem? (i := 3) rfl)) hlt hout (by decide) ⟨by decide +kernel, by decide +kernel⟩ zcl_85 zini_2 zat_89 zgw_89 dX5_append_34 dX5_append_37 dX5_append_38 dX5_append_41 dX5_append_44 ⟨Nat.le_of_ble_eq_true rfl, Nat.le_of_ble_eq_true rfl⟩ (by show 0 + 0 + 0 + 1 ≤ 1; omega) (by show 0 + 0 + 0 + 6 ≤ 122; omega) (by show 0 + 0 + 0 + 1 ≤ 1; omega) (by show 0 + 0 + 0 + 6 ≤ 122; omega)
  · exact y_throwW 1 ⟨rfl, Or.inl ⟨h1, rfl⟩⟩ C hE.2.1 (hE.2.2.1 _ (List.mem_of_getElem? (i := 2) rfl)) hlt hout (by decide) ⟨by decide +kernel, by decide +kernel⟩ zcl_68 zini_1 zat_72 zgw_72 dX5_append_11 dX5_append_14 dX5_append_15 dX5_append_18 dX5_append_21 ⟨Nat.le_of_ble_eq_true rfl, Nat.le_of_ble_eq_true rfl⟩ (by show 0 + 0 + 1 ≤ 1; omega) (by show 0 + 0 + 6 ≤ 122; omega) (by show 0 + 0 + 1 ≤ 1; omega) (by show 0 + 0 + 6 ≤ 122; omega)
