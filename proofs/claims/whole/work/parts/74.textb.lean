/-! APPENDING (laid by wip/whole/mktext.py) -/
theorem zcp_lt {n m : Nat} : zcp n m ≤ 2 * n + 2 + m := by
  unfold zcp
  split
  · omega
  · have := zcap_ge (n := n) (m := m) (by omega); omega
theorem zLat_up {t : Nat → Nat} {k c : Nat} {f f2 : Nat → Int32} (hL : sb_Lat t k f) (hk : ∀ j, j < k → f2 j = f j) (hc : c < 256) : sb_Lat (sb_cat t k (fun _ => c)) (k + 1) (upd f2 k (vp_nar .byte (nI c).toInt8.toInt32)) := by
  refine sb_latPut hL (fun j hj => by rw [pk_un (by omega)]; exact hk j hj) (fun i hi => ?_)
  obtain rfl : i = 0 := by omega
  exact ⟨hc, by rw [Nat.add_zero, pk_us, pk_vb]; rfl⟩
set_option maxRecDepth 100000 in
set_option maxHeartbeats 4000000 in
theorem c_appC5 (l : Launch) (D : va_G) (cy : Nat → ClassId) (E : va_W) (q v n k : Nat) (z : Int32) (f : Nat → Int32) (c0 : Nat) (hc : c0 < 256) (t : Nat → Nat) (hL : sb_Lat t k f) (hf : sb_Fit f) (hkn : k ≤ n) (hn : n < 2 ^ 26) : zMt l yJ5_append_3fe6f cJ5_append_3fe6f 2 (some (.object "java/lang/AbstractStringBuilder")) (zrt 5 (zmc n (k + 1)) (zms n (k + 1))) D (zTy cy) zEn (tB cy q v n z k f ++ E) [.ref q, .int (nI c0)] (zmc n (k + 1)) (zms n (k + 1)) (tR D (zTy cy) (fun a w => a = q ∧ ∃ v2 f2, w = tB cy q v2 (zcp n (k + 1)) z (k + 1) f2 ++ E ∧ sb_Lat (sb_cat t k (fun _ => c0)) (k + 1) f2 ∧ sb_Fit f2)) := by
  refine zMt.of (by decide) (Nat.le_of_ble_eq_true rfl) ?_
  intro p e s m below meth c A C hr hE
  refine zG_L (L' := [(0, .ref q), (1, .int (nI c0))]) rfl ?_
  refine g_aload_n (j := 0) C dJ5_append_3fe6f_0 rfl rfl ?_
  refine g_aload_n (j := 0) C dJ5_append_3fe6f_1 rfl rfl ?_
  refine p_get (q0 := 0) (k := 3) (ci := 1) (N := 4) (v := .int (nI k)) C rfl rfl zin_RJ4 (by decide) zfj_RJ5_79 rfl dJ5_append_3fe6f_2 ?_
  refine g_iconst (v := (nI 1)) C dJ5_append_3fe6f_5 (by decide) ?_
  refine g_iadd C dJ5_append_3fe6f_6 ?_
  refine p_num (y := (nI (k + 1))) (nI_add _ _) ?_
  refine t_Uv (As := [.int (nI (k + 1))]) (rest := []) zEn_ge hE C (c_ens l D cy E q v n k z f (k + 1) hf hn (by omega)) zcu_RJ5_100 (zselE hE.2.2.2.2 (List.mem_of_getElem? (i := 0) rfl) _) (zRec.of C (ci := 1) (q0 := 0) rfl rfl) rfl rfl ⟨Nat.le_of_ble_eq_true rfl, Nat.le_of_ble_eq_true rfl⟩ rfl rfl (Nat.le_of_ble_eq_true rfl) ⟨by show 0 + zmc n (k + 1) ≤ zmc n (k + 1); omega, by show 0 + zms n (k + 1) ≤ zms n (k + 1); omega⟩ dJ5_append_3fe6f_7 ?_
  intro w h
  obtain ⟨v2, f2, rfl, hk2, hf2⟩ := h
  refine g_aload_n (j := 0) C dJ5_append_3fe6f_10 rfl rfl ?_
  refine t_Ui (As := []) (rest := []) zEn_ge hE C (c_isLatin1 l D cy E q v2 (zcp n (k + 1)) k z f2) zcu_RJ5_83 (C.2.2.2.2.1 _ zsel4) (zRec.of C (ci := 1) (q0 := 0) rfl rfl) rfl rfl ⟨Nat.le_of_ble_eq_true rfl, Nat.le_of_ble_eq_true rfl⟩ rfl rfl (Nat.le_of_ble_eq_true rfl) ⟨by show 0 + zmc n (k + 1) + 0 ≤ zmc n (k + 1); omega, by show 0 + zms n (k + 1) + 0 ≤ zms n (k + 1); omega⟩ dJ5_append_3fe6f_11 ?_
  intro r w h
  obtain ⟨rfl, rfl⟩ := h
  refine g_if_eq C dJ5_append_3fe6f_14 (tgt := 45) (by decide) (fun h9 => absurd h9 (by decide)) (fun _ => ?_)
  refine g_iload_n (j := 1) C dJ5_append_3fe6f_17 rfl rfl ?_
  refine t_Si (As := [.int (nI c0)]) (rest := []) zEn_ge hE C (c_canEncode l D cy (tB cy q v2 (zcp n (k + 1)) z k f2 ++ E) (nI c0) (nI_nlt (by omega) (by omega))) zml_RJ5_191 zcs_J1_canEncode_fc78d rfl rfl ⟨Nat.le_of_ble_eq_true rfl, Nat.le_of_ble_eq_true rfl⟩ rfl rfl (Nat.le_of_ble_eq_true rfl) ⟨by show 0 + zmc n (k + 1) + 0 + 0 ≤ zmc n (k + 1); omega, by show 0 + zms n (k + 1) + 0 + 0 ≤ zms n (k + 1); omega⟩ dJ5_append_3fe6f_18 ?_
  intro r w h
  obtain ⟨rfl, rfl⟩ := h
  refine g_if_eq C dJ5_append_3fe6f_21 (tgt := 45) (by decide) (fun h9 => absurd h9 (by decide)) (fun _ => ?_)
  refine g_aload_n (j := 0) C dJ5_append_3fe6f_24 rfl rfl ?_
  refine p_get (q0 := 0) (k := 0) (ci := 1) (N := 4) (v := .ref v2) C rfl rfl zin_RJ4 (by decide) zfj_RJ5_15 rfl dJ5_append_3fe6f_25 ?_
  refine g_aload_n (j := 0) C dJ5_append_3fe6f_28 rfl rfl ?_
  refine g_dup C dJ5_append_3fe6f_29 rfl ?_
  refine p_get (q0 := 0) (k := 3) (ci := 1) (N := 4) (v := .int (nI k)) C rfl rfl zin_RJ4 (by decide) zfj_RJ5_79 rfl dJ5_append_3fe6f_30 ?_
  refine p_dup_x1 C dJ5_append_3fe6f_33 rfl rfl ?_
  refine g_iconst (v := (nI 1)) C dJ5_append_3fe6f_34 (by decide) ?_
  refine g_iadd C dJ5_append_3fe6f_35 ?_
  refine p_num (y := (nI (k + 1))) (nI_add _ _) ?_
  refine p_put (q0 := 0) (k := 3) (ci := 1) (N := 4) (ty := .int) (v := .int (nI (k + 1))) (ws' := (tB cy q v2 (zcp n (k + 1)) z (k + 1) f2 ++ E)) C rfl rfl zin_RJ4 (by decide) zfj_RJ5_79 tyJ4_ok nmJ4 rfl (by decide +kernel) rfl rfl (Nat.le_of_ble_eq_true rfl) rfl dJ5_append_3fe6f_36 ?_
  refine g_iload_n (j := 1) C dJ5_append_3fe6f_39 rfl rfl ?_
  refine p_i2b C dJ5_append_3fe6f_40 rfl ?_
  refine p_bast (q0 := 1) (ws' := (tB cy q v2 (zcp n (k + 1)) z (k + 1) (upd f2 (nI k).toNatClampNeg (vp_nar .byte (nI c0).toInt8.toInt32)) ++ E)) C rfl (vp_in_nI (by have := (zcp_ge n (k + 1)).1; omega) (by have := zcp_lt (n := n) (m := k + 1); omega)) rfl dJ5_append_3fe6f_41 ?_
  refine g_goto C dJ5_append_3fe6f_42 (tgt := 75) (by decide) ?_
  refine g_aload_n (j := 0) C dJ5_append_3fe6f_75 rfl rfl ?_
  exact t_aret C hr (Or.inl ⟨_, rfl⟩) ⟨rfl, v2, _, rfl, by rw [nI_clamp (by omega)]; exact zLat_up hL (fun j hj => hk2 j (by omega)) hc, sb_fitU hf2 (by rw [pk_vb]; exact pk_fb _)⟩ (by show 0 + _ + 0 + 0 ≤ _; omega) (by show 0 + _ + 0 + 0 ≤ _; omega) dJ5_append_3fe6f_76
set_option maxRecDepth 100000 in
set_option maxHeartbeats 4000000 in
theorem c_appC (l : Launch) (D : va_G) (cy : Nat → ClassId) (E : va_W) (q v n k : Nat) (z : Int32) (f : Nat → Int32) (c0 : Nat) (hc : c0 < 256) (t : Nat → Nat) (hL : sb_Lat t k f) (hf : sb_Fit f) (hkn : k ≤ n) (hn : n < 2 ^ 26) : zMt l yJ4_append_cf468 cJ4_append_cf468 2 (some (.object "java/lang/StringBuilder")) (zrt 6 (zmc n (k + 1)) (zms n (k + 1))) D (zTy cy) zEn (tB cy q v n z k f ++ E) [.ref q, .int (nI c0)] (zmc n (k + 1)) (zms n (k + 1)) (tR D (zTy cy) (fun a w => a = q ∧ ∃ v2 f2, w = tB cy q v2 (zcp n (k + 1)) z (k + 1) f2 ++ E ∧ sb_Lat (sb_cat t k (fun _ => c0)) (k + 1) f2 ∧ sb_Fit f2)) := by
  refine zMt.of (by decide) (Nat.le_of_ble_eq_true rfl) ?_
  intro p e s m below meth c A C hr hE
  refine zG_L (L' := [(0, .ref q), (1, .int (nI c0))]) rfl ?_
  refine g_aload_n (j := 0) C dJ4_append_cf468_0 rfl rfl ?_
  refine g_iload_n (j := 1) C dJ4_append_cf468_1 rfl rfl ?_
  refine t_SUr (As := [.int (nI c0)]) (rest := []) zEn_ge hE C (c_appC5 l D cy E q v n k z f c0 hc t hL hf hkn hn) (zAt C (ci := 1) rfl) zcsu_RJ4_50 (zRec.of C (ci := 1) (q0 := 0) rfl rfl) rfl rfl ⟨Nat.le_of_ble_eq_true rfl, Nat.le_of_ble_eq_true rfl⟩ rfl rfl (Nat.le_of_ble_eq_true rfl) ⟨by show 0 + zmc n (k + 1) ≤ zmc n (k + 1); omega, by show 0 + zms n (k + 1) ≤ zms n (k + 1); omega⟩ dJ4_append_cf468_2 ?_
  intro r w h
  obtain ⟨rfl, h⟩ := h
  refine g_pop C dJ4_append_cf468_5 rfl ?_
  refine g_aload_n (j := 0) C dJ4_append_cf468_6 rfl rfl ?_
  exact t_aret C hr (Or.inl ⟨_, rfl⟩) ⟨rfl, h⟩ (by show 0 + _ ≤ _; omega) (by show 0 + _ ≤ _; omega) dJ4_append_cf468_7
set_option maxRecDepth 100000 in
set_option maxHeartbeats 4000000 in
theorem c_coder (l : Launch) (D : va_G) (cy : Nat → ClassId) (ws : va_W) (a0 : Nat) (ls : List Int32) : zMt l yJ0_coder_7d493 cJ0_coder_7d493 1 (some .byte) (zrt 1 0 0) D (zTy cy) (zES a0 ls) ws [.ref a0] 0 0 (tI D (zTy cy) (fun r w => r = 0 ∧ w = ws)) := by
  refine zMt.of (by decide) (Nat.le_of_ble_eq_true rfl) ?_
  intro p e s m below meth c A C hr hE
  obtain ⟨vv, hS0⟩ := hE.2
  obtain ⟨s1, s2, s3, s4⟩ := hS0.1 0 (by decide)
  refine zG_L (L' := [(0, .ref a0)]) rfl ?_
  refine p_gets (v := .int (1 : Int32)) C hE.1.1 zfs_RJ0_38 dJ0_coder_7d493_0 ?_
  refine g_if_eq C dJ0_coder_7d493_3 (tgt := 13) (by decide) (fun h9 => absurd h9 (by decide)) (fun _ => ?_)
  refine g_aload_n (j := 0) C dJ0_coder_7d493_6 rfl rfl ?_
  refine p_getf (v := .int (0 : Int32)) C s2 zfs_RJ0_15 dJ0_coder_7d493_7 ?_
  refine g_goto C dJ0_coder_7d493_10 (tgt := 14) (by decide) ?_
  exact t_iret C hr rfl ⟨rfl, rfl⟩ (Nat.le_refl _) (Nat.le_refl _) dJ0_coder_7d493_14
set_option maxRecDepth 100000 in
set_option maxHeartbeats 4000000 in
theorem c_strLen (l : Launch) (D : va_G) (cy : Nat → ClassId) (ws : va_W) (a0 : Nat) (ls : List Int32) : zMt l yJ0_length_8abf5 cJ0_length_8abf5 1 (some .int) (zrt 2 0 0) D (zTy cy) (zES a0 ls) ws [.ref a0] 0 0 (tI D (zTy cy) (fun r w => r = nI ls.length ∧ w = ws)) := by
  refine zMt.of (by decide) (Nat.le_of_ble_eq_true rfl) ?_
  intro p e s m below meth c A C hr hE
  obtain ⟨vv, hS0⟩ := hE.2
  obtain ⟨s1, s2, s3, s4⟩ := hS0.1 0 (by decide)
  refine zG_L (L' := [(0, .ref a0)]) rfl ?_
  refine g_aload_n (j := 0) C dJ0_length_8abf5_0 rfl rfl ?_
  refine p_getf (v := .ref vv) C s3 zfs_RJ0_9 dJ0_length_8abf5_1 ?_
  refine p_tlen (N := ls.length) C s4 dJ0_length_8abf5_4 ?_
  refine g_aload_n (j := 0) C dJ0_length_8abf5_5 rfl rfl ?_
  refine t_Vi (As := []) (rest := [.int (nI ls.length)]) (zES_ge a0 ls) hE C (c_coder l D cy ws a0 ls) zml_RJ0_335 zcv_J0_coder_7d493 (zrec_S hE.2) rfl rfl ⟨Nat.le_of_ble_eq_true rfl, Nat.le_of_ble_eq_true rfl⟩ rfl rfl (Nat.le_of_ble_eq_true rfl) ⟨Nat.zero_le _, Nat.zero_le _⟩ dJ0_length_8abf5_6 ?_
  intro r w h
  obtain ⟨rfl, rfl⟩ := h
  refine g_ishr C dJ0_length_8abf5_9 ?_
  refine p_num (y := (nI ls.length)) (sb_shr0 _) ?_
  exact t_iret C hr rfl ⟨rfl, rfl⟩ (Nat.le_refl _) (Nat.le_refl _) dJ0_length_8abf5_10
set_option maxRecDepth 100000 in
set_option maxHeartbeats 4000000 in
theorem c_strLat (l : Launch) (D : va_G) (cy : Nat → ClassId) (ws : va_W) (a0 : Nat) (ls : List Int32) : zMt l yJ0_isLatin1_aae02 cJ0_isLatin1_aae02 1 (some .boolean) (zrt 1 0 0) D (zTy cy) (zES a0 ls) ws [.ref a0] 0 0 (tI D (zTy cy) (fun r w => r = nI 1 ∧ w = ws)) := by
  refine zMt.of (by decide) (Nat.le_of_ble_eq_true rfl) ?_
  intro p e s m below meth c A C hr hE
  obtain ⟨vv, hS0⟩ := hE.2
  obtain ⟨s1, s2, s3, s4⟩ := hS0.1 0 (by decide)
  refine zG_L (L' := [(0, .ref a0)]) rfl ?_
  refine p_gets (v := .int (1 : Int32)) C hE.1.1 zfs_RJ0_38 dJ0_isLatin1_aae02_0 ?_
  refine g_if_eq C dJ0_isLatin1_aae02_3 (tgt := 17) (by decide) (fun h9 => absurd h9 (by decide)) (fun _ => ?_)
  refine g_aload_n (j := 0) C dJ0_isLatin1_aae02_6 rfl rfl ?_
  refine p_getf (v := .int (0 : Int32)) C s2 zfs_RJ0_15 dJ0_isLatin1_aae02_7 ?_
  refine g_if_ne C dJ0_isLatin1_aae02_10 (tgt := 17) (by decide) (fun h9 => absurd rfl h9) (fun _ => ?_)
  refine g_iconst (v := (nI 1)) C dJ0_isLatin1_aae02_13 (by decide) ?_
  refine g_goto C dJ0_isLatin1_aae02_14 (tgt := 18) (by decide) ?_
  exact t_iret C hr rfl ⟨rfl, rfl⟩ (Nat.le_refl _) (Nat.le_refl _) dJ0_isLatin1_aae02_18
def zTb (t N : Nat) (f : Nat → Value) : zEV := fun A U H => va_T .byte t N f A U H
theorem zTb_ge (t N : Nat) (f : Nat → Value) : zGE (zTb t N f) := ⟨fun A s U H hW h => va_T.moved hW.alike h, fun A U H H1 h hq => h.kept hq, fun A B U H h hq => h.narrow hq, fun A u U H hv h => va_T.moved (by rw [hv]; exact Vm.Alike.refl _) h⟩
set_option maxRecDepth 100000 in
set_option maxHeartbeats 4000000 in
theorem c_lat1At (l : Launch) (D : va_G) (cy : Nat → ClassId) (ws : va_W) (t N i : Nat) (ls : List Int32) (hi : i < N) (hN : N < 2 ^ 31) : zMt l yJ1_charAt_3b067 cJ1_charAt_3b067 2 (some .char) (zrt 3 0 0) D (zTy cy) (fun A U H => zEn A U H ∧ zTb t N (fun j => .int (ls.getD j 0)) A U H) ws [.ref t, .int (nI i)] 0 0 (tI D (zTy cy) (fun r w => r = ((ls.getD i 0 &&& (nI 255)).toUInt32 % 65536).toInt32 ∧ w = ws)) := by
  refine zMt.of (by decide) (Nat.le_of_ble_eq_true rfl) ?_
  intro p e s m below meth c A C hr hE
  refine zG_L (L' := [(0, .ref t), (1, .int (nI i))]) rfl ?_
  refine g_iload_n (j := 1) C dJ1_charAt_3b067_0 rfl rfl ?_
  refine g_aload_n (j := 0) C dJ1_charAt_3b067_1 rfl rfl ?_
  refine p_tlen (N := N) C hE.2 dJ1_charAt_3b067_2 ?_
  refine t_Sv (As := [.int (nI i), .int (nI N)]) (rest := []) zEn_ge hE.1 C (c_check0 l D cy ws i N hi hN) zml_RJ1_9 zcs_J0_checkIndex_df160 rfl rfl ⟨Nat.le_of_ble_eq_true rfl, Nat.le_of_ble_eq_true rfl⟩ rfl rfl (Nat.le_of_ble_eq_true rfl) ⟨Nat.zero_le _, Nat.zero_le _⟩ dJ1_charAt_3b067_3 ?_
  intro w h
  subst h
  refine g_aload_n (j := 0) C dJ1_charAt_3b067_6 rfl rfl ?_
  refine g_iload_n (j := 1) C dJ1_charAt_3b067_7 rfl rfl ?_
  refine p_tb (v := .int (ls.getD i 0)) C hE.2 (vp_in_nI hi hN) (by rw [nI_clamp (by omega)]) dJ1_charAt_3b067_8 ?_
  refine g_sipush (v := (nI 255)) C dJ1_charAt_3b067_9 (by decide) ?_
  refine g_iand C dJ1_charAt_3b067_12 ?_
  refine g_i2c C dJ1_charAt_3b067_13 rfl ?_
  exact t_iret C hr (pk_nc _) ⟨rfl, rfl⟩ (Nat.le_refl _) (Nat.le_refl _) dJ1_charAt_3b067_14
set_option maxRecDepth 100000 in
set_option maxHeartbeats 4000000 in
theorem c_strAt (l : Launch) (D : va_G) (cy : Nat → ClassId) (ws : va_W) (a0 : Nat) (ls : List Int32) (i : Nat) (hi : i < ls.length) (hN : ls.length < 2 ^ 31) : zMt l yJ0_charAt_5068e cJ0_charAt_5068e 2 (some .char) (zrt 4 0 0) D (zTy cy) (zES a0 ls) ws [.ref a0, .int (nI i)] 0 0 (tI D (zTy cy) (fun r w => r = ((ls.getD i 0 &&& (nI 255)).toUInt32 % 65536).toInt32 ∧ w = ws)) := by
  refine zMt.of (by decide) (Nat.le_of_ble_eq_true rfl) ?_
  intro p e s m below meth c A C hr hE
  obtain ⟨vv, hS0⟩ := hE.2
  obtain ⟨s1, s2, s3, s4⟩ := hS0.1 0 (by decide)
  refine zG_L (L' := [(0, .ref a0), (1, .int (nI i))]) rfl ?_
  refine g_aload_n (j := 0) C dJ0_charAt_5068e_0 rfl rfl ?_
  refine t_Vi (As := []) (rest := []) (zES_ge a0 ls) hE C (c_strLat l D cy ws a0 ls) zml_RJ0_492 zcv_J0_isLatin1_aae02 (zrec_S hE.2) rfl rfl ⟨Nat.le_of_ble_eq_true rfl, Nat.le_of_ble_eq_true rfl⟩ rfl rfl (Nat.le_of_ble_eq_true rfl) ⟨Nat.zero_le _, Nat.zero_le _⟩ dJ0_charAt_5068e_1 ?_
  intro r w h
  obtain ⟨rfl, h⟩ := h
  subst w
  refine g_if_eq C dJ0_charAt_5068e_4 (tgt := 16) (by decide) (fun h9 => absurd h9 (by decide)) (fun _ => ?_)
  refine g_aload_n (j := 0) C dJ0_charAt_5068e_7 rfl rfl ?_
  refine p_getf (v := .ref vv) C s3 zfs_RJ0_9 dJ0_charAt_5068e_8 ?_
  refine g_iload_n (j := 1) C dJ0_charAt_5068e_11 rfl rfl ?_
  refine t_Si (As := [.ref vv, .int (nI i)]) (rest := []) (zEn_ge.and (zTb_ge _ _ _)) ⟨hE.1, s4⟩ C (c_lat1At l D cy ws vv ls.length i ls hi hN) zml_RJ0_495 zcs_J1_charAt_3b067 rfl rfl ⟨Nat.le_of_ble_eq_true rfl, Nat.le_of_ble_eq_true rfl⟩ rfl rfl (Nat.le_of_ble_eq_true rfl) ⟨Nat.zero_le _, Nat.zero_le _⟩ dJ0_charAt_5068e_12 ?_
  intro r w h
  obtain ⟨rfl, rfl⟩ := h
  exact t_iret C hr (pk_nc _) ⟨rfl, rfl⟩ (Nat.le_refl _) (Nat.le_refl _) dJ0_charAt_5068e_15
theorem zfitD {ls : List Int32} (h : ∀ b ∈ ls, fits .byte (.int b) = true) (j : Nat) : fits .byte (.int (ls.getD j 0)) = true := by
  show fits .byte (.int ((ls[j]?).getD 0)) = true
  cases e : ls[j]? with
  | none => rfl
  | some b => exact h b (List.mem_of_getElem? e)
set_option maxRecDepth 100000 in
set_option maxHeartbeats 4000000 in
theorem c_getBytes (l : Launch) (D : va_G) (cy : Nat → ClassId) (E : va_W) (q v n k : Nat) (z : Int32) (f : Nat → Int32) (a0 : Nat) (ls : List Int32) (hls : ls.length < 2 ^ 25) (hbl : ∀ b ∈ ls, fits .byte (.int b) = true) (hkl : k + ls.length ≤ n) (hn : n < 2 ^ 30) : zMt l yJ0_getBytes_840e7 cJ0_getBytes_840e7 4 none (zrt 2 0 0) D (zTy cy) (zES a0 ls) (tB cy q v n z k f ++ E) [.ref a0, .ref v, .int (nI k), .int (0 : Int32)] 0 0 (tV D (zTy cy) (fun w => w = tB cy q v n z k (va_cpy (fun j => ls.getD j 0) f 0 k ls.length) ++ E)) := by
  refine zMt.of (by decide) (Nat.le_of_ble_eq_true rfl) ?_
  intro p e s m below meth c A C hr hE
  obtain ⟨vv, hS0⟩ := hE.2
  obtain ⟨s1, s2, s3, s4⟩ := hS0.1 0 (by decide)
  refine zG_L (L' := [(0, .ref a0), (1, .ref v), (2, .int (nI k)), (3, .int (0 : Int32))]) rfl ?_
  refine g_aload_n (j := 0) C dJ0_getBytes_840e7_0 rfl rfl ?_
  refine t_Vi (As := []) (rest := []) (zES_ge a0 ls) hE C (c_coder l D cy (tB cy q v n z k f ++ E) a0 ls) zml_RJ0_335 zcv_J0_coder_7d493 (zrec_S hE.2) rfl rfl ⟨Nat.le_of_ble_eq_true rfl, Nat.le_of_ble_eq_true rfl⟩ rfl rfl (Nat.le_of_ble_eq_true rfl) ⟨Nat.zero_le _, Nat.zero_le _⟩ dJ0_getBytes_840e7_1 ?_
  intro r w h
  obtain ⟨rfl, rfl⟩ := h
  refine g_iload_n (j := 3) C dJ0_getBytes_840e7_4 rfl rfl ?_
  refine g_icmp_ne C dJ0_getBytes_840e7_5 (tgt := 28) (by decide) (fun h9 => absurd rfl h9) (fun _ => ?_)
  refine g_aload_n (j := 0) C dJ0_getBytes_840e7_8 rfl rfl ?_
  refine p_getf (v := .ref vv) C s3 zfs_RJ0_9 dJ0_getBytes_840e7_9 ?_
  refine g_iconst (v := (nI 0)) C dJ0_getBytes_840e7_12 (by decide) ?_
  refine g_aload_n (j := 1) C dJ0_getBytes_840e7_13 rfl rfl ?_
  refine g_iload_n (j := 2) C dJ0_getBytes_840e7_14 rfl rfl ?_
  refine g_iload_n (j := 3) C dJ0_getBytes_840e7_15 rfl rfl ?_
  refine g_ishl C dJ0_getBytes_840e7_16 ?_
  refine p_num (y := (nI k)) (sb_shl0 _) ?_
  refine g_aload_n (j := 0) C dJ0_getBytes_840e7_17 rfl rfl ?_
  refine p_getf (v := .ref vv) C s3 zfs_RJ0_9 dJ0_getBytes_840e7_18 ?_
  refine p_tlen (N := ls.length) C s4 dJ0_getBytes_840e7_21 ?_
  refine p_copyt (q1 := 1) (n1 := n) (f := fun j => ls.getD j 0) (ws' := tB cy q v n z k (va_cpy (fun j => ls.getD j 0) f 0 k ls.length) ++ E) C s4 rfl zml_RJ0_212 (by decide) (nI_pos (by omega)) (nI_pos (by omega)) (by rw [nI_clamp (n := ls.length) (by omega)]; exact Nat.le_of_eq (Nat.zero_add _)) (by rw [nI_clamp (n := ls.length) (by omega), nI_clamp (n := k) (by omega)]; omega) (fun i _ => zfitD hbl _) (Nat.le_of_ble_eq_true rfl) (Nat.le_of_ble_eq_true rfl) (by rw [nI_clamp (n := ls.length) (by omega), nI_clamp (n := k) (by omega)]; rfl) dJ0_getBytes_840e7_22 ?_
  refine g_goto C dJ0_getBytes_840e7_25 (tgt := 43) (by decide) ?_
  exact t_vret C hr rfl (Nat.le_refl _) (Nat.le_refl _) dJ0_getBytes_840e7_43
set_option maxRecDepth 100000 in
set_option maxHeartbeats 4000000 in
theorem c_inflIf (l : Launch) (D : va_G) (cy : Nat → ClassId) (E : va_W) (q v n k : Nat) (z : Int32) (f : Nat → Int32) (a0 : Nat) (ls : List Int32) : zMt l yJ5_inflateIfNeededFor_a7421 cJ5_inflateIfNeededFor_a7421 2 none (zrt 2 0 0) D (zTy cy) (zES a0 ls) (tB cy q v n z k f ++ E) [.ref q, .ref a0] 0 0 (tV D (zTy cy) (fun w => w = (tB cy q v n z k f ++ E))) := by
  refine zMt.of (by decide) (Nat.le_of_ble_eq_true rfl) ?_
  intro p e s m below meth c A C hr hE
  refine zG_L (L' := [(0, .ref q), (1, .ref a0)]) rfl ?_
  refine p_gets (v := .int (1 : Int32)) C hE.1.1 zfs_RJ5_18 dJ5_inflateIfNeededFor_a7421_0 ?_
  refine g_if_eq C dJ5_inflateIfNeededFor_a7421_3 (tgt := 21) (by decide) (fun h9 => absurd h9 (by decide)) (fun _ => ?_)
  refine g_aload_n (j := 0) C dJ5_inflateIfNeededFor_a7421_6 rfl rfl ?_
  refine p_get (q0 := 0) (k := 1) (ci := 1) (N := 4) (v := .int (0 : Int32)) C rfl rfl zin_RJ4 (by decide) zfj_RJ5_22 rfl dJ5_inflateIfNeededFor_a7421_7 ?_
  refine g_aload_n (j := 1) C dJ5_inflateIfNeededFor_a7421_10 rfl rfl ?_
  refine t_Vi (As := []) (rest := [.int (0 : Int32)]) (zES_ge a0 ls) hE C (c_coder l D cy (tB cy q v n z k f ++ E) a0 ls) zml_RJ5_40 zcv_J0_coder_7d493 (zrec_S hE.2) rfl rfl ⟨Nat.le_of_ble_eq_true rfl, Nat.le_of_ble_eq_true rfl⟩ rfl rfl (Nat.le_of_ble_eq_true rfl) ⟨Nat.zero_le _, Nat.zero_le _⟩ dJ5_inflateIfNeededFor_a7421_11 ?_
  intro r w h
  obtain ⟨rfl, rfl⟩ := h
  refine g_icmp_eq C dJ5_inflateIfNeededFor_a7421_14 (tgt := 21) (by decide) (fun _ => ?_) (fun h9 => absurd rfl h9)
  exact t_vret C hr rfl (Nat.le_refl _) (Nat.le_refl _) dJ5_inflateIfNeededFor_a7421_21
set_option maxRecDepth 100000 in
set_option maxHeartbeats 4000000 in
theorem c_putStr (l : Launch) (D : va_G) (cy : Nat → ClassId) (E : va_W) (q v n k : Nat) (z : Int32) (f : Nat → Int32) (a0 : Nat) (ls : List Int32) (hls : ls.length < 2 ^ 25) (hbl : ∀ b ∈ ls, fits .byte (.int b) = true) (hkl : k + ls.length ≤ n) (hn : n < 2 ^ 30) : zMt l yJ5_putStringAt_47b60 cJ5_putStringAt_47b60 3 none (zrt 3 0 0) D (zTy cy) (zES a0 ls) (tB cy q v n z k f ++ E) [.ref q, .int (nI k), .ref a0] 0 0 (tV D (zTy cy) (fun w => w = tB cy q v n z k (va_cpy (fun j => ls.getD j 0) f 0 k ls.length) ++ E)) := by
  refine zMt.of (by decide) (Nat.le_of_ble_eq_true rfl) ?_
  intro p e s m below meth c A C hr hE
  refine zG_L (L' := [(0, .ref q), (1, .int (nI k)), (2, .ref a0)]) rfl ?_
  refine g_aload_n (j := 0) C dJ5_putStringAt_47b60_0 rfl rfl ?_
  refine g_aload_n (j := 2) C dJ5_putStringAt_47b60_1 rfl rfl ?_
  refine t_Uv (As := [.ref a0]) (rest := []) (zES_ge a0 ls) hE C (c_inflIf l D cy E q v n k z f a0 ls) zcu_RJ5_397 (zselE hE.1.2.2.2.2 (List.mem_of_getElem? (i := 2) rfl) _) (zRec.of C (ci := 1) (q0 := 0) rfl rfl) rfl rfl ⟨Nat.le_of_ble_eq_true rfl, Nat.le_of_ble_eq_true rfl⟩ rfl rfl (Nat.le_of_ble_eq_true rfl) ⟨Nat.zero_le _, Nat.zero_le _⟩ dJ5_putStringAt_47b60_2 ?_
  intro w h
  subst h
  refine g_aload_n (j := 2) C dJ5_putStringAt_47b60_5 rfl rfl ?_
  refine g_aload_n (j := 0) C dJ5_putStringAt_47b60_6 rfl rfl ?_
  refine p_get (q0 := 0) (k := 0) (ci := 1) (N := 4) (v := .ref v) C rfl rfl zin_RJ4 (by decide) zfj_RJ5_15 rfl dJ5_putStringAt_47b60_7 ?_
  refine g_iload_n (j := 1) C dJ5_putStringAt_47b60_10 rfl rfl ?_
  refine g_aload_n (j := 0) C dJ5_putStringAt_47b60_11 rfl rfl ?_
  refine p_get (q0 := 0) (k := 1) (ci := 1) (N := 4) (v := .int (0 : Int32)) C rfl rfl zin_RJ4 (by decide) zfj_RJ5_22 rfl dJ5_putStringAt_47b60_12 ?_
  refine t_Vv (As := [.ref v, .int (nI k), .int (0 : Int32)]) (rest := []) (zES_ge a0 ls) hE C (c_getBytes l D cy E q v n k z f a0 ls hls hbl hkl hn) zml_RJ5_399 zcv_J0_getBytes_840e7 (zrec_S hE.2) rfl rfl ⟨Nat.le_of_ble_eq_true rfl, Nat.le_of_ble_eq_true rfl⟩ rfl rfl (Nat.le_of_ble_eq_true rfl) ⟨Nat.zero_le _, Nat.zero_le _⟩ dJ5_putStringAt_47b60_15 ?_
  intro w h
  subst h
  exact t_vret C hr rfl (Nat.le_refl _) (Nat.le_refl _) dJ5_putStringAt_47b60_18
set_option maxRecDepth 100000 in
set_option maxHeartbeats 4000000 in
theorem c_appS5 (l : Launch) (D : va_G) (cy : Nat → ClassId) (E : va_W) (q v n k : Nat) (z : Int32) (f : Nat → Int32) (a0 : Nat) (ls : List Int32) (hls : ls.length < 2 ^ 25) (hbl : ∀ b ∈ ls, fits .byte (.int b) = true) (t : Nat → Nat) (hL : sb_Lat t k f) (hf : sb_Fit f) (hkn : k ≤ n) (hn : n < 2 ^ 26) (u9 : Nat → Nat) (hs : sb_Lat u9 ls.length (fun j => ls.getD j 0)) : zMt l yJ5_append_cf1ce cJ5_append_cf1ce 3 (some (.object "java/lang/AbstractStringBuilder")) (zrt 5 (zmc n (k + ls.length)) (zms n (k + ls.length))) D (zTy cy) (zES a0 ls) (tB cy q v n z k f ++ E) [.ref q, .ref a0] (zmc n (k + ls.length)) (zms n (k + ls.length)) (tR D (zTy cy) (fun a w => a = q ∧ ∃ v2 f2, w = tB cy q v2 (zcp n (k + ls.length)) z (k + ls.length) f2 ++ E ∧ sb_Lat (sb_cat t k u9) (k + ls.length) f2 ∧ sb_Fit f2)) := by
  refine zMt.of (by decide) (Nat.le_of_ble_eq_true rfl) ?_
  intro p e s m below meth c A C hr hE
  refine zG_L (L' := [(0, .ref q), (1, .ref a0)]) rfl ?_
  refine g_aload_n (j := 1) C dJ5_append_cf1ce_0 rfl rfl ?_
  refine p_ifnn C dJ5_append_cf1ce_1 (tgt := 9) (by decide) ?_
  refine g_aload_n (j := 1) C dJ5_append_cf1ce_9 rfl rfl ?_
  refine t_Vi (As := []) (rest := []) (zES_ge a0 ls) hE C (c_strLen l D cy (tB cy q v n z k f ++ E) a0 ls) zml_RJ5_32 zcv_J0_length_8abf5 (zrec_S hE.2) rfl rfl ⟨Nat.le_of_ble_eq_true rfl, Nat.le_of_ble_eq_true rfl⟩ rfl rfl (Nat.le_of_ble_eq_true rfl) ⟨Nat.zero_le _, Nat.zero_le _⟩ dJ5_append_cf1ce_10 ?_
  intro r w h
  obtain ⟨rfl, rfl⟩ := h
  refine g_istore_n (L' := [(2, .int (nI ls.length)), (0, .ref q), (1, .ref a0)]) C dJ5_append_cf1ce_13 rfl (by decide) rfl ?_
  refine g_aload_n (j := 1) C dJ5_append_cf1ce_14 rfl rfl ?_
  refine g_aload_n (j := 1) C dJ5_append_cf1ce_15 rfl rfl ?_
  refine p_get (q0 := 0) (k := 3) (ci := 1) (N := 4) (v := .int (nI k)) C rfl rfl zin_RJ4 (by decide) zfj_RJ5_79 rfl dJ5_append_cf1ce_16 ?_
  refine g_iload_n (j := 0) C dJ5_append_cf1ce_19 rfl rfl ?_
  refine g_iadd C dJ5_append_cf1ce_20 ?_
  refine p_num (y := (nI (k + ls.length))) (nI_add _ _) ?_
  refine t_Uv (As := [.int (nI (k + ls.length))]) (rest := []) zEn_ge hE.1 C (c_ens l D cy E q v n k z f (k + ls.length) hf (by omega) (by omega)) zcu_RJ5_100 (zselE hE.1.2.2.2.2 (List.mem_of_getElem? (i := 0) rfl) _) (zRec.of C (ci := 1) (q0 := 0) rfl rfl) rfl rfl ⟨Nat.le_of_ble_eq_true rfl, Nat.le_of_ble_eq_true rfl⟩ rfl rfl (Nat.le_of_ble_eq_true rfl) ⟨by show 0 + 0 + zmc n (k + ls.length) ≤ zmc n (k + ls.length); omega, by show 0 + 0 + zms n (k + ls.length) ≤ zms n (k + ls.length); omega⟩ dJ5_append_cf1ce_21 ?_
  intro w h
  obtain ⟨v2, f2, rfl, hk2, hf2⟩ := h
  have hz1 := zcp_ge n (k + ls.length)
  have hz2 := zcp_lt (n := n) (m := k + ls.length)
  refine g_aload_n (j := 1) C dJ5_append_cf1ce_24 rfl rfl ?_
  refine g_aload_n (j := 1) C dJ5_append_cf1ce_25 rfl rfl ?_
  refine p_get (q0 := 0) (k := 3) (ci := 1) (N := 4) (v := .int (nI k)) C rfl rfl zin_RJ4 (by decide) zfj_RJ5_79 rfl dJ5_append_cf1ce_26 ?_
  refine g_aload_n (j := 2) C dJ5_append_cf1ce_29 rfl rfl ?_
  refine t_Uv (As := [.int (nI k), .ref a0]) (rest := []) (zES_ge a0 ls) hE C (c_putStr l D cy E q v2 (zcp n (k + ls.length)) k z f2 a0 ls hls hbl hz1.1 (by omega)) zcu_RJ5_208 (zselE hE.1.2.2.2.2 (List.mem_of_getElem? (i := 3) rfl) _) (zRec.of C (ci := 1) (q0 := 0) rfl rfl) rfl rfl ⟨Nat.le_of_ble_eq_true rfl, Nat.le_of_ble_eq_true rfl⟩ rfl rfl (Nat.le_of_ble_eq_true rfl) ⟨by show 0 + 0 + zmc n (k + ls.length) + 0 ≤ zmc n (k + ls.length); omega, by show 0 + 0 + zms n (k + ls.length) + 0 ≤ zms n (k + ls.length); omega⟩ dJ5_append_cf1ce_30 ?_
  intro w h
  subst h
  refine g_aload_n (j := 1) C dJ5_append_cf1ce_33 rfl rfl ?_
  refine g_dup C dJ5_append_cf1ce_34 rfl ?_
  refine p_get (q0 := 0) (k := 3) (ci := 1) (N := 4) (v := .int (nI k)) C rfl rfl zin_RJ4 (by decide) zfj_RJ5_79 rfl dJ5_append_cf1ce_35 ?_
  refine g_iload_n (j := 0) C dJ5_append_cf1ce_38 rfl rfl ?_
  refine g_iadd C dJ5_append_cf1ce_39 ?_
  refine p_num (y := (nI (k + ls.length))) (nI_add _ _) ?_
  refine p_put (q0 := 0) (k := 3) (ci := 1) (N := 4) (ty := .int) (v := .int (nI (k + ls.length))) (ws' := (tB cy q v2 (zcp n (k + ls.length)) z (k + ls.length) (va_cpy (fun j => ls.getD j 0) f2 0 k ls.length) ++ E)) C rfl rfl zin_RJ4 (by decide) zfj_RJ5_79 tyJ4_ok nmJ4 rfl (by decide +kernel) rfl rfl (Nat.le_of_ble_eq_true rfl) rfl dJ5_append_cf1ce_40 ?_
  refine g_aload_n (j := 1) C dJ5_append_cf1ce_43 rfl rfl ?_
  exact t_aret C hr (Or.inl ⟨_, rfl⟩) ⟨rfl, v2, _, rfl, sb_latPut hL (fun j hj => by rw [pk_cpy_out (by omega)]; exact hk2 j (by omega)) (fun i hi => by rw [pk_cpy_in (by omega) (by omega), show 0 + (k + i - k) = i by omega]; exact hs i hi), sb_fitC (fun j => zfitD hbl j) hf2⟩ (by show 0 + 0 + _ + 0 ≤ _; omega) (by show 0 + 0 + _ + 0 ≤ _; omega) dJ5_append_cf1ce_44
set_option maxRecDepth 100000 in
set_option maxHeartbeats 4000000 in
theorem c_appS (l : Launch) (D : va_G) (cy : Nat → ClassId) (E : va_W) (q v n k : Nat) (z : Int32) (f : Nat → Int32) (a0 : Nat) (ls : List Int32) (hls : ls.length < 2 ^ 25) (hbl : ∀ b ∈ ls, fits .byte (.int b) = true) (t : Nat → Nat) (hL : sb_Lat t k f) (hf : sb_Fit f) (hkn : k ≤ n) (hn : n < 2 ^ 26) (u9 : Nat → Nat) (hs : sb_Lat u9 ls.length (fun j => ls.getD j 0)) : zMt l yJ4_append_15ec4 cJ4_append_15ec4 2 (some (.object "java/lang/StringBuilder")) (zrt 6 (zmc n (k + ls.length)) (zms n (k + ls.length))) D (zTy cy) (zES a0 ls) (tB cy q v n z k f ++ E) [.ref q, .ref a0] (zmc n (k + ls.length)) (zms n (k + ls.length)) (tR D (zTy cy) (fun a w => a = q ∧ ∃ v2 f2, w = tB cy q v2 (zcp n (k + ls.length)) z (k + ls.length) f2 ++ E ∧ sb_Lat (sb_cat t k u9) (k + ls.length) f2 ∧ sb_Fit f2)) := by
  refine zMt.of (by decide) (Nat.le_of_ble_eq_true rfl) ?_
  intro p e s m below meth c A C hr hE
  refine zG_L (L' := [(0, .ref q), (1, .ref a0)]) rfl ?_
  refine g_aload_n (j := 0) C dJ4_append_15ec4_0 rfl rfl ?_
  refine g_aload_n (j := 1) C dJ4_append_15ec4_1 rfl rfl ?_
  refine t_SUr (As := [.ref a0]) (rest := []) (zES_ge a0 ls) hE C (c_appS5 l D cy E q v n k z f a0 ls hls hbl t hL hf hkn hn u9 hs) (zAt C (ci := 1) rfl) zcsu_RJ4_29 (zRec.of C (ci := 1) (q0 := 0) rfl rfl) rfl rfl ⟨Nat.le_of_ble_eq_true rfl, Nat.le_of_ble_eq_true rfl⟩ rfl rfl (Nat.le_of_ble_eq_true rfl) ⟨by show 0 + zmc n (k + ls.length) ≤ zmc n (k + ls.length); omega, by show 0 + zms n (k + ls.length) ≤ zms n (k + ls.length); omega⟩ dJ4_append_15ec4_2 ?_
  intro r w h
  obtain ⟨rfl, h⟩ := h
  refine g_pop C dJ4_append_15ec4_5 rfl ?_
  refine g_aload_n (j := 0) C dJ4_append_15ec4_6 rfl rfl ?_
  exact t_aret C hr (Or.inl ⟨_, rfl⟩) ⟨rfl, h⟩ (by show 0 + _ ≤ _; omega) (by show 0 + _ ≤ _; omega) dJ4_append_15ec4_7
set_option maxRecDepth 100000 in
set_option maxHeartbeats 4000000 in
theorem c_setLen5 (l : Launch) (D : va_G) (cy : Nat → ClassId) (E : va_W) (q v n k : Nat) (z : Int32) (f : Nat → Int32) (hk : k < 2 ^ 31) (hn : n < 2 ^ 28) : zMt l yJ5_setLength_d00df cJ5_setLength_d00df 2 none (zrt 5 0 0) D (zTy cy) zEn (tB cy q v n z k f ++ E) [.ref q, .int (nI 0)] 0 0 (tV D (zTy cy) (fun w => ∃ z2, w = tB cy q v n z2 0 f ++ E)) := by
  refine zMt.of (by decide) (Nat.le_of_ble_eq_true rfl) ?_
  intro p e s m below meth c A C hr hE
  refine zG_L (L' := [(0, .ref q), (1, .int (nI 0))]) rfl ?_
  by_cases c9 : k = 0
  · refine g_iload_n (j := 1) C dJ5_setLength_d00df_0 rfl rfl ?_
    refine g_if_ge C dJ5_setLength_d00df_1 (tgt := 13) (by decide) (fun _ => ?_) (fun h9 => absurd (show (0 : Int32) ≤ nI 0 from by decide) h9)
    refine g_aload_n (j := 0) C dJ5_setLength_d00df_13 rfl rfl ?_
    refine g_iload_n (j := 1) C dJ5_setLength_d00df_14 rfl rfl ?_
    refine t_Uv (As := [.int (nI 0)]) (rest := []) zEn_ge hE C (c_ens0 l D cy E q v n k z f 0 (Nat.zero_le _) hn) zcu_RJ5_100 (zselE hE.2.2.2.2 (List.mem_of_getElem? (i := 0) rfl) _) (zRec.of C (ci := 1) (q0 := 0) rfl rfl) rfl rfl ⟨Nat.le_of_ble_eq_true rfl, Nat.le_of_ble_eq_true rfl⟩ rfl rfl (Nat.le_of_ble_eq_true rfl) ⟨Nat.zero_le _, Nat.zero_le _⟩ dJ5_setLength_d00df_15 ?_
    intro w h
    subst h
    refine g_aload_n (j := 0) C dJ5_setLength_d00df_18 rfl rfl ?_
    refine p_get (q0 := 0) (k := 3) (ci := 1) (N := 4) (v := .int (nI k)) C rfl rfl zin_RJ4 (by decide) zfj_RJ5_79 rfl dJ5_setLength_d00df_19 ?_
    refine g_iload_n (j := 1) C dJ5_setLength_d00df_22 rfl rfl ?_
    refine g_icmp_ge C dJ5_setLength_d00df_23 (tgt := 63) (by decide) (fun _ => ?_) (fun h9 => absurd (nI_le (Nat.zero_le _) hk) h9)
    refine g_aload_n (j := 0) C dJ5_setLength_d00df_63 rfl rfl ?_
    refine p_get (q0 := 0) (k := 3) (ci := 1) (N := 4) (v := .int (nI k)) C rfl rfl zin_RJ4 (by decide) zfj_RJ5_79 rfl dJ5_setLength_d00df_64 ?_
    refine g_iload_n (j := 1) C dJ5_setLength_d00df_67 rfl rfl ?_
    refine g_icmp_le C dJ5_setLength_d00df_68 (tgt := 76) (by decide) (fun _ => ?_) (fun h9 => absurd (nI_le (by omega) (by decide)) h9)
    refine g_aload_n (j := 0) C dJ5_setLength_d00df_76 rfl rfl ?_
    refine g_iload_n (j := 1) C dJ5_setLength_d00df_77 rfl rfl ?_
    refine p_put (q0 := 0) (k := 3) (ci := 1) (N := 4) (ty := .int) (v := .int (nI 0)) (ws' := (tB cy q v n z 0 f ++ E)) C rfl rfl zin_RJ4 (by decide) zfj_RJ5_79 tyJ4_ok nmJ4 rfl (by decide +kernel) rfl rfl (Nat.le_of_ble_eq_true rfl) rfl dJ5_setLength_d00df_78 ?_
    exact t_vret C hr ⟨z, rfl⟩ (Nat.le_refl _) (Nat.le_refl _) dJ5_setLength_d00df_81
  · refine g_iload_n (j := 1) C dJ5_setLength_d00df_0 rfl rfl ?_
    refine g_if_ge C dJ5_setLength_d00df_1 (tgt := 13) (by decide) (fun _ => ?_) (fun h9 => absurd (show (0 : Int32) ≤ nI 0 from by decide) h9)
    refine g_aload_n (j := 0) C dJ5_setLength_d00df_13 rfl rfl ?_
    refine g_iload_n (j := 1) C dJ5_setLength_d00df_14 rfl rfl ?_
    refine t_Uv (As := [.int (nI 0)]) (rest := []) zEn_ge hE C (c_ens0 l D cy E q v n k z f 0 (Nat.zero_le _) hn) zcu_RJ5_100 (zselE hE.2.2.2.2 (List.mem_of_getElem? (i := 0) rfl) _) (zRec.of C (ci := 1) (q0 := 0) rfl rfl) rfl rfl ⟨Nat.le_of_ble_eq_true rfl, Nat.le_of_ble_eq_true rfl⟩ rfl rfl (Nat.le_of_ble_eq_true rfl) ⟨Nat.zero_le _, Nat.zero_le _⟩ dJ5_setLength_d00df_15 ?_
    intro w h
    subst h
    refine g_aload_n (j := 0) C dJ5_setLength_d00df_18 rfl rfl ?_
    refine p_get (q0 := 0) (k := 3) (ci := 1) (N := 4) (v := .int (nI k)) C rfl rfl zin_RJ4 (by decide) zfj_RJ5_79 rfl dJ5_setLength_d00df_19 ?_
    refine g_iload_n (j := 1) C dJ5_setLength_d00df_22 rfl rfl ?_
    refine g_icmp_ge C dJ5_setLength_d00df_23 (tgt := 63) (by decide) (fun _ => ?_) (fun h9 => absurd (nI_le (Nat.zero_le _) hk) h9)
    refine g_aload_n (j := 0) C dJ5_setLength_d00df_63 rfl rfl ?_
    refine p_get (q0 := 0) (k := 3) (ci := 1) (N := 4) (v := .int (nI k)) C rfl rfl zin_RJ4 (by decide) zfj_RJ5_79 rfl dJ5_setLength_d00df_64 ?_
    refine g_iload_n (j := 1) C dJ5_setLength_d00df_67 rfl rfl ?_
    refine g_icmp_le C dJ5_setLength_d00df_68 (tgt := 76) (by decide) (fun h9 => absurd h9 (nI_ge (by omega) hk)) (fun _ => ?_)
    refine g_aload_n (j := 0) C dJ5_setLength_d00df_71 rfl rfl ?_
    refine g_iconst (v := (nI 1)) C dJ5_setLength_d00df_72 (by decide) ?_
    refine p_put (q0 := 0) (k := 2) (ci := 1) (N := 4) (ty := .boolean) (v := .int (nI 1)) (ws' := (tB cy q v n (nI 1) k f ++ E)) C rfl rfl zin_RJ4 (by decide) zfj_RJ5_73 tyJ4_ok nmJ4 rfl (by decide +kernel) rfl rfl (Nat.le_of_ble_eq_true rfl) rfl dJ5_setLength_d00df_73 ?_
    refine g_aload_n (j := 0) C dJ5_setLength_d00df_76 rfl rfl ?_
    refine g_iload_n (j := 1) C dJ5_setLength_d00df_77 rfl rfl ?_
    refine p_put (q0 := 0) (k := 3) (ci := 1) (N := 4) (ty := .int) (v := .int (nI 0)) (ws' := (tB cy q v n (nI 1) 0 f ++ E)) C rfl rfl zin_RJ4 (by decide) zfj_RJ5_79 tyJ4_ok nmJ4 rfl (by decide +kernel) rfl rfl (Nat.le_of_ble_eq_true rfl) rfl dJ5_setLength_d00df_78 ?_
    exact t_vret C hr ⟨_, rfl⟩ (Nat.le_refl _) (Nat.le_refl _) dJ5_setLength_d00df_81
set_option maxRecDepth 100000 in
set_option maxHeartbeats 4000000 in
theorem c_setLen (l : Launch) (D : va_G) (cy : Nat → ClassId) (E : va_W) (q v n k : Nat) (z : Int32) (f : Nat → Int32) (hk : k < 2 ^ 31) (hn : n < 2 ^ 28) : zMt l yJ4_setLength_d00df cJ4_setLength_d00df 2 none (zrt 6 0 0) D (zTy cy) zEn (tB cy q v n z k f ++ E) [.ref q, .int (nI 0)] 0 0 (tV D (zTy cy) (fun w => ∃ z2, w = tB cy q v n z2 0 f ++ E)) := by
  refine zMt.of (by decide) (Nat.le_of_ble_eq_true rfl) ?_
  intro p e s m below meth c A C hr hE
  refine zG_L (L' := [(0, .ref q), (1, .int (nI 0))]) rfl ?_
  refine g_aload_n (j := 0) C dJ4_setLength_d00df_0 rfl rfl ?_
  refine g_iload_n (j := 1) C dJ4_setLength_d00df_1 rfl rfl ?_
  refine t_SUv (As := [.int (nI 0)]) (rest := []) zEn_ge hE C (c_setLen5 l D cy E q v n k z f hk hn) (zAt C (ci := 1) rfl) zcsu_RJ4_333 (zRec.of C (ci := 1) (q0 := 0) rfl rfl) rfl rfl ⟨Nat.le_of_ble_eq_true rfl, Nat.le_of_ble_eq_true rfl⟩ rfl rfl (Nat.le_of_ble_eq_true rfl) ⟨Nat.zero_le _, Nat.zero_le _⟩ dJ4_setLength_d00df_2 ?_
  intro w h
  exact t_vret C hr h (Nat.le_refl _) (Nat.le_refl _) dJ4_setLength_d00df_5
