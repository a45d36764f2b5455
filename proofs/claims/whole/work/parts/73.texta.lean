/-! THE TEXT METHODS OF THE JDK, Latin-1 (laid by wip/whole/mktext.py) -/
set_option maxRecDepth 100000 in
set_option maxHeartbeats 4000000 in
theorem c_isLatin1 (l : Launch) (D : va_G) (cy : Nat → ClassId) (E : va_W) (q v n k : Nat) (z : Int32) (f : Nat → Int32) : zMt l yJ5_isLatin1_aae02 cJ5_isLatin1_aae02 1 (some .boolean) (zrt 1 0 0) D (zTy cy) zEn (tB cy q v n z k f ++ E) [.ref q] 0 0 (tI D (zTy cy) (fun r w => r = nI 1 ∧ w = (tB cy q v n z k f ++ E))) := by
  refine zMt.of (by decide) (Nat.le_of_ble_eq_true rfl) ?_
  intro p e s m below meth c A C hr hE
  refine zG_L (L' := [(0, .ref q)]) rfl ?_
  refine p_gets (v := .int (1 : Int32)) C hE.1 zfs_RJ5_18 dJ5_isLatin1_aae02_0 ?_
  refine g_if_eq C dJ5_isLatin1_aae02_3 (tgt := 17) (by decide) (fun h9 => absurd h9 (by decide)) (fun _ => ?_)
  refine g_aload_n (j := 0) C dJ5_isLatin1_aae02_6 rfl rfl ?_
  refine p_get (q0 := 0) (k := 1) (ci := 1) (N := 4) (v := .int (0 : Int32)) C rfl rfl zin_RJ4 (by decide) zfj_RJ5_22 rfl dJ5_isLatin1_aae02_7 ?_
  refine g_if_ne C dJ5_isLatin1_aae02_10 (tgt := 17) (by decide) (fun h9 => absurd rfl h9) (fun _ => ?_)
  refine g_iconst (v := (nI 1)) C dJ5_isLatin1_aae02_13 (by decide) ?_
  refine g_goto C dJ5_isLatin1_aae02_14 (tgt := 18) (by decide) ?_
  exact t_iret C hr rfl ⟨rfl, rfl⟩ (Nat.le_refl _) (Nat.le_refl _) dJ5_isLatin1_aae02_18
set_option maxRecDepth 100000 in
set_option maxHeartbeats 4000000 in
theorem c_length5 (l : Launch) (D : va_G) (cy : Nat → ClassId) (E : va_W) (q v n k : Nat) (z : Int32) (f : Nat → Int32) : zMt l yJ5_length_8abf5 cJ5_length_8abf5 1 (some .int) (zrt 1 0 0) D (zTy cy) zEn (tB cy q v n z k f ++ E) [.ref q] 0 0 (tI D (zTy cy) (fun r w => r = nI k ∧ w = (tB cy q v n z k f ++ E))) := by
  refine zMt.of (by decide) (Nat.le_of_ble_eq_true rfl) ?_
  intro p e s m below meth c A C hr hE
  refine zG_L (L' := [(0, .ref q)]) rfl ?_
  refine g_aload_n (j := 0) C dJ5_length_8abf5_0 rfl rfl ?_
  refine p_get (q0 := 0) (k := 3) (ci := 1) (N := 4) (v := .int (nI k)) C rfl rfl zin_RJ4 (by decide) zfj_RJ5_79 rfl dJ5_length_8abf5_1 ?_
  exact t_iret C hr rfl ⟨rfl, rfl⟩ (Nat.le_refl _) (Nat.le_refl _) dJ5_length_8abf5_4
set_option maxRecDepth 100000 in
set_option maxHeartbeats 4000000 in
theorem c_length (l : Launch) (D : va_G) (cy : Nat → ClassId) (E : va_W) (q v n k : Nat) (z : Int32) (f : Nat → Int32) : zMt l yJ4_length_8abf5 cJ4_length_8abf5 1 (some .int) (zrt 2 0 0) D (zTy cy) zEn (tB cy q v n z k f ++ E) [.ref q] 0 0 (tI D (zTy cy) (fun r w => r = nI k ∧ w = (tB cy q v n z k f ++ E))) := by
  refine zMt.of (by decide) (Nat.le_of_ble_eq_true rfl) ?_
  intro p e s m below meth c A C hr hE
  refine zG_L (L' := [(0, .ref q)]) rfl ?_
  refine g_aload_n (j := 0) C dJ4_length_8abf5_0 rfl rfl ?_
  refine t_SUi (As := []) (rest := []) zEn_ge hE C (c_length5 l D cy E q v n k z f) (zAt C (ci := 1) rfl) zcsu_RJ4_343 (zRec.of C (ci := 1) (q0 := 0) rfl rfl) rfl rfl ⟨Nat.le_of_ble_eq_true rfl, Nat.le_of_ble_eq_true rfl⟩ rfl rfl (Nat.le_of_ble_eq_true rfl) ⟨Nat.zero_le _, Nat.zero_le _⟩ dJ4_length_8abf5_1 ?_
  intro r w h
  obtain ⟨rfl, rfl⟩ := h
  exact t_iret C hr rfl ⟨rfl, rfl⟩ (Nat.le_refl _) (Nat.le_refl _) dJ4_length_8abf5_4
set_option maxRecDepth 100000 in
set_option maxHeartbeats 4000000 in
theorem c_check3N (l : Launch) (D : va_G) (cy : Nat → ClassId) (ws : va_W) (i n : Nat) (hi : i < n) (hn : n < 2 ^ 31) : zMt l yJ3_checkIndex_8e157 cJ3_checkIndex_8e157 3 (some .int) (zrt 1 0 0) D (zTy cy) zEn ws [.int (nI i), .int (nI n), .null] 0 0 (tI D (zTy cy) (fun r w => r = nI i ∧ w = ws)) := by
  refine zMt.of (by decide) (Nat.le_of_ble_eq_true rfl) ?_
  intro p e s m below meth c A C hr hE
  refine zG_L (L' := [(0, .int (nI i)), (1, .int (nI n)), (2, .null)]) rfl ?_
  refine g_iload_n (j := 0) C dJ3_checkIndex_8e157_0 rfl rfl ?_
  refine g_if_lt C dJ3_checkIndex_8e157_1 (tgt := 9) (by decide) (fun h9 => absurd h9 (nI_pos (by omega))) (fun _ => ?_)
  refine g_iload_n (j := 0) C dJ3_checkIndex_8e157_4 rfl rfl ?_
  refine g_iload_n (j := 1) C dJ3_checkIndex_8e157_5 rfl rfl ?_
  refine g_icmp_lt C dJ3_checkIndex_8e157_6 (tgt := 16) (by decide) (fun _ => ?_) (fun h9 => absurd (nI_lt hi hn) h9)
  refine g_iload_n (j := 0) C dJ3_checkIndex_8e157_16 rfl rfl ?_
  exact t_iret C hr rfl ⟨rfl, rfl⟩ (Nat.le_refl _) (Nat.le_refl _) dJ3_checkIndex_8e157_17
set_option maxRecDepth 100000 in
set_option maxHeartbeats 4000000 in
theorem c_check3R (l : Launch) (D : va_G) (cy : Nat → ClassId) (ws : va_W) (i n : Nat) (hi : i < n) (hn : n < 2 ^ 31) (t : Nat) : zMt l yJ3_checkIndex_8e157 cJ3_checkIndex_8e157 3 (some .int) (zrt 1 0 0) D (zTy cy) zEn ws [.int (nI i), .int (nI n), .ref t] 0 0 (tI D (zTy cy) (fun r w => r = nI i ∧ w = ws)) := by
  refine zMt.of (by decide) (Nat.le_of_ble_eq_true rfl) ?_
  intro p e s m below meth c A C hr hE
  refine zG_L (L' := [(0, .int (nI i)), (1, .int (nI n)), (2, .ref t)]) rfl ?_
  refine g_iload_n (j := 0) C dJ3_checkIndex_8e157_0 rfl rfl ?_
  refine g_if_lt C dJ3_checkIndex_8e157_1 (tgt := 9) (by decide) (fun h9 => absurd h9 (nI_pos (by omega))) (fun _ => ?_)
  refine g_iload_n (j := 0) C dJ3_checkIndex_8e157_4 rfl rfl ?_
  refine g_iload_n (j := 1) C dJ3_checkIndex_8e157_5 rfl rfl ?_
  refine g_icmp_lt C dJ3_checkIndex_8e157_6 (tgt := 16) (by decide) (fun _ => ?_) (fun h9 => absurd (nI_lt hi hn) h9)
  refine g_iload_n (j := 0) C dJ3_checkIndex_8e157_16 rfl rfl ?_
  exact t_iret C hr rfl ⟨rfl, rfl⟩ (Nat.le_refl _) (Nat.le_refl _) dJ3_checkIndex_8e157_17
set_option maxRecDepth 100000 in
set_option maxHeartbeats 4000000 in
theorem c_check0 (l : Launch) (D : va_G) (cy : Nat → ClassId) (ws : va_W) (i n : Nat) (hi : i < n) (hn : n < 2 ^ 31) : zMt l yJ0_checkIndex_df160 cJ0_checkIndex_df160 2 none (zrt 2 0 0) D (zTy cy) zEn ws [.int (nI i), .int (nI n)] 0 0 (tV D (zTy cy) (fun w => w = ws)) := by
  refine zMt.of (by decide) (Nat.le_of_ble_eq_true rfl) ?_
  intro p e s m below meth c A C hr hE
  refine zG_L (L' := [(0, .int (nI i)), (1, .int (nI n))]) rfl ?_
  rcases hE.2.2.2.1 with hZ | ⟨t, hZ⟩
  · refine g_iload_n (j := 0) C dJ0_checkIndex_df160_0 rfl rfl ?_
    refine g_iload_n (j := 1) C dJ0_checkIndex_df160_1 rfl rfl ?_
    refine p_gets (v := .null) C hZ zfs_RJ0_1053 dJ0_checkIndex_df160_2 ?_
    refine t_Si (As := [.int (nI i), .int (nI n), .null]) (rest := []) zEn_ge hE C (c_check3N l D cy ws i n hi hn) zml_RJ0_1059 zcs_J3_checkIndex_8e157 rfl rfl ⟨Nat.le_of_ble_eq_true rfl, Nat.le_of_ble_eq_true rfl⟩ rfl rfl (Nat.le_of_ble_eq_true rfl) ⟨Nat.zero_le _, Nat.zero_le _⟩ dJ0_checkIndex_df160_5 ?_
    intro r w h
    obtain ⟨rfl, rfl⟩ := h
    refine g_pop C dJ0_checkIndex_df160_8 rfl ?_
    exact t_vret C hr rfl (Nat.le_refl _) (Nat.le_refl _) dJ0_checkIndex_df160_9
  · refine g_iload_n (j := 0) C dJ0_checkIndex_df160_0 rfl rfl ?_
    refine g_iload_n (j := 1) C dJ0_checkIndex_df160_1 rfl rfl ?_
    refine p_gets (v := .ref t) C hZ zfs_RJ0_1053 dJ0_checkIndex_df160_2 ?_
    refine t_Si (As := [.int (nI i), .int (nI n), .ref t]) (rest := []) zEn_ge hE C (c_check3R l D cy ws i n hi hn t) zml_RJ0_1059 zcs_J3_checkIndex_8e157 rfl rfl ⟨Nat.le_of_ble_eq_true rfl, Nat.le_of_ble_eq_true rfl⟩ rfl rfl (Nat.le_of_ble_eq_true rfl) ⟨Nat.zero_le _, Nat.zero_le _⟩ dJ0_checkIndex_df160_5 ?_
    intro r w h
    obtain ⟨rfl, rfl⟩ := h
    refine g_pop C dJ0_checkIndex_df160_8 rfl ?_
    exact t_vret C hr rfl (Nat.le_refl _) (Nat.le_refl _) dJ0_checkIndex_df160_9
set_option maxRecDepth 100000 in
set_option maxHeartbeats 4000000 in
theorem c_charAt5 (l : Launch) (D : va_G) (cy : Nat → ClassId) (E : va_W) (q v n k : Nat) (z : Int32) (f : Nat → Int32) (i : Nat) (hi : i < k) (hkn : k ≤ n) (hn : n < 2 ^ 31) : zMt l yJ5_charAt_5068e cJ5_charAt_5068e 5 (some .char) (zrt 3 0 0) D (zTy cy) zEn (tB cy q v n z k f ++ E) [.ref q, .int (nI i)] 0 0 (tI D (zTy cy) (fun r w => r = ((f i &&& (nI 255)).toUInt32 % 65536).toInt32 ∧ w = (tB cy q v n z k f ++ E))) := by
  refine zMt.of (by decide) (Nat.le_of_ble_eq_true rfl) ?_
  intro p e s m below meth c A C hr hE
  refine zG_L (L' := [(0, .ref q), (1, .int (nI i))]) rfl ?_
  refine g_aload_n (j := 0) C dJ5_charAt_5068e_0 rfl rfl ?_
  refine p_get (q0 := 0) (k := 1) (ci := 1) (N := 4) (v := .int (0 : Int32)) C rfl rfl zin_RJ4 (by decide) zfj_RJ5_22 rfl dJ5_charAt_5068e_1 ?_
  refine g_istore_n (L' := [(2, .int (0 : Int32)), (0, .ref q), (1, .int (nI i))]) C dJ5_charAt_5068e_4 rfl (by decide) rfl ?_
  refine g_aload_n (j := 1) C dJ5_charAt_5068e_5 rfl rfl ?_
  refine p_get (q0 := 0) (k := 0) (ci := 1) (N := 4) (v := .ref v) C rfl rfl zin_RJ4 (by decide) zfj_RJ5_15 rfl dJ5_charAt_5068e_6 ?_
  refine g_astore_n (L' := [(3, .ref v), (2, .int (0 : Int32)), (0, .ref q), (1, .int (nI i))]) C dJ5_charAt_5068e_9 rfl (by decide) rfl ?_
  refine g_aload_n (j := 2) C dJ5_charAt_5068e_10 rfl rfl ?_
  refine p_get (q0 := 0) (k := 3) (ci := 1) (N := 4) (v := .int (nI k)) C rfl rfl zin_RJ4 (by decide) zfj_RJ5_79 rfl dJ5_charAt_5068e_11 ?_
  refine g_aload_n (j := 0) C dJ5_charAt_5068e_14 rfl rfl ?_
  refine p_alen (q0 := 1) (n := n) C rfl dJ5_charAt_5068e_15 ?_
  refine g_iload_n (j := 1) C dJ5_charAt_5068e_16 rfl rfl ?_
  refine g_ishr C dJ5_charAt_5068e_17 ?_
  refine p_num (y := (nI n)) (sb_shr0 _) ?_
  refine g_mmin C zml_RJ5_138 (Nat.le_of_ble_eq_true rfl) (Nat.le_of_ble_eq_true rfl) (Nat.le_refl _) (Nat.le_refl _) dJ5_charAt_5068e_18 ?_
  refine p_num (y := (nI k)) (if_neg (nI_nlt hkn hn)) ?_
  refine g_istore (L' := [(4, .int (nI k)), (3, .ref v), (2, .int (0 : Int32)), (0, .ref q), (1, .int (nI i))]) C dJ5_charAt_5068e_21 (by decide) rfl ?_
  refine g_iload_n (j := 4) C dJ5_charAt_5068e_23 rfl rfl ?_
  refine g_iload (j := 0) C dJ5_charAt_5068e_24 rfl ?_
  refine t_Sv (As := [.int (nI i), .int (nI k)]) (rest := []) zEn_ge hE C (c_check0 l D cy (tB cy q v n z k f ++ E) i k hi (by omega)) zml_RJ5_144 zcs_J0_checkIndex_df160 rfl rfl ⟨Nat.le_of_ble_eq_true rfl, Nat.le_of_ble_eq_true rfl⟩ rfl rfl (Nat.le_of_ble_eq_true rfl) ⟨Nat.zero_le _, Nat.zero_le _⟩ dJ5_charAt_5068e_26 ?_
  intro w h
  subst h
  refine g_iload_n (j := 2) C dJ5_charAt_5068e_29 rfl rfl ?_
  refine g_if_ne C dJ5_charAt_5068e_30 (tgt := 42) (by decide) (fun h9 => absurd rfl h9) (fun _ => ?_)
  refine g_aload_n (j := 1) C dJ5_charAt_5068e_33 rfl rfl ?_
  refine g_iload_n (j := 4) C dJ5_charAt_5068e_34 rfl rfl ?_
  refine p_bald (q0 := 1) C rfl (vp_in_nI (by omega) hn) dJ5_charAt_5068e_35 ?_
  refine p_num (y := (f i)) (by rw [nI_clamp (by omega)]) ?_
  refine g_sipush (v := (nI 255)) C dJ5_charAt_5068e_36 (by decide) ?_
  refine g_iand C dJ5_charAt_5068e_39 ?_
  refine g_i2c C dJ5_charAt_5068e_40 rfl ?_
  exact t_iret C hr (pk_nc _) ⟨rfl, rfl⟩ (Nat.le_refl _) (Nat.le_refl _) dJ5_charAt_5068e_41
set_option maxRecDepth 100000 in
set_option maxHeartbeats 4000000 in
theorem c_charAt (l : Launch) (D : va_G) (cy : Nat → ClassId) (E : va_W) (q v n k : Nat) (z : Int32) (f : Nat → Int32) (i : Nat) (hi : i < k) (hkn : k ≤ n) (hn : n < 2 ^ 31) : zMt l yJ4_charAt_5068e cJ4_charAt_5068e 2 (some .char) (zrt 4 0 0) D (zTy cy) zEn (tB cy q v n z k f ++ E) [.ref q, .int (nI i)] 0 0 (tI D (zTy cy) (fun r w => r = ((f i &&& (nI 255)).toUInt32 % 65536).toInt32 ∧ w = (tB cy q v n z k f ++ E))) := by
  refine zMt.of (by decide) (Nat.le_of_ble_eq_true rfl) ?_
  intro p e s m below meth c A C hr hE
  refine zG_L (L' := [(0, .ref q), (1, .int (nI i))]) rfl ?_
  refine g_aload_n (j := 0) C dJ4_charAt_5068e_0 rfl rfl ?_
  refine g_iload_n (j := 1) C dJ4_charAt_5068e_1 rfl rfl ?_
  refine t_SUi (As := [.int (nI i)]) (rest := []) zEn_ge hE C (c_charAt5 l D cy E q v n k z f i hi hkn hn) (zAt C (ci := 1) rfl) zcsu_RJ4_329 (zRec.of C (ci := 1) (q0 := 0) rfl rfl) rfl rfl ⟨Nat.le_of_ble_eq_true rfl, Nat.le_of_ble_eq_true rfl⟩ rfl rfl (Nat.le_of_ble_eq_true rfl) ⟨Nat.zero_le _, Nat.zero_le _⟩ dJ4_charAt_5068e_2 ?_
  intro r w h
  obtain ⟨rfl, rfl⟩ := h
  exact t_iret C hr (pk_nc _) ⟨rfl, rfl⟩ (Nat.le_refl _) (Nat.le_refl _) dJ4_charAt_5068e_5
set_option maxRecDepth 100000 in
set_option maxHeartbeats 4000000 in
theorem c_canEncode (l : Launch) (D : va_G) (cy : Nat → ClassId) (ws : va_W) (c0 : Int32) (hc : ¬ (nI 255) < c0) : zMt l yJ1_canEncode_fc78d cJ1_canEncode_fc78d 1 (some .boolean) (zrt 1 0 0) D (zTy cy) zEn ws [.int c0] 0 0 (tI D (zTy cy) (fun r w => r = nI 1 ∧ w = ws)) := by
  refine zMt.of (by decide) (Nat.le_of_ble_eq_true rfl) ?_
  intro p e s m below meth c A C hr hE
  refine zG_L (L' := [(0, .int c0)]) rfl ?_
  refine g_iload_n (j := 0) C dJ1_canEncode_fc78d_0 rfl rfl ?_
  refine g_sipush (v := (nI 255)) C dJ1_canEncode_fc78d_1 (by decide) ?_
  refine g_icmp_gt C dJ1_canEncode_fc78d_4 (tgt := 11) (by decide) (fun h9 => absurd h9 hc) (fun _ => ?_)
  refine g_iconst (v := (nI 1)) C dJ1_canEncode_fc78d_7 (by decide) ?_
  refine g_goto C dJ1_canEncode_fc78d_8 (tgt := 12) (by decide) ?_
  exact t_iret C hr rfl ⟨rfl, rfl⟩ (Nat.le_refl _) (Nat.le_refl _) dJ1_canEncode_fc78d_12
/-- a builder's next capacity -/
def zcap (n m : Nat) : Nat := n + (if m - n < n + 2 then n + 2 else m - n)
theorem zcap_ge {n m : Nat} (h : n < m) : m ≤ zcap n m ∧ 2 * n + 2 ≤ zcap n m ∧ (zcap n m ≤ 2 * n + 2 ∨ zcap n m = m) := by
  unfold zcap
  split <;> omega
set_option maxRecDepth 100000 in
set_option maxHeartbeats 4000000 in
theorem c_newLength (l : Launch) (D : va_G) (cy : Nat → ClassId) (ws : va_W) (n m9 : Nat) (h : n < m9) (hm : m9 < 2 ^ 28) : zMt l yJ8_newLength_cabcc cJ8_newLength_cabcc 4 (some .int) (zrt 2 0 0) D (zTy cy) zEn ws [.int (nI n), .int (nI (m9 - n)), .int (nI (n + 2))] 0 0 (tI D (zTy cy) (fun r w => r = nI (zcap n m9) ∧ w = ws)) := by
  refine zMt.of (by decide) (Nat.le_of_ble_eq_true rfl) ?_
  intro p e s m below meth c A C hr hE
  have hz := zcap_ge h
  refine zG_L (L' := [(0, .int (nI n)), (1, .int (nI (m9 - n))), (2, .int (nI (n + 2)))]) rfl ?_
  refine g_iload_n (j := 0) C dJ8_newLength_cabcc_0 rfl rfl ?_
  refine g_iload_n (j := 1) C dJ8_newLength_cabcc_1 rfl rfl ?_
  refine g_iload_n (j := 2) C dJ8_newLength_cabcc_2 rfl rfl ?_
  refine g_mmax C zml_RJ8_194 (Nat.le_of_ble_eq_true rfl) (Nat.le_of_ble_eq_true rfl) (Nat.le_refl _) (Nat.le_refl _) dJ8_newLength_cabcc_3 ?_
  refine p_num (y := (nI (if m9 - n < n + 2 then n + 2 else m9 - n))) (by
    by_cases c9 : m9 - n < n + 2
    · rw [if_pos (nI_lt c9 (by omega)), if_pos c9]
    · rw [if_neg (nI_nlt (by omega) (by omega)), if_neg c9]) ?_
  refine g_iadd C dJ8_newLength_cabcc_6 ?_
  refine p_num (y := (nI (zcap n m9))) (nI_add _ _) ?_
  refine g_istore_n (L' := [(3, .int (nI (zcap n m9))), (0, .int (nI n)), (1, .int (nI (m9 - n))), (2, .int (nI (n + 2)))]) C dJ8_newLength_cabcc_7 rfl (by decide) rfl ?_
  refine g_iconst (v := (nI 0)) C dJ8_newLength_cabcc_8 (by decide) ?_
  refine g_iload_n (j := 0) C dJ8_newLength_cabcc_9 rfl rfl ?_
  refine g_icmp_ge C dJ8_newLength_cabcc_10 (tgt := 21) (by decide) (fun h9 => absurd h9 (nI_ge (by omega) (by omega))) (fun _ => ?_)
  refine g_iload_n (j := 0) C dJ8_newLength_cabcc_13 rfl rfl ?_
  refine g_ldci (v := 2147483639) C dJ8_newLength_cabcc_14 zcon_RJ8_200 ?_
  refine g_icmp_gt C dJ8_newLength_cabcc_16 (tgt := 21) (by decide) (fun h9 => absurd h9 (show ¬ nI 2147483639 < nI (zcap n m9) from nI_nlt (by omega) (by decide))) (fun _ => ?_)
  refine g_iload_n (j := 0) C dJ8_newLength_cabcc_19 rfl rfl ?_
  exact t_iret C hr rfl ⟨rfl, rfl⟩ (Nat.le_refl _) (Nat.le_refl _) dJ8_newLength_cabcc_20
set_option maxRecDepth 100000 in
set_option maxHeartbeats 4000000 in
theorem c_newCapacity (l : Launch) (D : va_G) (cy : Nat → ClassId) (E : va_W) (q v n k : Nat) (z : Int32) (f : Nat → Int32) (m9 : Nat) (h : n < m9) (hm : m9 < 2 ^ 28) : zMt l yJ5_newCapacity_0f7a4 cJ5_newCapacity_0f7a4 6 (some .int) (zrt 3 0 0) D (zTy cy) zEn (tB cy q v n z k f ++ E) [.ref q, .int (nI m9)] 0 0 (tI D (zTy cy) (fun r w => r = nI (zcap n m9) ∧ w = (tB cy q v n z k f ++ E))) := by
  refine zMt.of (by decide) (Nat.le_of_ble_eq_true rfl) ?_
  intro p e s m below meth c A C hr hE
  have hz := zcap_ge h
  refine zG_L (L' := [(0, .ref q), (1, .int (nI m9))]) rfl ?_
  refine g_aload_n (j := 0) C dJ5_newCapacity_0f7a4_0 rfl rfl ?_
  refine p_get (q0 := 0) (k := 0) (ci := 1) (N := 4) (v := .ref v) C rfl rfl zin_RJ4 (by decide) zfj_RJ5_15 rfl dJ5_newCapacity_0f7a4_1 ?_
  refine p_alen (q0 := 1) (n := n) C rfl dJ5_newCapacity_0f7a4_4 ?_
  refine g_istore_n (L' := [(2, .int (nI n)), (0, .ref q), (1, .int (nI m9))]) C dJ5_newCapacity_0f7a4_5 rfl (by decide) rfl ?_
  refine g_iload_n (j := 2) C dJ5_newCapacity_0f7a4_6 rfl rfl ?_
  refine g_aload_n (j := 1) C dJ5_newCapacity_0f7a4_7 rfl rfl ?_
  refine p_get (q0 := 0) (k := 1) (ci := 1) (N := 4) (v := .int (0 : Int32)) C rfl rfl zin_RJ4 (by decide) zfj_RJ5_22 rfl dJ5_newCapacity_0f7a4_8 ?_
  refine g_ishl C dJ5_newCapacity_0f7a4_11 ?_
  refine p_num (y := (nI m9)) (sb_shl0 _) ?_
  refine g_istore_n (L' := [(3, .int (nI m9)), (2, .int (nI n)), (0, .ref q), (1, .int (nI m9))]) C dJ5_newCapacity_0f7a4_12 rfl (by decide) rfl ?_
  refine g_iload_n (j := 0) C dJ5_newCapacity_0f7a4_13 rfl rfl ?_
  refine g_iload_n (j := 1) C dJ5_newCapacity_0f7a4_14 rfl rfl ?_
  refine g_isub C dJ5_newCapacity_0f7a4_15 ?_
  refine p_num (y := (nI (m9 - n))) (pk_sub (by omega)) ?_
  refine g_istore (L' := [(4, .int (nI (m9 - n))), (3, .int (nI m9)), (2, .int (nI n)), (0, .ref q), (1, .int (nI m9))]) C dJ5_newCapacity_0f7a4_16 (by decide) rfl ?_
  refine g_iload_n (j := 2) C dJ5_newCapacity_0f7a4_18 rfl rfl ?_
  refine g_iload (j := 0) C dJ5_newCapacity_0f7a4_19 rfl ?_
  refine g_iload_n (j := 2) C dJ5_newCapacity_0f7a4_21 rfl rfl ?_
  refine g_iconst (v := (nI 2)) C dJ5_newCapacity_0f7a4_22 (by decide) ?_
  refine g_aload_n (j := 3) C dJ5_newCapacity_0f7a4_23 rfl rfl ?_
  refine p_get (q0 := 0) (k := 1) (ci := 1) (N := 4) (v := .int (0 : Int32)) C rfl rfl zin_RJ4 (by decide) zfj_RJ5_22 rfl dJ5_newCapacity_0f7a4_24 ?_
  refine g_ishl C dJ5_newCapacity_0f7a4_27 ?_
  refine p_num (y := (nI 2)) (sb_shl0 _) ?_
  refine g_iadd C dJ5_newCapacity_0f7a4_28 ?_
  refine p_num (y := (nI (n + 2))) (nI_add _ _) ?_
  refine t_Si (As := [.int (nI n), .int (nI (m9 - n)), .int (nI (n + 2))]) (rest := []) zEn_ge hE C (c_newLength l D cy (tB cy q v n z k f ++ E) n m9 h hm) zml_RJ5_114 zcs_J8_newLength_cabcc rfl rfl ⟨Nat.le_of_ble_eq_true rfl, Nat.le_of_ble_eq_true rfl⟩ rfl rfl (Nat.le_of_ble_eq_true rfl) ⟨Nat.zero_le _, Nat.zero_le _⟩ dJ5_newCapacity_0f7a4_29 ?_
  intro r w h9
  obtain ⟨rfl, rfl⟩ := h9
  refine g_istore (L' := [(5, .int (nI (zcap n m9))), (4, .int (nI (m9 - n))), (3, .int (nI m9)), (2, .int (nI n)), (0, .ref q), (1, .int (nI m9))]) C dJ5_newCapacity_0f7a4_32 (by decide) rfl ?_
  refine g_iload (j := 0) C dJ5_newCapacity_0f7a4_34 rfl ?_
  refine g_ldci (v := 2147483647) C dJ5_newCapacity_0f7a4_36 zcon_RJ5_39 ?_
  refine g_icmp_ne C dJ5_newCapacity_0f7a4_38 (tgt := 51) (by decide) (fun _ => ?_) (fun h9 => absurd h9 (fun h9 => by have := (nI_eq (by omega) (by decide)).mp (show nI (zcap n m9) = nI 2147483647 from h9); omega))
  refine g_iload (j := 0) C dJ5_newCapacity_0f7a4_51 rfl ?_
  refine g_aload_n (j := 4) C dJ5_newCapacity_0f7a4_53 rfl rfl ?_
  refine p_get (q0 := 0) (k := 1) (ci := 1) (N := 4) (v := .int (0 : Int32)) C rfl rfl zin_RJ4 (by decide) zfj_RJ5_22 rfl dJ5_newCapacity_0f7a4_54 ?_
  refine g_ishr C dJ5_newCapacity_0f7a4_57 ?_
  refine p_num (y := (nI (zcap n m9))) (sb_shr0 _) ?_
  exact t_iret C hr rfl ⟨rfl, rfl⟩ (Nat.le_refl _) (Nat.le_refl _) dJ5_newCapacity_0f7a4_58
set_option maxRecDepth 100000 in
set_option maxHeartbeats 4000000 in
theorem c_copyOf (l : Launch) (D : va_G) (cy : Nat → ClassId) (E : va_W) (v n N : Nat) (f : Nat → Int32) (hf : sb_Fit f) (h : n < N) (hN : N < 2 ^ 28) : zMt l yJ7_copyOf_9075b cJ7_copyOf_9075b 3 (some (.array .byte)) (zrt 2 1 N) D (zTy cy) zEn ((v, .inl (cy 2, n, .inl f)) :: E) [.ref v, .int (nI N)] 1 N (tR D (zTy cy) (fun a w => w = (a, .inl (cy 2, N, .inl (va_cpy f (fun _ => 0) 0 0 n))) :: (v, .inl (cy 2, n, .inl f)) :: E)) := by
  refine zMt.of (by decide) (Nat.le_of_ble_eq_true rfl) ?_
  intro p e s m below meth c A C hr hE
  refine zG_L (L' := [(0, .ref v), (1, .int (nI N))]) rfl ?_
  refine g_iload_n (j := 1) C dJ7_copyOf_9075b_0 rfl rfl ?_
  refine g_aload_n (j := 0) C dJ7_copyOf_9075b_1 rfl rfl ?_
  refine p_alen (q0 := 0) (n := n) C rfl dJ7_copyOf_9075b_2 ?_
  refine g_icmp_ne C dJ7_copyOf_9075b_3 (tgt := 14) (by decide) (fun _ => ?_) (fun h9 => absurd h9 (fun h9 => by have := (nI_eq (by omega) (by omega)).mp h9; omega))
  refine g_iload_n (j := 1) C dJ7_copyOf_9075b_14 rfl rfl ?_
  refine p_newb (N := N) C zar_byte (nI_pos (by omega)) (nI_clamp (by omega)) (by omega) (by show 0 + 1 ≤ 1; omega) (by show 0 + N ≤ N; omega) dJ7_copyOf_9075b_15 (fun q2 => ?_)
  refine zG.less (ws' := (q2, .inl (cy 2, N, .inl (fun _ => 0))) :: (v, .inl (cy 2, n, .inl f)) :: E) (l' := ((v, .inl (cy 2, n, .inl f)) :: E) ++ [(q2, .inl (cy 2, N, .inl (fun _ => 0)))]) (List.perm_append_singleton _ _).symm (List.Sublist.refl _) ?_
  refine g_astore_n (L' := [(2, .ref q2), (0, .ref v), (1, .int (nI N))]) C dJ7_copyOf_9075b_17 rfl (by decide) rfl ?_
  refine g_aload_n (j := 1) C dJ7_copyOf_9075b_18 rfl rfl ?_
  refine g_iconst (v := (nI 0)) C dJ7_copyOf_9075b_19 (by decide) ?_
  refine g_aload_n (j := 0) C dJ7_copyOf_9075b_20 rfl rfl ?_
  refine g_iconst (v := (nI 0)) C dJ7_copyOf_9075b_21 (by decide) ?_
  refine g_aload_n (j := 1) C dJ7_copyOf_9075b_22 rfl rfl ?_
  refine p_alen (q0 := 1) (n := n) C rfl dJ7_copyOf_9075b_23 ?_
  refine g_iload_n (j := 2) C dJ7_copyOf_9075b_24 rfl rfl ?_
  refine g_mmin C zml_RJ7_304 (Nat.le_of_ble_eq_true rfl) (Nat.le_of_ble_eq_true rfl) (by show 0 + 1 ≤ 1; omega) (by show 0 + N ≤ N; omega) dJ7_copyOf_9075b_25 ?_
  refine p_num (y := (nI n)) (if_neg (nI_nlt (by omega) (by omega))) ?_
  refine p_copyb (q0 := 1) (q1 := 0) (ws' := (q2, .inl (cy 2, N, .inl (va_cpy f (fun _ => 0) 0 0 n))) :: (v, .inl (cy 2, n, .inl f)) :: E) C rfl rfl zml_RJ7_150 (by decide) (by decide) (nI_pos (by omega)) (by rw [nI_clamp (n := n) (by omega)]; exact Nat.le_of_eq (Nat.zero_add _)) (by rw [nI_clamp (n := n) (by omega)]; show 0 + n ≤ N; omega) (fun i _ => hf _) (Nat.le_of_ble_eq_true rfl) (Nat.le_of_ble_eq_true rfl) (by rw [nI_clamp (n := n) (by omega)]; rfl) dJ7_copyOf_9075b_28 ?_
  refine g_aload_n (j := 0) C dJ7_copyOf_9075b_31 rfl rfl ?_
  exact t_aret C hr (Or.inr ⟨_, rfl⟩) rfl (Nat.le_refl _) (by omega) dJ7_copyOf_9075b_32
def zcp (n m : Nat) : Nat := if m ≤ n then n else zcap n m
def zmc (n m : Nat) : Nat := if m ≤ n then 0 else 1
def zms (n m : Nat) : Nat := if m ≤ n then 0 else zcap n m
theorem zcp_ge (n m : Nat) : m ≤ zcp n m ∧ n ≤ zcp n m := by
  unfold zcp
  split
  · omega
  · have := zcap_ge (n := n) (m := m) (by omega); omega
set_option maxRecDepth 100000 in
set_option maxHeartbeats 4000000 in
theorem c_ens0 (l : Launch) (D : va_G) (cy : Nat → ClassId) (E : va_W) (q v n k : Nat) (z : Int32) (f : Nat → Int32) (m9 : Nat) (h : m9 ≤ n) (hn : n < 2 ^ 28) : zMt l yJ5_ensureCapacityInternal_d00df cJ5_ensureCapacityInternal_d00df 3 none (zrt 4 0 0) D (zTy cy) zEn (tB cy q v n z k f ++ E) [.ref q, .int (nI m9)] 0 0 (tV D (zTy cy) (fun w => w = (tB cy q v n z k f ++ E))) := by
  refine zMt.of (by decide) (Nat.le_of_ble_eq_true rfl) ?_
  intro p e s m below meth c A C hr hE
  refine zG_L (L' := [(0, .ref q), (1, .int (nI m9))]) rfl ?_
  refine g_aload_n (j := 0) C dJ5_ensureCapacityInternal_d00df_0 rfl rfl ?_
  refine p_get (q0 := 0) (k := 0) (ci := 1) (N := 4) (v := .ref v) C rfl rfl zin_RJ4 (by decide) zfj_RJ5_15 rfl dJ5_ensureCapacityInternal_d00df_1 ?_
  refine p_alen (q0 := 1) (n := n) C rfl dJ5_ensureCapacityInternal_d00df_4 ?_
  refine g_aload_n (j := 0) C dJ5_ensureCapacityInternal_d00df_5 rfl rfl ?_
  refine p_get (q0 := 0) (k := 1) (ci := 1) (N := 4) (v := .int (0 : Int32)) C rfl rfl zin_RJ4 (by decide) zfj_RJ5_22 rfl dJ5_ensureCapacityInternal_d00df_6 ?_
  refine g_ishr C dJ5_ensureCapacityInternal_d00df_9 ?_
  refine p_num (y := (nI n)) (sb_shr0 _) ?_
  refine g_istore_n (L' := [(2, .int (nI n)), (0, .ref q), (1, .int (nI m9))]) C dJ5_ensureCapacityInternal_d00df_10 rfl (by decide) rfl ?_
  refine g_iload_n (j := 2) C dJ5_ensureCapacityInternal_d00df_11 rfl rfl ?_
  refine g_iload_n (j := 0) C dJ5_ensureCapacityInternal_d00df_12 rfl rfl ?_
  refine g_isub C dJ5_ensureCapacityInternal_d00df_13 ?_
  refine g_if_le C dJ5_ensureCapacityInternal_d00df_14 (tgt := 38) (by decide) (fun _ => ?_) (fun h9 => absurd (by rw [Int32.le_iff_toInt_le, pk_sub_toInt (by omega) (by omega), Int32.toInt_zero]; omega) h9)
  exact t_vret C hr rfl (Nat.le_refl _) (Nat.le_refl _) dJ5_ensureCapacityInternal_d00df_38
set_option maxRecDepth 100000 in
set_option maxHeartbeats 4000000 in
theorem c_ens (l : Launch) (D : va_G) (cy : Nat → ClassId) (E : va_W) (q v n k : Nat) (z : Int32) (f : Nat → Int32) (m9 : Nat) (hf : sb_Fit f) (hn : n < 2 ^ 26) (hm : m9 < 2 ^ 27) : zMt l yJ5_ensureCapacityInternal_d00df cJ5_ensureCapacityInternal_d00df 3 none (zrt 4 (zmc n m9) (zms n m9)) D (zTy cy) zEn (tB cy q v n z k f ++ E) [.ref q, .int (nI m9)] (zmc n m9) (zms n m9) (tV D (zTy cy) (fun w => ∃ v2 f2, w = tB cy q v2 (zcp n m9) z k f2 ++ E ∧ (∀ j, j < n → f2 j = f j) ∧ sb_Fit f2)) := by
  unfold zcp zmc zms
  by_cases c9 : m9 ≤ n
  · simp only [if_pos c9]
    refine zMt.of (by decide) (Nat.le_of_ble_eq_true rfl) ?_
    intro p e s m below meth c A C hr hE
    refine zG_L (L' := [(0, .ref q), (1, .int (nI m9))]) rfl ?_
    refine g_aload_n (j := 0) C dJ5_ensureCapacityInternal_d00df_0 rfl rfl ?_
    refine p_get (q0 := 0) (k := 0) (ci := 1) (N := 4) (v := .ref v) C rfl rfl zin_RJ4 (by decide) zfj_RJ5_15 rfl dJ5_ensureCapacityInternal_d00df_1 ?_
    refine p_alen (q0 := 1) (n := n) C rfl dJ5_ensureCapacityInternal_d00df_4 ?_
    refine g_aload_n (j := 0) C dJ5_ensureCapacityInternal_d00df_5 rfl rfl ?_
    refine p_get (q0 := 0) (k := 1) (ci := 1) (N := 4) (v := .int (0 : Int32)) C rfl rfl zin_RJ4 (by decide) zfj_RJ5_22 rfl dJ5_ensureCapacityInternal_d00df_6 ?_
    refine g_ishr C dJ5_ensureCapacityInternal_d00df_9 ?_
    refine p_num (y := (nI n)) (sb_shr0 _) ?_
    refine g_istore_n (L' := [(2, .int (nI n)), (0, .ref q), (1, .int (nI m9))]) C dJ5_ensureCapacityInternal_d00df_10 rfl (by decide) rfl ?_
    refine g_iload_n (j := 2) C dJ5_ensureCapacityInternal_d00df_11 rfl rfl ?_
    refine g_iload_n (j := 0) C dJ5_ensureCapacityInternal_d00df_12 rfl rfl ?_
    refine g_isub C dJ5_ensureCapacityInternal_d00df_13 ?_
    refine g_if_le C dJ5_ensureCapacityInternal_d00df_14 (tgt := 38) (by decide) (fun _ => ?_) (fun h9 => absurd (by rw [Int32.le_iff_toInt_le, pk_sub_toInt (by omega) (by omega), Int32.toInt_zero]; omega) h9)
    exact t_vret C hr ⟨v, f, rfl, fun _ _ => rfl, hf⟩ (Nat.le_refl _) (Nat.le_refl _) dJ5_ensureCapacityInternal_d00df_38
  · simp only [if_neg c9]
    have hz := zcap_ge (n := n) (m := m9) (by omega)
    replace hm : m9 < 2 ^ 28 := by omega
    refine zMt.of (by decide) (Nat.le_of_ble_eq_true rfl) ?_
    intro p e s m below meth c A C hr hE
    refine zG_L (L' := [(0, .ref q), (1, .int (nI m9))]) rfl ?_
    refine g_aload_n (j := 0) C dJ5_ensureCapacityInternal_d00df_0 rfl rfl ?_
    refine p_get (q0 := 0) (k := 0) (ci := 1) (N := 4) (v := .ref v) C rfl rfl zin_RJ4 (by decide) zfj_RJ5_15 rfl dJ5_ensureCapacityInternal_d00df_1 ?_
    refine p_alen (q0 := 1) (n := n) C rfl dJ5_ensureCapacityInternal_d00df_4 ?_
    refine g_aload_n (j := 0) C dJ5_ensureCapacityInternal_d00df_5 rfl rfl ?_
    refine p_get (q0 := 0) (k := 1) (ci := 1) (N := 4) (v := .int (0 : Int32)) C rfl rfl zin_RJ4 (by decide) zfj_RJ5_22 rfl dJ5_ensureCapacityInternal_d00df_6 ?_
    refine g_ishr C dJ5_ensureCapacityInternal_d00df_9 ?_
    refine p_num (y := (nI n)) (sb_shr0 _) ?_
    refine g_istore_n (L' := [(2, .int (nI n)), (0, .ref q), (1, .int (nI m9))]) C dJ5_ensureCapacityInternal_d00df_10 rfl (by decide) rfl ?_
    refine g_iload_n (j := 2) C dJ5_ensureCapacityInternal_d00df_11 rfl rfl ?_
    refine g_iload_n (j := 0) C dJ5_ensureCapacityInternal_d00df_12 rfl rfl ?_
    refine g_isub C dJ5_ensureCapacityInternal_d00df_13 ?_
    refine g_if_le C dJ5_ensureCapacityInternal_d00df_14 (tgt := 38) (by decide) (fun h9 => absurd h9 (fun h9 => by rw [Int32.le_iff_toInt_le, pk_sub_toInt (by omega) (by omega), Int32.toInt_zero] at h9; omega)) (fun _ => ?_)
    refine g_aload_n (j := 1) C dJ5_ensureCapacityInternal_d00df_17 rfl rfl ?_
    refine g_aload_n (j := 1) C dJ5_ensureCapacityInternal_d00df_18 rfl rfl ?_
    refine p_get (q0 := 0) (k := 0) (ci := 1) (N := 4) (v := .ref v) C rfl rfl zin_RJ4 (by decide) zfj_RJ5_15 rfl dJ5_ensureCapacityInternal_d00df_19 ?_
    refine g_aload_n (j := 1) C dJ5_ensureCapacityInternal_d00df_22 rfl rfl ?_
    refine g_iload_n (j := 2) C dJ5_ensureCapacityInternal_d00df_23 rfl rfl ?_
    refine t_Ui (As := [.int (nI m9)]) (rest := [.ref v, .ref q]) zEn_ge hE C (c_newCapacity l D cy E q v n k z f m9 (by omega) hm) zcu_RJ5_104 (zselE hE.2.2.2.2 (List.mem_of_getElem? (i := 1) rfl) _) (zRec.of C (ci := 1) (q0 := 0) rfl rfl) rfl rfl ⟨Nat.le_of_ble_eq_true rfl, Nat.le_of_ble_eq_true rfl⟩ rfl rfl (Nat.le_of_ble_eq_true rfl) ⟨Nat.zero_le _, Nat.zero_le _⟩ dJ5_ensureCapacityInternal_d00df_24 ?_
    intro r w h9
    obtain ⟨rfl, rfl⟩ := h9
    refine g_aload_n (j := 1) C dJ5_ensureCapacityInternal_d00df_27 rfl rfl ?_
    refine p_get (q0 := 0) (k := 1) (ci := 1) (N := 4) (v := .int (0 : Int32)) C rfl rfl zin_RJ4 (by decide) zfj_RJ5_22 rfl dJ5_ensureCapacityInternal_d00df_28 ?_
    refine g_ishl C dJ5_ensureCapacityInternal_d00df_31 ?_
    refine p_num (y := (nI (zcap n m9))) (sb_shl0 _) ?_
    refine zG.less (ws' := (v, .inl (cy 2, n, .inl f)) :: (q, .inr (1, [.ref v, .int 0, .int z, .int (nI k)])) :: E) (l' := (tB cy q v n z k f ++ E)) (List.Perm.swap _ _ _) (List.Sublist.refl _) ?_
    refine t_Sr (As := [.ref v, .int (nI (zcap n m9))]) (rest := [.ref q]) zEn_ge hE C (c_copyOf l D cy ((q, .inr (1, [.ref v, .int 0, .int z, .int (nI k)])) :: E) v n (zcap n m9) f hf (by omega) (by omega)) zml_RJ5_108 zcs_J7_copyOf_9075b rfl rfl ⟨Nat.le_of_ble_eq_true rfl, Nat.le_of_ble_eq_true rfl⟩ rfl rfl (Nat.le_of_ble_eq_true rfl) ⟨by show 0 + 1 ≤ 1; omega, by show 0 + zcap n m9 ≤ zcap n m9; omega⟩ dJ5_ensureCapacityInternal_d00df_32 ?_
    intro r9 w h9
    subst h9
    refine p_put (q0 := 2) (k := 0) (ci := 1) (N := 4) (ty := .array .byte) (v := .ref r9) (ws' := (r9, .inl (cy 2, zcap n m9, .inl (va_cpy f (fun _ => 0) 0 0 n))) :: (v, .inl (cy 2, n, .inl f)) :: (q, .inr (1, [.ref r9, .int 0, .int z, .int (nI k)])) :: E) C rfl rfl zin_RJ4 (by decide) zfj_RJ5_15 tyJ4_ok nmJ4 rfl (by decide +kernel) rfl rfl (Nat.le_of_ble_eq_true rfl) rfl dJ5_ensureCapacityInternal_d00df_35 ?_
    refine zG.less (ws' := tB cy q r9 (zcap n m9) z k (va_cpy f (fun _ => 0) 0 0 n) ++ E) (l' := (r9, .inl (cy 2, zcap n m9, .inl (va_cpy f (fun _ => 0) 0 0 n))) :: (q, .inr (1, [.ref r9, .int 0, .int z, .int (nI k)])) :: E) (List.Perm.swap _ _ _) (((List.Sublist.refl _).cons _).cons_cons _) ?_
    exact t_vret C hr ⟨r9, _, rfl, fun j hj => sb_cpy0 hj, sb_fitC hf sb_fit0⟩ (by omega) (by omega) dJ5_ensureCapacityInternal_d00df_38
