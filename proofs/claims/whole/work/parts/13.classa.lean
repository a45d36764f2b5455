/-! laid by wip/whole/mkparts.py -/
def f_X3_copyFrom (X : Nat → Nat → Int32) (r : Nat) (r2 : Nat) : (Nat → Nat → Int32) := (zlet (f_X4_copyFrom X (r + 1) 24 (r2 + 1) 24) fun X_1 => (zlet (f_X4_copyFrom X_1 (r + 3) 96 (r2 + 3) 96) fun X_3 => (zlet (f_X4_copyFrom X_3 (r + 5) 40 (r2 + 5) 40) fun X_5 => (zlet (f_X4_copyFrom X_5 (r + 7) 360 (r2 + 7) 360) fun X_7 => (zlet (f_X4_copyFrom X_7 (r + 9) 150 (r2 + 9) 150) fun X_9 => (zlet (f_X4_copyFrom X_9 (r + 11) 26 (r2 + 11) 26) fun X_11 => (zlet (zU X_11 r 6 (X_11 r2 6)) fun X_13 => (zlet (zU X_13 r 7 (X_13 r2 7)) fun X_15 => X_15))))))))
set_option maxRecDepth 100000 in
set_option maxHeartbeats 4000000 in
theorem c_X3_copyFrom (l : Launch) (D : va_G) (cy : Nat → ClassId) (ad : Nat → Nat) (E : va_W) (X : Nat → Nat → Int32) (r : Nat) (r2 : Nat) (hst_r : zSt r) (hst_r2 : zSt r2) : zMv l yX3_copyFrom cX3_copyFrom 2 none (zrm 2) D (zTy cy) (zW cy ad shC E X) [.ref (ad r), .ref (ad r2)] (zW cy ad shC E (f_X3_copyFrom X r r2)) := by
  refine zMv.of (by decide) (Nat.le_of_ble_eq_true rfl) ?_
  intro p e s m below meth c A C hr
  generalize h : f_X3_copyFrom X r r2 = res
  unfold f_X3_copyFrom at h
  refine zG_L (L' := [(0, .ref (ad r)), (1, .ref (ad r2))]) rfl ?_
  refine g_aload_n (j := 0) C dX3_copyFrom_0 rfl rfl ?_
  refine g_getr (k := 0) (N := 8) C (zSt_0 hst_r) rfl zin_RX3 (by decide) rfl zfl_RX3_14 rfl dX3_copyFrom_1 ?_
  refine g_aload_n (j := 1) C dX3_copyFrom_4 rfl rfl ?_
  refine g_getr (k := 0) (N := 8) C (zSt_0 hst_r2) rfl zin_RX3 (by decide) rfl zfl_RX3_14 rfl dX3_copyFrom_5 ?_
  obtain ⟨X_1, e_2, h⟩ := zlet_ex h
  refine g_vv (ws' := (zW cy ad shC E X_1)) (As := [.ref (ad (r2 + 1))]) (rest := []) C ((by rw [e_2]; exact c_X4_copyFrom l D cy ad E X (r + 1) 24 (r2 + 1) 24 (zSt_1 hst_r) (zSt_2 hst_r) (by decide) (zSt_1 hst_r2) (zSt_2 hst_r2) (by decide))) zml_RX3_50 zcv_X4_copyFrom (zW_get X (zSt_1 hst_r)) rfl rfl rfl ⟨Nat.le_of_ble_eq_true rfl, Nat.le_of_ble_eq_true rfl⟩ rfl rfl (Nat.le_of_ble_eq_true rfl) ⟨Nat.zero_le _, Nat.zero_le _⟩ dX3_copyFrom_8 ?_
  refine g_aload_n (j := 0) C dX3_copyFrom_11 rfl rfl ?_
  refine g_getr (k := 1) (N := 8) C (zSt_0 hst_r) rfl zin_RX3 (by decide) rfl zfl_RX3_20 rfl dX3_copyFrom_12 ?_
  refine g_aload_n (j := 1) C dX3_copyFrom_15 rfl rfl ?_
  refine g_getr (k := 1) (N := 8) C (zSt_0 hst_r2) rfl zin_RX3 (by decide) rfl zfl_RX3_20 rfl dX3_copyFrom_16 ?_
  obtain ⟨X_3, e_4, h⟩ := zlet_ex h
  refine g_vv (ws' := (zW cy ad shC E X_3)) (As := [.ref (ad (r2 + 3))]) (rest := []) C ((by rw [e_4]; exact c_X4_copyFrom l D cy ad E X_1 (r + 3) 96 (r2 + 3) 96 (zSt_3 hst_r) (zSt_4 hst_r) (by decide) (zSt_3 hst_r2) (zSt_4 hst_r2) (by decide))) zml_RX3_50 zcv_X4_copyFrom (zW_get X_1 (zSt_3 hst_r)) rfl rfl rfl ⟨Nat.le_of_ble_eq_true rfl, Nat.le_of_ble_eq_true rfl⟩ rfl rfl (Nat.le_of_ble_eq_true rfl) ⟨Nat.zero_le _, Nat.zero_le _⟩ dX3_copyFrom_19 ?_
  refine g_aload_n (j := 0) C dX3_copyFrom_22 rfl rfl ?_
  refine g_getr (k := 2) (N := 8) C (zSt_0 hst_r) rfl zin_RX3 (by decide) rfl zfl_RX3_23 rfl dX3_copyFrom_23 ?_
  refine g_aload_n (j := 1) C dX3_copyFrom_26 rfl rfl ?_
  refine g_getr (k := 2) (N := 8) C (zSt_0 hst_r2) rfl zin_RX3 (by decide) rfl zfl_RX3_23 rfl dX3_copyFrom_27 ?_
  obtain ⟨X_5, e_6, h⟩ := zlet_ex h
  refine g_vv (ws' := (zW cy ad shC E X_5)) (As := [.ref (ad (r2 + 5))]) (rest := []) C ((by rw [e_6]; exact c_X4_copyFrom l D cy ad E X_3 (r + 5) 40 (r2 + 5) 40 (zSt_5 hst_r) (zSt_6 hst_r) (by decide) (zSt_5 hst_r2) (zSt_6 hst_r2) (by decide))) zml_RX3_50 zcv_X4_copyFrom (zW_get X_3 (zSt_5 hst_r)) rfl rfl rfl ⟨Nat.le_of_ble_eq_true rfl, Nat.le_of_ble_eq_true rfl⟩ rfl rfl (Nat.le_of_ble_eq_true rfl) ⟨Nat.zero_le _, Nat.zero_le _⟩ dX3_copyFrom_30 ?_
  refine g_aload_n (j := 0) C dX3_copyFrom_33 rfl rfl ?_
  refine g_getr (k := 3) (N := 8) C (zSt_0 hst_r) rfl zin_RX3 (by decide) rfl zfl_RX3_26 rfl dX3_copyFrom_34 ?_
  refine g_aload_n (j := 1) C dX3_copyFrom_37 rfl rfl ?_
  refine g_getr (k := 3) (N := 8) C (zSt_0 hst_r2) rfl zin_RX3 (by decide) rfl zfl_RX3_26 rfl dX3_copyFrom_38 ?_
  obtain ⟨X_7, e_8, h⟩ := zlet_ex h
  refine g_vv (ws' := (zW cy ad shC E X_7)) (As := [.ref (ad (r2 + 7))]) (rest := []) C ((by rw [e_8]; exact c_X4_copyFrom l D cy ad E X_5 (r + 7) 360 (r2 + 7) 360 (zSt_7 hst_r) (zSt_8 hst_r) (by decide) (zSt_7 hst_r2) (zSt_8 hst_r2) (by decide))) zml_RX3_50 zcv_X4_copyFrom (zW_get X_5 (zSt_7 hst_r)) rfl rfl rfl ⟨Nat.le_of_ble_eq_true rfl, Nat.le_of_ble_eq_true rfl⟩ rfl rfl (Nat.le_of_ble_eq_true rfl) ⟨Nat.zero_le _, Nat.zero_le _⟩ dX3_copyFrom_41 ?_
  refine g_aload_n (j := 0) C dX3_copyFrom_44 rfl rfl ?_
  refine g_getr (k := 4) (N := 8) C (zSt_0 hst_r) rfl zin_RX3 (by decide) rfl zfl_RX3_29 rfl dX3_copyFrom_45 ?_
  refine g_aload_n (j := 1) C dX3_copyFrom_48 rfl rfl ?_
  refine g_getr (k := 4) (N := 8) C (zSt_0 hst_r2) rfl zin_RX3 (by decide) rfl zfl_RX3_29 rfl dX3_copyFrom_49 ?_
  obtain ⟨X_9, e_10, h⟩ := zlet_ex h
  refine g_vv (ws' := (zW cy ad shC E X_9)) (As := [.ref (ad (r2 + 9))]) (rest := []) C ((by rw [e_10]; exact c_X4_copyFrom l D cy ad E X_7 (r + 9) 150 (r2 + 9) 150 (zSt_9 hst_r) (zSt_10 hst_r) (by decide) (zSt_9 hst_r2) (zSt_10 hst_r2) (by decide))) zml_RX3_50 zcv_X4_copyFrom (zW_get X_7 (zSt_9 hst_r)) rfl rfl rfl ⟨Nat.le_of_ble_eq_true rfl, Nat.le_of_ble_eq_true rfl⟩ rfl rfl (Nat.le_of_ble_eq_true rfl) ⟨Nat.zero_le _, Nat.zero_le _⟩ dX3_copyFrom_52 ?_
  refine g_aload_n (j := 0) C dX3_copyFrom_55 rfl rfl ?_
  refine g_getr (k := 5) (N := 8) C (zSt_0 hst_r) rfl zin_RX3 (by decide) rfl zfl_RX3_32 rfl dX3_copyFrom_56 ?_
  refine g_aload_n (j := 1) C dX3_copyFrom_59 rfl rfl ?_
  refine g_getr (k := 5) (N := 8) C (zSt_0 hst_r2) rfl zin_RX3 (by decide) rfl zfl_RX3_32 rfl dX3_copyFrom_60 ?_
  obtain ⟨X_11, e_12, h⟩ := zlet_ex h
  refine g_vv (ws' := (zW cy ad shC E X_11)) (As := [.ref (ad (r2 + 11))]) (rest := []) C ((by rw [e_12]; exact c_X4_copyFrom l D cy ad E X_9 (r + 11) 26 (r2 + 11) 26 (zSt_11 hst_r) (zSt_12 hst_r) (by decide) (zSt_11 hst_r2) (zSt_12 hst_r2) (by decide))) zml_RX3_50 zcv_X4_copyFrom (zW_get X_9 (zSt_11 hst_r)) rfl rfl rfl ⟨Nat.le_of_ble_eq_true rfl, Nat.le_of_ble_eq_true rfl⟩ rfl rfl (Nat.le_of_ble_eq_true rfl) ⟨Nat.zero_le _, Nat.zero_le _⟩ dX3_copyFrom_63 ?_
  refine g_aload_n (j := 0) C dX3_copyFrom_66 rfl rfl ?_
  refine g_aload_n (j := 1) C dX3_copyFrom_67 rfl rfl ?_
  refine g_geti (k := 6) (N := 8) C (zSt_0 hst_r2) rfl zin_RX3 (by decide) rfl zfl_RX3_35 rfl dX3_copyFrom_68 ?_
  refine g_puti (k := 6) (N := 8) (ty := .int) C (zSt_0 hst_r) rfl zin_RX3 (by decide) rfl zfl_RX3_35 rfl tyX3_ok nmX3 rfl (by decide +kernel) rfl rfl dX3_copyFrom_71 ?_
  obtain ⟨X_13, e_14, h⟩ := zlet_ex h
  rw [← e_14]
  refine g_aload_n (j := 0) C dX3_copyFrom_74 rfl rfl ?_
  refine g_aload_n (j := 1) C dX3_copyFrom_75 rfl rfl ?_
  refine g_geti (k := 7) (N := 8) C (zSt_0 hst_r2) rfl zin_RX3 (by decide) rfl zfl_RX3_39 rfl dX3_copyFrom_76 ?_
  refine g_puti (k := 7) (N := 8) (ty := .int) C (zSt_0 hst_r) rfl zin_RX3 (by decide) rfl zfl_RX3_39 rfl tyX3_ok nmX3 rfl (by decide +kernel) rfl rfl dX3_copyFrom_79 ?_
  obtain ⟨X_15, e_16, h⟩ := zlet_ex h
  rw [← e_16]
  subst h
  exact g_vret rfl C hr dX3_copyFrom_82
def f_X3_settingOf (X : Nat → Nat → Int32) (v1 : Int32) : Int32 := (f_X4_get X 12 26 (nI 0) v1)
set_option maxRecDepth 100000 in
set_option maxHeartbeats 4000000 in
theorem c_X3_settingOf (l : Launch) (D : va_G) (cy : Nat → ClassId) (ad : Nat → Nat) (E : va_W) (X : Nat → Nat → Int32) (v1 : Int32) : zMi l yX3_settingOf cX3_settingOf 2 (some .int) (zrm 2) D (zTy cy) (zW cy ad shC E X) [.ref (ad 1), .int v1] (f_X3_settingOf X v1) (zW cy ad shC E X) := by
  refine zMi.of (by decide) (Nat.le_of_ble_eq_true rfl) ?_
  intro p e s m below meth c A C hr
  generalize h : f_X3_settingOf X v1 = res
  unfold f_X3_settingOf at h
  refine zG_L (L' := [(0, .ref (ad 1)), (1, .int v1)]) rfl ?_
  refine g_aload_n (j := 0) C dX3_settingOf_0 rfl rfl ?_
  refine g_getr (k := 5) (N := 8) C sC_1 rfl zin_RX3 (by decide) rfl zfl_RX3_32 rfl dX3_settingOf_1 ?_
  refine g_iconst (v := (nI 0)) C dX3_settingOf_4 (by decide) ?_
  refine g_iload_n (j := 1) C dX3_settingOf_5 rfl rfl ?_
  refine g_vi (ws' := (zW cy ad shC E X)) (As := [.int (nI 0), .int v1]) (rest := []) (res := (f_X4_get X 12 26 (nI 0) v1)) C (c_X4_get l D cy ad E X 12 26 sC_12 sC_13 (by decide) (nI 0) v1) zml_RX3_54 zcv_X4_get (zW_get X sC_12) rfl rfl rfl ⟨Nat.le_of_ble_eq_true rfl, Nat.le_of_ble_eq_true rfl⟩ rfl rfl (Nat.le_of_ble_eq_true rfl) ⟨Nat.zero_le _, Nat.zero_le _⟩ dX3_settingOf_6 ?_
  subst h
  exact g_iret rfl C hr rfl dX3_settingOf_9
def f_X3_exchangeSetting (X : Nat → Nat → Int32) (v1 v2 : Int32) : Int32 × (Nat → Nat → Int32) := (zlet (f_X4_put X 12 26 (nI 0) v1 v2) fun X_1 => ((f_X4_get X 12 26 (nI 0) v1), X_1))
set_option maxRecDepth 100000 in
set_option maxHeartbeats 4000000 in
theorem c_X3_exchangeSetting (l : Launch) (D : va_G) (cy : Nat → ClassId) (ad : Nat → Nat) (E : va_W) (X : Nat → Nat → Int32) (v1 v2 : Int32) : zMi l yX3_exchangeSetting cX3_exchangeSetting 4 (some .int) (zrm 2) D (zTy cy) (zW cy ad shC E X) [.ref (ad 1), .int v1, .int v2] ((f_X3_exchangeSetting X v1 v2).1) (zW cy ad shC E (f_X3_exchangeSetting X v1 v2).2) := by
  refine zMi.of (by decide) (Nat.le_of_ble_eq_true rfl) ?_
  intro p e s m below meth c A C hr
  generalize h : f_X3_exchangeSetting X v1 v2 = res
  unfold f_X3_exchangeSetting at h
  refine zG_L (L' := [(0, .ref (ad 1)), (1, .int v1), (2, .int v2)]) rfl ?_
  refine g_aload_n (j := 0) C dX3_exchangeSetting_0 rfl rfl ?_
  refine g_getr (k := 5) (N := 8) C sC_1 rfl zin_RX3 (by decide) rfl zfl_RX3_32 rfl dX3_exchangeSetting_1 ?_
  refine g_iconst (v := (nI 0)) C dX3_exchangeSetting_4 (by decide) ?_
  refine g_iload_n (j := 1) C dX3_exchangeSetting_5 rfl rfl ?_
  refine g_vi (ws' := (zW cy ad shC E X)) (As := [.int (nI 0), .int v1]) (rest := []) (res := (f_X4_get X 12 26 (nI 0) v1)) C (c_X4_get l D cy ad E X 12 26 sC_12 sC_13 (by decide) (nI 0) v1) zml_RX3_54 zcv_X4_get (zW_get X sC_12) rfl rfl rfl ⟨Nat.le_of_ble_eq_true rfl, Nat.le_of_ble_eq_true rfl⟩ rfl rfl (Nat.le_of_ble_eq_true rfl) ⟨Nat.zero_le _, Nat.zero_le _⟩ dX3_exchangeSetting_6 ?_
  refine g_istore_n (L' := [(3, .int (f_X4_get X 12 26 (nI 0) v1)), (0, .ref (ad 1)), (1, .int v1), (2, .int v2)]) C dX3_exchangeSetting_9 rfl (by decide) rfl ?_
  refine g_aload_n (j := 1) C dX3_exchangeSetting_10 rfl rfl ?_
  refine g_getr (k := 5) (N := 8) C sC_1 rfl zin_RX3 (by decide) rfl zfl_RX3_32 rfl dX3_exchangeSetting_11 ?_
  refine g_iconst (v := (nI 0)) C dX3_exchangeSetting_14 (by decide) ?_
  refine g_iload_n (j := 2) C dX3_exchangeSetting_15 rfl rfl ?_
  refine g_iload_n (j := 3) C dX3_exchangeSetting_16 rfl rfl ?_
  obtain ⟨X_1, e_2, h⟩ := zlet_ex h
  refine g_vv (ws' := (zW cy ad shC E X_1)) (As := [.int (nI 0), .int v1, .int v2]) (rest := []) C ((by rw [e_2]; exact c_X4_put l D cy ad E X 12 26 sC_12 sC_13 (by decide) (nI 0) v1 v2)) zml_RX3_46 zcv_X4_put (zW_get X sC_12) rfl rfl rfl ⟨Nat.le_of_ble_eq_true rfl, Nat.le_of_ble_eq_true rfl⟩ rfl rfl (Nat.le_of_ble_eq_true rfl) ⟨Nat.zero_le _, Nat.zero_le _⟩ dX3_exchangeSetting_17 ?_
  refine g_iload_n (j := 0) C dX3_exchangeSetting_20 rfl rfl ?_
  subst h
  exact g_iret rfl C hr rfl dX3_exchangeSetting_21
def f_X3_isClosed (X : Nat → Nat → Int32) (v1 v2 : Int32) : Int32 := (if (f_X4_get X 2 24 v1 (nI 3)) = (-1 : Int32) then (nI 0) else (if v2 < (f_X4_get X 2 24 v1 (nI 3)) then (nI 0) else (nI 1)))
theorem b_X3_isClosed (X : Nat → Nat → Int32) (v1 v2 : Int32) : f_X3_isClosed X v1 v2 = 0 ∨ f_X3_isClosed X v1 v2 = 1 := by
  unfold f_X3_isClosed
  repeat' split
  all_goals first | exact Or.inl rfl | exact Or.inr rfl
set_option maxRecDepth 100000 in
set_option maxHeartbeats 4000000 in
theorem c_X3_isClosed (l : Launch) (D : va_G) (cy : Nat → ClassId) (ad : Nat → Nat) (E : va_W) (X : Nat → Nat → Int32) (v1 v2 : Int32) : zMi l yX3_isClosed cX3_isClosed 4 (some .boolean) (zrm 2) D (zTy cy) (zW cy ad shC E X) [.ref (ad 1), .int v1, .int v2] (f_X3_isClosed X v1 v2) (zW cy ad shC E X) := by
  refine zMi.of (by decide) (Nat.le_of_ble_eq_true rfl) ?_
  intro p e s m below meth c A C hr
  generalize h : f_X3_isClosed X v1 v2 = res
  unfold f_X3_isClosed at h
  refine zG_L (L' := [(0, .ref (ad 1)), (1, .int v1), (2, .int v2)]) rfl ?_
  refine g_aload_n (j := 0) C dX3_isClosed_0 rfl rfl ?_
  refine g_getr (k := 0) (N := 8) C sC_1 rfl zin_RX3 (by decide) rfl zfl_RX3_14 rfl dX3_isClosed_1 ?_
  refine g_iload_n (j := 1) C dX3_isClosed_4 rfl rfl ?_
  refine g_iconst (v := (nI 3)) C dX3_isClosed_5 (by decide) ?_
  refine g_vi (ws' := (zW cy ad shC E X)) (As := [.int v1, .int (nI 3)]) (rest := []) (res := (f_X4_get X 2 24 v1 (nI 3))) C (c_X4_get l D cy ad E X 2 24 sC_2 sC_3 (by decide) v1 (nI 3)) zml_RX3_54 zcv_X4_get (zW_get X sC_2) rfl rfl rfl ⟨Nat.le_of_ble_eq_true rfl, Nat.le_of_ble_eq_true rfl⟩ rfl rfl (Nat.le_of_ble_eq_true rfl) ⟨Nat.zero_le _, Nat.zero_le _⟩ dX3_isClosed_6 ?_
  refine g_istore_n (L' := [(3, .int (f_X4_get X 2 24 v1 (nI 3))), (0, .ref (ad 1)), (1, .int v1), (2, .int v2)]) C dX3_isClosed_9 rfl (by decide) rfl ?_
  refine g_iload_n (j := 0) C dX3_isClosed_10 rfl rfl ?_
  refine g_iconst (v := (-1 : Int32)) C dX3_isClosed_11 (by decide) ?_
  refine g_icmp_eq C dX3_isClosed_12 (tgt := 24) (by decide) (fun hc_1 => ?_) (fun hc_1 => ?_)
  · replace h := (if_pos hc_1).symm.trans h
    refine g_iconst (v := (nI 0)) C dX3_isClosed_24 (by decide) ?_
    subst h
    exact g_iret rfl C hr (z_nb (Or.inl rfl)) dX3_isClosed_25
  · replace h := (if_neg hc_1).symm.trans h
    refine g_iload_n (j := 3) C dX3_isClosed_15 rfl rfl ?_
    refine g_iload_n (j := 0) C dX3_isClosed_16 rfl rfl ?_
    refine g_icmp_lt C dX3_isClosed_17 (tgt := 24) (by decide) (fun hc_2 => ?_) (fun hc_2 => ?_)
    · replace h := (if_pos hc_2).symm.trans h
      refine g_iconst (v := (nI 0)) C dX3_isClosed_24 (by decide) ?_
      subst h
      exact g_iret rfl C hr (z_nb (Or.inl rfl)) dX3_isClosed_25
    · replace h := (if_neg hc_2).symm.trans h
      refine g_iconst (v := (nI 1)) C dX3_isClosed_20 (by decide) ?_
      refine g_goto C dX3_isClosed_21 (tgt := 25) (by decide) ?_
      subst h
      exact g_iret rfl C hr (z_nb (Or.inr rfl)) dX3_isClosed_25
def f_X3_shareOn (X : Nat → Nat → Int32) (v1 v2 : Int32) : Int32 := (if ((f_X4_get X 4 96 v1 (nI 9)) - ((f_X4_get X 4 96 v1 (nI 10)) * ((v2 - (f_X4_get X 4 96 v1 (nI 4))) / (nI 7)))) < (f_X4_get X 4 96 v1 (nI 11)) then (f_X4_get X 4 96 v1 (nI 11)) else ((f_X4_get X 4 96 v1 (nI 9)) - ((f_X4_get X 4 96 v1 (nI 10)) * ((v2 - (f_X4_get X 4 96 v1 (nI 4))) / (nI 7)))))
set_option maxRecDepth 100000 in
set_option maxHeartbeats 4000000 in
theorem c_X3_shareOn (l : Launch) (D : va_G) (cy : Nat → ClassId) (ad : Nat → Nat) (E : va_W) (X : Nat → Nat → Int32) (v1 v2 : Int32) : zMi l yX3_shareOn cX3_shareOn 5 (some .int) (zrm 2) D (zTy cy) (zW cy ad shC E X) [.ref (ad 1), .int v1, .int v2] (f_X3_shareOn X v1 v2) (zW cy ad shC E X) := by
  refine zMi.of (by decide) (Nat.le_of_ble_eq_true rfl) ?_
  intro p e s m below meth c A C hr
  generalize h : f_X3_shareOn X v1 v2 = res
  unfold f_X3_shareOn at h
  refine zG_L (L' := [(0, .ref (ad 1)), (1, .int v1), (2, .int v2)]) rfl ?_
  refine g_iload_n (j := 2) C dX3_shareOn_0 rfl rfl ?_
  refine g_aload_n (j := 0) C dX3_shareOn_1 rfl rfl ?_
  refine g_getr (k := 1) (N := 8) C sC_1 rfl zin_RX3 (by decide) rfl zfl_RX3_20 rfl dX3_shareOn_2 ?_
  refine g_iload_n (j := 1) C dX3_shareOn_5 rfl rfl ?_
  refine g_iconst (v := (nI 4)) C dX3_shareOn_6 (by decide) ?_
  refine g_vi (ws' := (zW cy ad shC E X)) (As := [.int v1, .int (nI 4)]) (rest := [.int v2]) (res := (f_X4_get X 4 96 v1 (nI 4))) C (c_X4_get l D cy ad E X 4 96 sC_4 sC_5 (by decide) v1 (nI 4)) zml_RX3_54 zcv_X4_get (zW_get X sC_4) rfl rfl rfl ⟨Nat.le_of_ble_eq_true rfl, Nat.le_of_ble_eq_true rfl⟩ rfl rfl (Nat.le_of_ble_eq_true rfl) ⟨Nat.zero_le _, Nat.zero_le _⟩ dX3_shareOn_7 ?_
  refine g_isub C dX3_shareOn_10 ?_
  refine g_bipush (v := (nI 7)) C dX3_shareOn_11 (by decide) ?_
  refine g_idiv C dX3_shareOn_13 (by decide) ?_
  refine g_istore_n (L' := [(3, .int ((v2 - (f_X4_get X 4 96 v1 (nI 4))) / (nI 7))), (0, .ref (ad 1)), (1, .int v1), (2, .int v2)]) C dX3_shareOn_14 rfl (by decide) rfl ?_
  refine g_aload_n (j := 1) C dX3_shareOn_15 rfl rfl ?_
  refine g_getr (k := 1) (N := 8) C sC_1 rfl zin_RX3 (by decide) rfl zfl_RX3_20 rfl dX3_shareOn_16 ?_
  refine g_iload_n (j := 2) C dX3_shareOn_19 rfl rfl ?_
  refine g_bipush (v := (nI 9)) C dX3_shareOn_20 (by decide) ?_
  refine g_vi (ws' := (zW cy ad shC E X)) (As := [.int v1, .int (nI 9)]) (rest := []) (res := (f_X4_get X 4 96 v1 (nI 9))) C (c_X4_get l D cy ad E X 4 96 sC_4 sC_5 (by decide) v1 (nI 9)) zml_RX3_54 zcv_X4_get (zW_get X sC_4) rfl rfl rfl ⟨Nat.le_of_ble_eq_true rfl, Nat.le_of_ble_eq_true rfl⟩ rfl rfl (Nat.le_of_ble_eq_true rfl) ⟨Nat.zero_le _, Nat.zero_le _⟩ dX3_shareOn_22 ?_
  refine g_aload_n (j := 1) C dX3_shareOn_25 rfl rfl ?_
  refine g_getr (k := 1) (N := 8) C sC_1 rfl zin_RX3 (by decide) rfl zfl_RX3_20 rfl dX3_shareOn_26 ?_
  refine g_iload_n (j := 2) C dX3_shareOn_29 rfl rfl ?_
  refine g_bipush (v := (nI 10)) C dX3_shareOn_30 (by decide) ?_
  refine g_vi (ws' := (zW cy ad shC E X)) (As := [.int v1, .int (nI 10)]) (rest := [.int (f_X4_get X 4 96 v1 (nI 9))]) (res := (f_X4_get X 4 96 v1 (nI 10))) C (c_X4_get l D cy ad E X 4 96 sC_4 sC_5 (by decide) v1 (nI 10)) zml_RX3_54 zcv_X4_get (zW_get X sC_4) rfl rfl rfl ⟨Nat.le_of_ble_eq_true rfl, Nat.le_of_ble_eq_true rfl⟩ rfl rfl (Nat.le_of_ble_eq_true rfl) ⟨Nat.zero_le _, Nat.zero_le _⟩ dX3_shareOn_32 ?_
  refine g_iload_n (j := 0) C dX3_shareOn_35 rfl rfl ?_
  refine g_imul C dX3_shareOn_36 ?_
  refine g_isub C dX3_shareOn_37 ?_
  refine g_istore (L' := [(4, .int ((f_X4_get X 4 96 v1 (nI 9)) - ((f_X4_get X 4 96 v1 (nI 10)) * ((v2 - (f_X4_get X 4 96 v1 (nI 4))) / (nI 7))))), (3, .int ((v2 - (f_X4_get X 4 96 v1 (nI 4))) / (nI 7))), (0, .ref (ad 1)), (1, .int v1), (2, .int v2)]) C dX3_shareOn_38 (by decide) rfl ?_
  refine g_iload (j := 0) C dX3_shareOn_40 rfl ?_
  refine g_aload_n (j := 2) C dX3_shareOn_42 rfl rfl ?_
  refine g_getr (k := 1) (N := 8) C sC_1 rfl zin_RX3 (by decide) rfl zfl_RX3_20 rfl dX3_shareOn_43 ?_
  refine g_iload_n (j := 3) C dX3_shareOn_46 rfl rfl ?_
  refine g_bipush (v := (nI 11)) C dX3_shareOn_47 (by decide) ?_
  refine g_vi (ws' := (zW cy ad shC E X)) (As := [.int v1, .int (nI 11)]) (rest := [.int ((f_X4_get X 4 96 v1 (nI 9)) - ((f_X4_get X 4 96 v1 (nI 10)) * ((v2 - (f_X4_get X 4 96 v1 (nI 4))) / (nI 7))))]) (res := (f_X4_get X 4 96 v1 (nI 11))) C (c_X4_get l D cy ad E X 4 96 sC_4 sC_5 (by decide) v1 (nI 11)) zml_RX3_54 zcv_X4_get (zW_get X sC_4) rfl rfl rfl ⟨Nat.le_of_ble_eq_true rfl, Nat.le_of_ble_eq_true rfl⟩ rfl rfl (Nat.le_of_ble_eq_true rfl) ⟨Nat.zero_le _, Nat.zero_le _⟩ dX3_shareOn_49 ?_
  refine g_mmax C zml_RX3_58 (Nat.le_of_ble_eq_true rfl) (Nat.le_of_ble_eq_true rfl) (Nat.le_of_ble_eq_true rfl) (Nat.le_of_ble_eq_true rfl) dX3_shareOn_52 ?_
  subst h
  exact g_iret rfl C hr rfl dX3_shareOn_55
def f_X3_isFitting (X : Nat → Nat → Int32) (v1 v2 v3 : Int32) : Int32 := (if (f_X4_get X 6 40 v1 (nI 0)) = v2 then (nI 0) else (if (f_X4_get X 4 96 (f_X4_get X 6 40 v1 (nI 0)) (nI 4)) ≤ v3 then (nI 0) else (if (f_X4_get X 4 96 v2 (nI 1)) < (f_X4_get X 6 40 v1 (nI 2)) then (nI 0) else (if ((f_X4_get X 6 40 v1 (nI 3)) &&& (f_X4_get X 4 96 v2 (nI 2))) = 0 then (nI 0) else (nI 1)))))
theorem b_X3_isFitting (X : Nat → Nat → Int32) (v1 v2 v3 : Int32) : f_X3_isFitting X v1 v2 v3 = 0 ∨ f_X3_isFitting X v1 v2 v3 = 1 := by
  unfold f_X3_isFitting
  repeat' split
  all_goals first | exact Or.inl rfl | exact Or.inr rfl
set_option maxRecDepth 100000 in
set_option maxHeartbeats 4000000 in
theorem c_X3_isFitting (l : Launch) (D : va_G) (cy : Nat → ClassId) (ad : Nat → Nat) (E : va_W) (X : Nat → Nat → Int32) (v1 v2 v3 : Int32) : zMi l yX3_isFitting cX3_isFitting 5 (some .boolean) (zrm 2) D (zTy cy) (zW cy ad shC E X) [.ref (ad 1), .int v1, .int v2, .int v3] (f_X3_isFitting X v1 v2 v3) (zW cy ad shC E X) := by
  refine zMi.of (by decide) (Nat.le_of_ble_eq_true rfl) ?_
  intro p e s m below meth c A C hr
  generalize h : f_X3_isFitting X v1 v2 v3 = res
  unfold f_X3_isFitting at h
  refine zG_L (L' := [(0, .ref (ad 1)), (1, .int v1), (2, .int v2), (3, .int v3)]) rfl ?_
  refine g_aload_n (j := 0) C dX3_isFitting_0 rfl rfl ?_
  refine g_getr (k := 2) (N := 8) C sC_1 rfl zin_RX3 (by decide) rfl zfl_RX3_23 rfl dX3_isFitting_1 ?_
  refine g_iload_n (j := 1) C dX3_isFitting_4 rfl rfl ?_
  refine g_iconst (v := (nI 0)) C dX3_isFitting_5 (by decide) ?_
  refine g_vi (ws' := (zW cy ad shC E X)) (As := [.int v1, .int (nI 0)]) (rest := []) (res := (f_X4_get X 6 40 v1 (nI 0))) C (c_X4_get l D cy ad E X 6 40 sC_6 sC_7 (by decide) v1 (nI 0)) zml_RX3_54 zcv_X4_get (zW_get X sC_6) rfl rfl rfl ⟨Nat.le_of_ble_eq_true rfl, Nat.le_of_ble_eq_true rfl⟩ rfl rfl (Nat.le_of_ble_eq_true rfl) ⟨Nat.zero_le _, Nat.zero_le _⟩ dX3_isFitting_6 ?_
  refine g_istore (L' := [(4, .int (f_X4_get X 6 40 v1 (nI 0))), (0, .ref (ad 1)), (1, .int v1), (2, .int v2), (3, .int v3)]) C dX3_isFitting_9 (by decide) rfl ?_
  refine g_iload (j := 0) C dX3_isFitting_11 rfl ?_
  refine g_iload_n (j := 3) C dX3_isFitting_13 rfl rfl ?_
  refine g_icmp_eq C dX3_isFitting_14 (tgt := 78) (by decide) (fun hc_1 => ?_) (fun hc_1 => ?_)
  · replace h := (if_pos hc_1).symm.trans h
    refine g_iconst (v := (nI 0)) C dX3_isFitting_78 (by decide) ?_
    subst h
    exact g_iret rfl C hr (z_nb (Or.inl rfl)) dX3_isFitting_79
  · replace h := (if_neg hc_1).symm.trans h
    refine g_aload_n (j := 1) C dX3_isFitting_17 rfl rfl ?_
    refine g_getr (k := 1) (N := 8) C sC_1 rfl zin_RX3 (by decide) rfl zfl_RX3_20 rfl dX3_isFitting_18 ?_
    refine g_iload (j := 0) C dX3_isFitting_21 rfl ?_
    refine g_iconst (v := (nI 4)) C dX3_isFitting_23 (by decide) ?_
    refine g_vi (ws' := (zW cy ad shC E X)) (As := [.int (f_X4_get X 6 40 v1 (nI 0)), .int (nI 4)]) (rest := []) (res := (f_X4_get X 4 96 (f_X4_get X 6 40 v1 (nI 0)) (nI 4))) C (c_X4_get l D cy ad E X 4 96 sC_4 sC_5 (by decide) (f_X4_get X 6 40 v1 (nI 0)) (nI 4)) zml_RX3_54 zcv_X4_get (zW_get X sC_4) rfl rfl rfl ⟨Nat.le_of_ble_eq_true rfl, Nat.le_of_ble_eq_true rfl⟩ rfl rfl (Nat.le_of_ble_eq_true rfl) ⟨Nat.zero_le _, Nat.zero_le _⟩ dX3_isFitting_24 ?_
    refine g_iload_n (j := 4) C dX3_isFitting_27 rfl rfl ?_
    refine g_icmp_le C dX3_isFitting_28 (tgt := 78) (by decide) (fun hc_2 => ?_) (fun hc_2 => ?_)
    · replace h := (if_pos hc_2).symm.trans h
      refine g_iconst (v := (nI 0)) C dX3_isFitting_78 (by decide) ?_
      subst h
      exact g_iret rfl C hr (z_nb (Or.inl rfl)) dX3_isFitting_79
    · replace h := (if_neg hc_2).symm.trans h
      refine g_aload_n (j := 1) C dX3_isFitting_31 rfl rfl ?_
      refine g_getr (k := 2) (N := 8) C sC_1 rfl zin_RX3 (by decide) rfl zfl_RX3_23 rfl dX3_isFitting_32 ?_
      refine g_iload_n (j := 2) C dX3_isFitting_35 rfl rfl ?_
      refine g_iconst (v := (nI 2)) C dX3_isFitting_36 (by decide) ?_
      refine g_vi (ws' := (zW cy ad shC E X)) (As := [.int v1, .int (nI 2)]) (rest := []) (res := (f_X4_get X 6 40 v1 (nI 2))) C (c_X4_get l D cy ad E X 6 40 sC_6 sC_7 (by decide) v1 (nI 2)) zml_RX3_54 zcv_X4_get (zW_get X sC_6) rfl rfl rfl ⟨Nat.le_of_ble_eq_true rfl, Nat.le_of_ble_eq_true rfl⟩ rfl rfl (Nat.le_of_ble_eq_true rfl) ⟨Nat.zero_le _, Nat.zero_le _⟩ dX3_isFitting_37 ?_
      refine g_aload_n (j := 1) C dX3_isFitting_40 rfl rfl ?_
      refine g_getr (k := 1) (N := 8) C sC_1 rfl zin_RX3 (by decide) rfl zfl_RX3_20 rfl dX3_isFitting_41 ?_
      refine g_iload_n (j := 3) C dX3_isFitting_44 rfl rfl ?_
      refine g_iconst (v := (nI 1)) C dX3_isFitting_45 (by decide) ?_
      refine g_vi (ws' := (zW cy ad shC E X)) (As := [.int v2, .int (nI 1)]) (rest := [.int (f_X4_get X 6 40 v1 (nI 2))]) (res := (f_X4_get X 4 96 v2 (nI 1))) C (c_X4_get l D cy ad E X 4 96 sC_4 sC_5 (by decide) v2 (nI 1)) zml_RX3_54 zcv_X4_get (zW_get X sC_4) rfl rfl rfl ⟨Nat.le_of_ble_eq_true rfl, Nat.le_of_ble_eq_true rfl⟩ rfl rfl (Nat.le_of_ble_eq_true rfl) ⟨Nat.zero_le _, Nat.zero_le _⟩ dX3_isFitting_46 ?_
      refine g_icmp_gt C dX3_isFitting_49 (tgt := 78) (by decide) (fun hc_3 => ?_) (fun hc_3 => ?_)
      · replace h := (if_pos hc_3).symm.trans h
        refine g_iconst (v := (nI 0)) C dX3_isFitting_78 (by decide) ?_
        subst h
        exact g_iret rfl C hr (z_nb (Or.inl rfl)) dX3_isFitting_79
      · replace h := (if_neg hc_3).symm.trans h
        refine g_aload_n (j := 1) C dX3_isFitting_52 rfl rfl ?_
        refine g_getr (k := 2) (N := 8) C sC_1 rfl zin_RX3 (by decide) rfl zfl_RX3_23 rfl dX3_isFitting_53 ?_
        refine g_iload_n (j := 2) C dX3_isFitting_56 rfl rfl ?_
        refine g_iconst (v := (nI 3)) C dX3_isFitting_57 (by decide) ?_
        refine g_vi (ws' := (zW cy ad shC E X)) (As := [.int v1, .int (nI 3)]) (rest := []) (res := (f_X4_get X 6 40 v1 (nI 3))) C (c_X4_get l D cy ad E X 6 40 sC_6 sC_7 (by decide) v1 (nI 3)) zml_RX3_54 zcv_X4_get (zW_get X sC_6) rfl rfl rfl ⟨Nat.le_of_ble_eq_true rfl, Nat.le_of_ble_eq_true rfl⟩ rfl rfl (Nat.le_of_ble_eq_true rfl) ⟨Nat.zero_le _, Nat.zero_le _⟩ dX3_isFitting_58 ?_
        refine g_aload_n (j := 1) C dX3_isFitting_61 rfl rfl ?_
        refine g_getr (k := 1) (N := 8) C sC_1 rfl zin_RX3 (by decide) rfl zfl_RX3_20 rfl dX3_isFitting_62 ?_
        refine g_iload_n (j := 3) C dX3_isFitting_65 rfl rfl ?_
        refine g_iconst (v := (nI 2)) C dX3_isFitting_66 (by decide) ?_
        refine g_vi (ws' := (zW cy ad shC E X)) (As := [.int v2, .int (nI 2)]) (rest := [.int (f_X4_get X 6 40 v1 (nI 3))]) (res := (f_X4_get X 4 96 v2 (nI 2))) C (c_X4_get l D cy ad E X 4 96 sC_4 sC_5 (by decide) v2 (nI 2)) zml_RX3_54 zcv_X4_get (zW_get X sC_4) rfl rfl rfl ⟨Nat.le_of_ble_eq_true rfl, Nat.le_of_ble_eq_true rfl⟩ rfl rfl (Nat.le_of_ble_eq_true rfl) ⟨Nat.zero_le _, Nat.zero_le _⟩ dX3_isFitting_67 ?_
        refine g_iand C dX3_isFitting_70 ?_
        refine g_if_eq C dX3_isFitting_71 (tgt := 78) (by decide) (fun hc_4 => ?_) (fun hc_4 => ?_)
        · replace h := (if_pos hc_4).symm.trans h
          refine g_iconst (v := (nI 0)) C dX3_isFitting_78 (by decide) ?_
          subst h
          exact g_iret rfl C hr (z_nb (Or.inl rfl)) dX3_isFitting_79
        · replace h := (if_neg hc_4).symm.trans h
          refine g_iconst (v := (nI 1)) C dX3_isFitting_74 (by decide) ?_
          refine g_goto C dX3_isFitting_75 (tgt := 79) (by decide) ?_
          subst h
          exact g_iret rfl C hr (z_nb (Or.inr rfl)) dX3_isFitting_79
def f_X3_reelMinutes_L4 (X : Nat → Nat → Int32) (v1 : Int32) : Nat → Int32 → Int32 → Option Int32
  | 0, _, _ => none
  | fu + 1, v2, v3 => (if (f_X4_size X 6 40) ≤ v3 then some v2 else (if ((v1 >>> (v3 &&& 31)) &&& (nI 1)) = 0 then f_X3_reelMinutes_L4 X v1 fu v2 (v3 + 1) else f_X3_reelMinutes_L4 X v1 fu (v2 + (f_X4_get X 6 40 v3 (nI 1))) (v3 + 1)))
set_option maxRecDepth 100000 in
set_option maxHeartbeats 4000000 in
theorem w_X3_reelMinutes_L4 {p : Program} {e : Env} {s : State} {m : MethodId} {args : Array Value} {below : List Frame} {meth : Method} {c : Code} {A : Nat → Prop} (l : Launch) (D : va_G) (cy : Nat → ClassId) (ad : Nat → Nat) (E : va_W) (X : Nat → Nat → Int32) (v1 : Int32) {res : Int32} (C : zC p s m args meth c cX3_reelMinutes 4 RX3 D (zTy cy) A) (hr : meth.sig.returnType = (some .int)) : ∀ (fu : Nat) (v2 v3 : Int32) (h : f_X3_reelMinutes_L4 X v1 fu v2 v3 = some res), zG p l e (zrm 2) s m args below meth c 4 D A 0 0 (MQ below (va_Qi (fun (r : Int32) (_ : Unit) => r = res) (fun _ t => zB D (zTy cy) A (zW cy ad shC E X) t) A) args s 0 0 A) (zW cy ad shC E X) 4 [(0, .ref (ad 1)), (1, .int v1), (2, .int v2), (3, .int v3)] [] := by
  intro fu
  induction fu with
  | zero => intro v2 v3 h; simp [f_X3_reelMinutes_L4] at h
  | succ fu ih =>
    intro v2 v3 h
    rw [f_X3_reelMinutes_L4] at h
    refine g_iload_n (j := 3) C dX3_reelMinutes_4 rfl rfl ?_
    refine g_aload_n (j := 0) C dX3_reelMinutes_5 rfl rfl ?_
    refine g_getr (k := 2) (N := 8) C sC_1 rfl zin_RX3 (by decide) rfl zfl_RX3_23 rfl dX3_reelMinutes_6 ?_
    refine g_vi (ws' := (zW cy ad shC E X)) (As := []) (rest := [.int v3]) (res := (f_X4_size X 6 40)) C (c_X4_size l D cy ad E X 6 40 sC_6 sC_7 (by decide)) zml_RX3_63 zcv_X4_size (zW_get X sC_6) rfl rfl rfl ⟨Nat.le_of_ble_eq_true rfl, Nat.le_of_ble_eq_true rfl⟩ rfl rfl (Nat.le_of_ble_eq_true rfl) ⟨Nat.zero_le _, Nat.zero_le _⟩ dX3_reelMinutes_9 ?_
    refine g_icmp_ge C dX3_reelMinutes_12 (tgt := 41) (by decide) (fun hc_1001 => ?_) (fun hc_1001 => ?_)
    · replace h := (if_pos hc_1001).symm.trans h
      refine g_iload_n (j := 2) C dX3_reelMinutes_41 rfl rfl ?_
      obtain rfl := Option.some.inj h
      exact g_iret rfl C hr rfl dX3_reelMinutes_42
    · replace h := (if_neg hc_1001).symm.trans h
      refine g_iload_n (j := 1) C dX3_reelMinutes_15 rfl rfl ?_
      refine g_iload_n (j := 3) C dX3_reelMinutes_16 rfl rfl ?_
      refine g_ishr C dX3_reelMinutes_17 ?_
      refine g_iconst (v := (nI 1)) C dX3_reelMinutes_18 (by decide) ?_
      refine g_iand C dX3_reelMinutes_19 ?_
      refine g_if_eq C dX3_reelMinutes_20 (tgt := 35) (by decide) (fun hc_1002 => ?_) (fun hc_1002 => ?_)
      · replace h := (if_pos hc_1002).symm.trans h
        refine g_iinc (k := 3) (L' := [(3, .int (v3 + 1)), (0, .ref (ad 1)), (1, .int v1), (2, .int v2)]) C dX3_reelMinutes_35 rfl (z_iinc (by decide)) (by decide) rfl ?_
        refine g_goto C dX3_reelMinutes_38 (tgt := 4) (by decide) ?_
        refine zG_sub (L' := [(0, .ref (ad 1)), (1, .int v1), (2, .int v2), (3, .int (v3 + 1))]) [1, 2, 3, 0] rfl ?_
        exact ih v2 (v3 + 1) h
      · replace h := (if_neg hc_1002).symm.trans h
        refine g_iload_n (j := 2) C dX3_reelMinutes_23 rfl rfl ?_
        refine g_aload_n (j := 0) C dX3_reelMinutes_24 rfl rfl ?_
        refine g_getr (k := 2) (N := 8) C sC_1 rfl zin_RX3 (by decide) rfl zfl_RX3_23 rfl dX3_reelMinutes_25 ?_
        refine g_iload_n (j := 3) C dX3_reelMinutes_28 rfl rfl ?_
        refine g_iconst (v := (nI 1)) C dX3_reelMinutes_29 (by decide) ?_
        refine g_vi (ws' := (zW cy ad shC E X)) (As := [.int v3, .int (nI 1)]) (rest := [.int v2]) (res := (f_X4_get X 6 40 v3 (nI 1))) C (c_X4_get l D cy ad E X 6 40 sC_6 sC_7 (by decide) v3 (nI 1)) zml_RX3_54 zcv_X4_get (zW_get X sC_6) rfl rfl rfl ⟨Nat.le_of_ble_eq_true rfl, Nat.le_of_ble_eq_true rfl⟩ rfl rfl (Nat.le_of_ble_eq_true rfl) ⟨Nat.zero_le _, Nat.zero_le _⟩ dX3_reelMinutes_30 ?_
        refine g_iadd C dX3_reelMinutes_33 ?_
        refine g_istore_n (L' := [(2, .int (v2 + (f_X4_get X 6 40 v3 (nI 1)))), (0, .ref (ad 1)), (1, .int v1), (3, .int v3)]) C dX3_reelMinutes_34 rfl (by decide) rfl ?_
        refine g_iinc (k := 3) (L' := [(3, .int (v3 + 1)), (2, .int (v2 + (f_X4_get X 6 40 v3 (nI 1)))), (0, .ref (ad 1)), (1, .int v1)]) C dX3_reelMinutes_35 rfl (z_iinc (by decide)) (by decide) rfl ?_
        refine g_goto C dX3_reelMinutes_38 (tgt := 4) (by decide) ?_
        refine zG_sub (L' := [(0, .ref (ad 1)), (1, .int v1), (2, .int (v2 + (f_X4_get X 6 40 v3 (nI 1)))), (3, .int (v3 + 1))]) [2, 3, 1, 0] rfl ?_
        exact ih (v2 + (f_X4_get X 6 40 v3 (nI 1))) (v3 + 1) h
def f_X3_reelMinutes (X : Nat → Nat → Int32) (v1 : Int32) : Option Int32 := f_X3_reelMinutes_L4 X v1 zFuel (nI 0) (nI 0)
set_option maxRecDepth 100000 in
set_option maxHeartbeats 4000000 in
theorem c_X3_reelMinutes (l : Launch) (D : va_G) (cy : Nat → ClassId) (ad : Nat → Nat) (E : va_W) (X : Nat → Nat → Int32) (v1 : Int32) {res : Int32} (h : f_X3_reelMinutes X v1 = some res) : zMi l yX3_reelMinutes cX3_reelMinutes 4 (some .int) (zrm 2) D (zTy cy) (zW cy ad shC E X) [.ref (ad 1), .int v1] res (zW cy ad shC E X) := by
  refine zMi.of (by decide) (Nat.le_of_ble_eq_true rfl) ?_
  intro p e s m below meth c A C hr
  unfold f_X3_reelMinutes at h
  refine zG_L (L' := [(0, .ref (ad 1)), (1, .int v1)]) rfl ?_
  refine g_iconst (v := (nI 0)) C dX3_reelMinutes_0 (by decide) ?_
  refine g_istore_n (L' := [(2, .int (nI 0)), (0, .ref (ad 1)), (1, .int v1)]) C dX3_reelMinutes_1 rfl (by decide) rfl ?_
  refine g_iconst (v := (nI 0)) C dX3_reelMinutes_2 (by decide) ?_
  refine g_istore_n (L' := [(3, .int (nI 0)), (2, .int (nI 0)), (0, .ref (ad 1)), (1, .int v1)]) C dX3_reelMinutes_3 rfl (by decide) rfl ?_
  refine zG_sub (L' := [(0, .ref (ad 1)), (1, .int v1), (2, .int (nI 0)), (3, .int (nI 0))]) [2, 3, 1, 0] rfl ?_
  exact w_X3_reelMinutes_L4 l D cy ad E X v1 C hr zFuel (nI 0) (nI 0) h
def f_X3_isAhead (v0 v1 : Int32) : Int32 := (if (f_J6_bitCount_0f7a4 v0) = (f_J6_bitCount_0f7a4 v1) then (if ((v0 &&& (v0 ^^^ v1)) &&& (-(v0 ^^^ v1))) = 0 then (nI 0) else (nI 1)) else (if (f_J6_bitCount_0f7a4 v1) ≤ (f_J6_bitCount_0f7a4 v0) then (nI 0) else (nI 1)))
theorem b_X3_isAhead (v0 v1 : Int32) : f_X3_isAhead v0 v1 = 0 ∨ f_X3_isAhead v0 v1 = 1 := by
  unfold f_X3_isAhead
  repeat' split
  all_goals first | exact Or.inl rfl | exact Or.inr rfl
set_option maxRecDepth 100000 in
set_option maxHeartbeats 4000000 in
theorem c_X3_isAhead (l : Launch) (D : va_G) (cy : Nat → ClassId) (ws : va_W) (v0 v1 : Int32) : zMi l yX3_isAhead cX3_isAhead 5 (some .boolean) (zrm 2) D (zTy cy) ws [.int v0, .int v1] (f_X3_isAhead v0 v1) ws := by
  refine zMi.of (by decide) (Nat.le_of_ble_eq_true rfl) ?_
  intro p e s m below meth c A C hr
  generalize h : f_X3_isAhead v0 v1 = res
  unfold f_X3_isAhead at h
  refine zG_L (L' := [(0, .int v0), (1, .int v1)]) rfl ?_
  refine g_iload_n (j := 0) C dX3_isAhead_0 rfl rfl ?_
  refine g_si (ws' := ws) (As := [.int v0]) (rest := []) (res := (f_J6_bitCount_0f7a4 v0)) C (c_J6_bitCount_0f7a4 l D cy ws v0) zml_RX3_71 zcs_J6_bitCount_0f7a4 rfl rfl ⟨Nat.le_of_ble_eq_true rfl, Nat.le_of_ble_eq_true rfl⟩ rfl rfl (Nat.le_of_ble_eq_true rfl) ⟨Nat.zero_le _, Nat.zero_le _⟩ dX3_isAhead_1 ?_
  refine g_istore_n (L' := [(2, .int (f_J6_bitCount_0f7a4 v0)), (0, .int v0), (1, .int v1)]) C dX3_isAhead_4 rfl (by decide) rfl ?_
  refine g_iload_n (j := 2) C dX3_isAhead_5 rfl rfl ?_
  refine g_si (ws' := ws) (As := [.int v1]) (rest := []) (res := (f_J6_bitCount_0f7a4 v1)) C (c_J6_bitCount_0f7a4 l D cy ws v1) zml_RX3_71 zcs_J6_bitCount_0f7a4 rfl rfl ⟨Nat.le_of_ble_eq_true rfl, Nat.le_of_ble_eq_true rfl⟩ rfl rfl (Nat.le_of_ble_eq_true rfl) ⟨Nat.zero_le _, Nat.zero_le _⟩ dX3_isAhead_6 ?_
  refine g_istore_n (L' := [(3, .int (f_J6_bitCount_0f7a4 v1)), (2, .int (f_J6_bitCount_0f7a4 v0)), (0, .int v0), (1, .int v1)]) C dX3_isAhead_9 rfl (by decide) rfl ?_
  refine g_iload_n (j := 1) C dX3_isAhead_10 rfl rfl ?_
  refine g_iload_n (j := 0) C dX3_isAhead_11 rfl rfl ?_
  refine g_icmp_eq C dX3_isAhead_12 (tgt := 26) (by decide) (fun hc_1 => ?_) (fun hc_1 => ?_)
  · replace h := (if_pos hc_1).symm.trans h
    refine g_iload_n (j := 2) C dX3_isAhead_26 rfl rfl ?_
    refine g_iload_n (j := 3) C dX3_isAhead_27 rfl rfl ?_
    refine g_ixor C dX3_isAhead_28 ?_
    refine g_istore (L' := [(4, .int (v0 ^^^ v1)), (3, .int (f_J6_bitCount_0f7a4 v1)), (2, .int (f_J6_bitCount_0f7a4 v0)), (0, .int v0), (1, .int v1)]) C dX3_isAhead_29 (by decide) rfl ?_
    refine g_iload_n (j := 3) C dX3_isAhead_31 rfl rfl ?_
    refine g_iload (j := 0) C dX3_isAhead_32 rfl ?_
    refine g_iand C dX3_isAhead_34 ?_
    refine g_iload (j := 0) C dX3_isAhead_35 rfl ?_
    refine g_ineg C dX3_isAhead_37 ?_
    refine g_iand C dX3_isAhead_38 ?_
    refine g_if_eq C dX3_isAhead_39 (tgt := 46) (by decide) (fun hc_2 => ?_) (fun hc_2 => ?_)
    · replace h := (if_pos hc_2).symm.trans h
      refine g_iconst (v := (nI 0)) C dX3_isAhead_46 (by decide) ?_
      subst h
      exact g_iret rfl C hr (z_nb (Or.inl rfl)) dX3_isAhead_47
    · replace h := (if_neg hc_2).symm.trans h
      refine g_iconst (v := (nI 1)) C dX3_isAhead_42 (by decide) ?_
      refine g_goto C dX3_isAhead_43 (tgt := 47) (by decide) ?_
      subst h
      exact g_iret rfl C hr (z_nb (Or.inr rfl)) dX3_isAhead_47
  · replace h := (if_neg hc_1).symm.trans h
    refine g_iload_n (j := 1) C dX3_isAhead_15 rfl rfl ?_
    refine g_iload_n (j := 0) C dX3_isAhead_16 rfl rfl ?_
    refine g_icmp_ge C dX3_isAhead_17 (tgt := 24) (by decide) (fun hc_3 => ?_) (fun hc_3 => ?_)
    · replace h := (if_pos hc_3).symm.trans h
      refine g_iconst (v := (nI 0)) C dX3_isAhead_24 (by decide) ?_
      subst h
      exact g_iret rfl C hr (z_nb (Or.inl rfl)) dX3_isAhead_25
    · replace h := (if_neg hc_3).symm.trans h
      refine g_iconst (v := (nI 1)) C dX3_isAhead_20 (by decide) ?_
      refine g_goto C dX3_isAhead_21 (tgt := 25) (by decide) ?_
      subst h
      exact g_iret rfl C hr (z_nb (Or.inr rfl)) dX3_isAhead_25
def f_X3_bestReel_L16 (k : Int32 → Option Int32) (X : Nat → Nat → Int32) (v1 : Int32) (v2 : Int32) (v3 : Int32) : Nat → Int32 → Int32 → Option Int32
  | 0, _, _ => none
  | fu + 1, v4, v5 => (if (f_X4_size X 6 40) ≤ v5 then k v4 else (if (f_X3_isFitting X v5 v1 v2) = 0 then f_X3_bestReel_L16 k X v1 v2 v3 fu v4 (v5 + 1) else f_X3_bestReel_L16 k X v1 v2 v3 fu (v4 ||| ((nI 1) <<< (v5 &&& 31))) (v5 + 1)))
set_option maxRecDepth 100000 in
set_option maxHeartbeats 4000000 in
theorem w_X3_bestReel_L16 {p : Program} {e : Env} {s : State} {m : MethodId} {args : Array Value} {below : List Frame} {meth : Method} {c : Code} {A : Nat → Prop} (l : Launch) (D : va_G) (cy : Nat → ClassId) (ad : Nat → Nat) (E : va_W) (k : Int32 → Option Int32) (X : Nat → Nat → Int32) (v1 : Int32) (v2 : Int32) (v3 : Int32) {res : Int32} (C : zC p s m args meth c cX3_bestReel 10 RX3 D (zTy cy) A) (hr : meth.sig.returnType = (some .int)) : ∀ (fu : Nat) (v4 v5 : Int32) (h : f_X3_bestReel_L16 k X v1 v2 v3 fu v4 v5 = some res) (hk : ∀ (v4 : Int32), k v4 = some res → zG p l e (zrm 3) s m args below meth c 10 D A 0 0 (MQ below (va_Qi (fun (r : Int32) (_ : Unit) => r = res) (fun _ t => zB D (zTy cy) A (zW cy ad shC E X) t) A) args s 0 0 A) (zW cy ad shC E X) 54 [(0, .ref (ad 1)), (3, .int v3), (4, .int v4)] []), zG p l e (zrm 3) s m args below meth c 10 D A 0 0 (MQ below (va_Qi (fun (r : Int32) (_ : Unit) => r = res) (fun _ t => zB D (zTy cy) A (zW cy ad shC E X) t) A) args s 0 0 A) (zW cy ad shC E X) 16 [(0, .ref (ad 1)), (1, .int v1), (2, .int v2), (3, .int v3), (4, .int v4), (5, .int v5)] [] := by
  intro fu
  induction fu with
  | zero => intro v4 v5 h hk; simp [f_X3_bestReel_L16] at h
  | succ fu ih =>
    intro v4 v5 h hk
    rw [f_X3_bestReel_L16] at h
    refine g_iload (j := 5) C dX3_bestReel_16 rfl ?_
    refine g_aload_n (j := 0) C dX3_bestReel_18 rfl rfl ?_
    refine g_getr (k := 2) (N := 8) C sC_1 rfl zin_RX3 (by decide) rfl zfl_RX3_23 rfl dX3_bestReel_19 ?_
    refine g_vi (ws' := (zW cy ad shC E X)) (As := []) (rest := [.int v5]) (res := (f_X4_size X 6 40)) C (c_X4_size l D cy ad E X 6 40 sC_6 sC_7 (by decide)) zml_RX3_63 zcv_X4_size (zW_get X sC_6) rfl rfl rfl ⟨Nat.le_of_ble_eq_true rfl, Nat.le_of_ble_eq_true rfl⟩ rfl rfl (Nat.le_of_ble_eq_true rfl) ⟨Nat.zero_le _, Nat.zero_le _⟩ dX3_bestReel_22 ?_
    refine g_icmp_ge C dX3_bestReel_25 (tgt := 54) (by decide) (fun hc_1001 => ?_) (fun hc_1001 => ?_)
    · replace h := (if_pos hc_1001).symm.trans h
      refine zG_sub (L' := [(0, .ref (ad 1)), (3, .int v3), (4, .int v4)]) [0, 3, 4] rfl ?_
      exact hk v4 h
    · replace h := (if_neg hc_1001).symm.trans h
      refine g_aload_n (j := 0) C dX3_bestReel_28 rfl rfl ?_
      refine g_iload (j := 5) C dX3_bestReel_29 rfl ?_
      refine g_iload_n (j := 1) C dX3_bestReel_31 rfl rfl ?_
      refine g_iload_n (j := 2) C dX3_bestReel_32 rfl rfl ?_
      refine g_vi (ws' := (zW cy ad shC E X)) (As := [.int v5, .int v1, .int v2]) (rest := []) (res := (f_X3_isFitting X v5 v1 v2)) C (c_X3_isFitting l D cy ad E X v5 v1 v2) zml_RX3_67 zcv_X3_isFitting (zW_get X sC_1) rfl rfl rfl ⟨Nat.le_of_ble_eq_true rfl, Nat.le_of_ble_eq_true rfl⟩ rfl rfl (Nat.le_of_ble_eq_true rfl) ⟨Nat.zero_le _, Nat.zero_le _⟩ dX3_bestReel_33 ?_
      refine g_if_eq C dX3_bestReel_36 (tgt := 48) (by decide) (fun hc_1002 => ?_) (fun hc_1002 => ?_)
      · replace h := (if_pos hc_1002).symm.trans h
        refine g_iinc (k := 5) (L' := [(5, .int (v5 + 1)), (0, .ref (ad 1)), (1, .int v1), (2, .int v2), (3, .int v3), (4, .int v4)]) C dX3_bestReel_48 rfl (z_iinc (by decide)) (by decide) rfl ?_
        refine g_goto C dX3_bestReel_51 (tgt := 16) (by decide) ?_
        refine zG_sub (L' := [(0, .ref (ad 1)), (1, .int v1), (2, .int v2), (3, .int v3), (4, .int v4), (5, .int (v5 + 1))]) [1, 2, 3, 4, 5, 0] rfl ?_
        exact ih v4 (v5 + 1) h hk
      · replace h := (if_neg hc_1002).symm.trans h
        refine g_iload (j := 4) C dX3_bestReel_39 rfl ?_
        refine g_iconst (v := (nI 1)) C dX3_bestReel_41 (by decide) ?_
        refine g_iload (j := 5) C dX3_bestReel_42 rfl ?_
        refine g_ishl C dX3_bestReel_44 ?_
        refine g_ior C dX3_bestReel_45 ?_
        refine g_istore (L' := [(4, .int (v4 ||| ((nI 1) <<< (v5 &&& 31)))), (0, .ref (ad 1)), (1, .int v1), (2, .int v2), (3, .int v3), (5, .int v5)]) C dX3_bestReel_46 (by decide) rfl ?_
        refine g_iinc (k := 5) (L' := [(5, .int (v5 + 1)), (4, .int (v4 ||| ((nI 1) <<< (v5 &&& 31)))), (0, .ref (ad 1)), (1, .int v1), (2, .int v2), (3, .int v3)]) C dX3_bestReel_48 rfl (z_iinc (by decide)) (by decide) rfl ?_
        refine g_goto C dX3_bestReel_51 (tgt := 16) (by decide) ?_
        refine zG_sub (L' := [(0, .ref (ad 1)), (1, .int v1), (2, .int v2), (3, .int v3), (4, .int (v4 ||| ((nI 1) <<< (v5 &&& 31)))), (5, .int (v5 + 1))]) [2, 3, 4, 5, 1, 0] rfl ?_
        exact ih (v4 ||| ((nI 1) <<< (v5 &&& 31))) (v5 + 1) h hk
def f_X3_bestReel_L63 (X : Nat → Nat → Int32) (v3 : Int32) (v4 : Int32) : Nat → Int32 → Int32 → Int32 → Option Int32
  | 0, _, _, _ => none
  | fu + 1, v5, v6, v7 => (if (nI 1024) ≤ v7 then some v5 else (if (v7 &&& (v4 ^^^ (-1 : Int32))) = 0 then (if (nI 4) < (f_J6_bitCount_0f7a4 v7) then f_X3_bestReel_L63 X v3 v4 fu v5 v6 (v7 + 1) else ((f_X3_reelMinutes X v7).bind fun q_2007 => (if v6 < q_2007 then (if v3 < q_2007 then f_X3_bestReel_L63 X v3 v4 fu v5 v6 (v7 + 1) else f_X3_bestReel_L63 X v3 v4 fu v7 q_2007 (v7 + 1)) else (if q_2007 = v6 then (if (f_X3_isAhead v7 v5) = 0 then (if v3 < q_2007 then f_X3_bestReel_L63 X v3 v4 fu v5 v6 (v7 + 1) else f_X3_bestReel_L63 X v3 v4 fu v5 v6 (v7 + 1)) else (if v3 < q_2007 then f_X3_bestReel_L63 X v3 v4 fu v5 v6 (v7 + 1) else f_X3_bestReel_L63 X v3 v4 fu v7 q_2007 (v7 + 1))) else (if v3 < q_2007 then f_X3_bestReel_L63 X v3 v4 fu v5 v6 (v7 + 1) else f_X3_bestReel_L63 X v3 v4 fu v5 v6 (v7 + 1)))))) else f_X3_bestReel_L63 X v3 v4 fu v5 v6 (v7 + 1)))
set_option maxRecDepth 100000 in
set_option maxHeartbeats 4000000 in
theorem w_X3_bestReel_L63 {p : Program} {e : Env} {s : State} {m : MethodId} {args : Array Value} {below : List Frame} {meth : Method} {c : Code} {A : Nat → Prop} (l : Launch) (D : va_G) (cy : Nat → ClassId) (ad : Nat → Nat) (E : va_W) (X : Nat → Nat → Int32) (v3 : Int32) (v4 : Int32) {res : Int32} (C : zC p s m args meth c cX3_bestReel 10 RX3 D (zTy cy) A) (hr : meth.sig.returnType = (some .int)) : ∀ (fu : Nat) (v5 v6 v7 : Int32) (h : f_X3_bestReel_L63 X v3 v4 fu v5 v6 v7 = some res), zG p l e (zrm 3) s m args below meth c 10 D A 0 0 (MQ below (va_Qi (fun (r : Int32) (_ : Unit) => r = res) (fun _ t => zB D (zTy cy) A (zW cy ad shC E X) t) A) args s 0 0 A) (zW cy ad shC E X) 63 [(0, .ref (ad 1)), (3, .int v3), (4, .int v4), (5, .int v5), (6, .int v6), (7, .int v7)] [] := by
  intro fu
  induction fu with
  | zero => intro v5 v6 v7 h; simp [f_X3_bestReel_L63] at h
  | succ fu ih =>
    intro v5 v6 v7 h
    rw [f_X3_bestReel_L63] at h
    refine g_iload (j := 5) C dX3_bestReel_63 rfl ?_
    refine g_sipush (v := (nI 1024)) C dX3_bestReel_65 (by decide) ?_
    refine g_icmp_ge C dX3_bestReel_68 (tgt := 154) (by decide) (fun hc_2004 => ?_) (fun hc_2004 => ?_)
    · replace h := (if_pos hc_2004).symm.trans h
      refine g_iload (j := 3) C dX3_bestReel_154 rfl ?_
      obtain rfl := Option.some.inj h
      exact g_iret rfl C hr rfl dX3_bestReel_156
    · replace h := (if_neg hc_2004).symm.trans h
      refine g_iload (j := 5) C dX3_bestReel_71 rfl ?_
      refine g_iload (j := 2) C dX3_bestReel_73 rfl ?_
      refine g_iconst (v := (-1 : Int32)) C dX3_bestReel_75 (by decide) ?_
      refine g_ixor C dX3_bestReel_76 ?_
      refine g_iand C dX3_bestReel_77 ?_
      refine g_if_ne C dX3_bestReel_78 (tgt := 148) (by decide) (fun hc_2005 => ?_) (fun hc_2005 => ?_)
      · replace h := (if_neg hc_2005).symm.trans h
        refine g_iinc (k := 5) (L' := [(7, .int (v7 + 1)), (0, .ref (ad 1)), (3, .int v3), (4, .int v4), (5, .int v5), (6, .int v6)]) C dX3_bestReel_148 rfl (z_iinc (by decide)) (by decide) rfl ?_
        refine g_goto C dX3_bestReel_151 (tgt := 63) (by decide) ?_
        refine zG_sub (L' := [(0, .ref (ad 1)), (3, .int v3), (4, .int v4), (5, .int v5), (6, .int v6), (7, .int (v7 + 1))]) [1, 2, 3, 4, 5, 0] rfl ?_
        exact ih v5 v6 (v7 + 1) h
      · replace h := (if_pos hc_2005).symm.trans h
        refine g_iload (j := 5) C dX3_bestReel_81 rfl ?_
        refine g_si (ws' := (zW cy ad shC E X)) (As := [.int v7]) (rest := []) (res := (f_J6_bitCount_0f7a4 v7)) C (c_J6_bitCount_0f7a4 l D cy (zW cy ad shC E X) v7) zml_RX3_71 zcs_J6_bitCount_0f7a4 rfl rfl ⟨Nat.le_of_ble_eq_true rfl, Nat.le_of_ble_eq_true rfl⟩ rfl rfl (Nat.le_of_ble_eq_true rfl) ⟨Nat.zero_le _, Nat.zero_le _⟩ dX3_bestReel_83 ?_
        refine g_iconst (v := (nI 4)) C dX3_bestReel_86 (by decide) ?_
        refine g_icmp_gt C dX3_bestReel_87 (tgt := 148) (by decide) (fun hc_2006 => ?_) (fun hc_2006 => ?_)
        · replace h := (if_pos hc_2006).symm.trans h
          refine g_iinc (k := 5) (L' := [(7, .int (v7 + 1)), (0, .ref (ad 1)), (3, .int v3), (4, .int v4), (5, .int v5), (6, .int v6)]) C dX3_bestReel_148 rfl (z_iinc (by decide)) (by decide) rfl ?_
          refine g_goto C dX3_bestReel_151 (tgt := 63) (by decide) ?_
          refine zG_sub (L' := [(0, .ref (ad 1)), (3, .int v3), (4, .int v4), (5, .int v5), (6, .int v6), (7, .int (v7 + 1))]) [1, 2, 3, 4, 5, 0] rfl ?_
          exact ih v5 v6 (v7 + 1) h
        · replace h := (if_neg hc_2006).symm.trans h
          refine g_aload_n (j := 0) C dX3_bestReel_90 rfl rfl ?_
          refine g_iload (j := 5) C dX3_bestReel_91 rfl ?_
          obtain ⟨q_2007, hq_2008, h⟩ := bind_isome h
          refine g_vi (ws' := (zW cy ad shC E X)) (As := [.int v7]) (rest := []) (res := q_2007) C (c_X3_reelMinutes l D cy ad E X v7 hq_2008) zml_RX3_77 zcv_X3_reelMinutes (zW_get X sC_1) rfl rfl rfl ⟨Nat.le_of_ble_eq_true rfl, Nat.le_of_ble_eq_true rfl⟩ rfl rfl (Nat.le_of_ble_eq_true rfl) ⟨Nat.zero_le _, Nat.zero_le _⟩ dX3_bestReel_93 ?_
          refine g_istore (L' := [(8, .int q_2007), (0, .ref (ad 1)), (3, .int v3), (4, .int v4), (5, .int v5), (6, .int v6), (7, .int v7)]) C dX3_bestReel_96 (by decide) rfl ?_
          refine g_iload (j := 0) C dX3_bestReel_98 rfl ?_
          refine g_iload (j := 5) C dX3_bestReel_100 rfl ?_
          refine g_icmp_gt C dX3_bestReel_102 (tgt := 122) (by decide) (fun hc_2009 => ?_) (fun hc_2009 => ?_)
          · replace h := (if_pos hc_2009).symm.trans h
            refine g_iconst (v := (nI 1)) C dX3_bestReel_122 (by decide) ?_
            refine g_goto C dX3_bestReel_123 (tgt := 127) (by decide) ?_
            refine g_istore (L' := [(9, .int (nI 1)), (8, .int q_2007), (0, .ref (ad 1)), (3, .int v3), (4, .int v4), (5, .int v5), (6, .int v6), (7, .int v7)]) C dX3_bestReel_127 (by decide) rfl ?_
            refine g_iload (j := 1) C dX3_bestReel_129 rfl ?_
            refine g_iload_n (j := 3) C dX3_bestReel_131 rfl rfl ?_
            refine g_icmp_gt C dX3_bestReel_132 (tgt := 148) (by decide) (fun hc_2010 => ?_) (fun hc_2010 => ?_)
            · replace h := (if_pos hc_2010).symm.trans h
              refine g_iinc (k := 7) (L' := [(7, .int (v7 + 1)), (9, .int (nI 1)), (8, .int q_2007), (0, .ref (ad 1)), (3, .int v3), (4, .int v4), (5, .int v5), (6, .int v6)]) C dX3_bestReel_148 rfl (z_iinc (by decide)) (by decide) rfl ?_
              refine g_goto C dX3_bestReel_151 (tgt := 63) (by decide) ?_
              refine zG_sub (L' := [(0, .ref (ad 1)), (3, .int v3), (4, .int v4), (5, .int v5), (6, .int v6), (7, .int (v7 + 1))]) [3, 4, 5, 6, 7, 0] rfl ?_
              exact ih v5 v6 (v7 + 1) h
            · replace h := (if_neg hc_2010).symm.trans h
              refine g_iload (j := 0) C dX3_bestReel_135 rfl ?_
              refine g_if_eq C dX3_bestReel_137 (tgt := 148) (by decide) (fun h9 => absurd h9 (by decide)) (fun _ => ?_)
              refine g_iload (j := 7) C dX3_bestReel_140 rfl ?_
              refine g_istore (L' := [(5, .int v7), (9, .int (nI 1)), (8, .int q_2007), (0, .ref (ad 1)), (3, .int v3), (4, .int v4), (6, .int v6), (7, .int v7)]) C dX3_bestReel_142 (by decide) rfl ?_
              refine g_iload (j := 2) C dX3_bestReel_144 rfl ?_
              refine g_istore (L' := [(6, .int q_2007), (5, .int v7), (9, .int (nI 1)), (8, .int q_2007), (0, .ref (ad 1)), (3, .int v3), (4, .int v4), (7, .int v7)]) C dX3_bestReel_146 (by decide) rfl ?_
              refine g_iinc (k := 7) (L' := [(7, .int (v7 + 1)), (6, .int q_2007), (5, .int v7), (9, .int (nI 1)), (8, .int q_2007), (0, .ref (ad 1)), (3, .int v3), (4, .int v4)]) C dX3_bestReel_148 rfl (z_iinc (by decide)) (by decide) rfl ?_
              refine g_goto C dX3_bestReel_151 (tgt := 63) (by decide) ?_
              refine zG_sub (L' := [(0, .ref (ad 1)), (3, .int v3), (4, .int v4), (5, .int v7), (6, .int q_2007), (7, .int (v7 + 1))]) [5, 6, 7, 2, 1, 0] rfl ?_
              exact ih v7 q_2007 (v7 + 1) h
          · replace h := (if_neg hc_2009).symm.trans h
            refine g_iload (j := 0) C dX3_bestReel_105 rfl ?_
            refine g_iload (j := 5) C dX3_bestReel_107 rfl ?_
            refine g_icmp_ne C dX3_bestReel_109 (tgt := 126) (by decide) (fun hc_2011 => ?_) (fun hc_2011 => ?_)
            · replace h := (if_neg hc_2011).symm.trans h
              refine g_iconst (v := (nI 0)) C dX3_bestReel_126 (by decide) ?_
              refine g_istore (L' := [(9, .int (nI 0)), (8, .int q_2007), (0, .ref (ad 1)), (3, .int v3), (4, .int v4), (5, .int v5), (6, .int v6), (7, .int v7)]) C dX3_bestReel_127 (by decide) rfl ?_
              refine g_iload (j := 1) C dX3_bestReel_129 rfl ?_
              refine g_iload_n (j := 3) C dX3_bestReel_131 rfl rfl ?_
              refine g_icmp_gt C dX3_bestReel_132 (tgt := 148) (by decide) (fun hc_2012 => ?_) (fun hc_2012 => ?_)
              · replace h := (if_pos hc_2012).symm.trans h
                refine g_iinc (k := 7) (L' := [(7, .int (v7 + 1)), (9, .int (nI 0)), (8, .int q_2007), (0, .ref (ad 1)), (3, .int v3), (4, .int v4), (5, .int v5), (6, .int v6)]) C dX3_bestReel_148 rfl (z_iinc (by decide)) (by decide) rfl ?_
                refine g_goto C dX3_bestReel_151 (tgt := 63) (by decide) ?_
                refine zG_sub (L' := [(0, .ref (ad 1)), (3, .int v3), (4, .int v4), (5, .int v5), (6, .int v6), (7, .int (v7 + 1))]) [3, 4, 5, 6, 7, 0] rfl ?_
                exact ih v5 v6 (v7 + 1) h
              · replace h := (if_neg hc_2012).symm.trans h
                refine g_iload (j := 0) C dX3_bestReel_135 rfl ?_
                refine g_if_eq C dX3_bestReel_137 (tgt := 148) (by decide) (fun _ => ?_) (fun h9 => absurd h9 (by decide))
                refine g_iinc (k := 7) (L' := [(7, .int (v7 + 1)), (9, .int (nI 0)), (8, .int q_2007), (0, .ref (ad 1)), (3, .int v3), (4, .int v4), (5, .int v5), (6, .int v6)]) C dX3_bestReel_148 rfl (z_iinc (by decide)) (by decide) rfl ?_
                refine g_goto C dX3_bestReel_151 (tgt := 63) (by decide) ?_
                refine zG_sub (L' := [(0, .ref (ad 1)), (3, .int v3), (4, .int v4), (5, .int v5), (6, .int v6), (7, .int (v7 + 1))]) [3, 4, 5, 6, 7, 0] rfl ?_
                exact ih v5 v6 (v7 + 1) h
            · replace h := (if_pos hc_2011).symm.trans h
              refine g_iload (j := 6) C dX3_bestReel_112 rfl ?_
              refine g_iload (j := 4) C dX3_bestReel_114 rfl ?_
              refine g_si (ws' := (zW cy ad shC E X)) (As := [.int v7, .int v5]) (rest := []) (res := (f_X3_isAhead v7 v5)) C (c_X3_isAhead l D cy (zW cy ad shC E X) v7 v5) zml_RX3_80 zcs_X3_isAhead rfl rfl ⟨Nat.le_of_ble_eq_true rfl, Nat.le_of_ble_eq_true rfl⟩ rfl rfl (Nat.le_of_ble_eq_true rfl) ⟨Nat.zero_le _, Nat.zero_le _⟩ dX3_bestReel_116 ?_
              refine g_if_eq C dX3_bestReel_119 (tgt := 126) (by decide) (fun hc_2013 => ?_) (fun hc_2013 => ?_)
              · replace h := (if_pos hc_2013).symm.trans h
                refine g_iconst (v := (nI 0)) C dX3_bestReel_126 (by decide) ?_
                refine g_istore (L' := [(9, .int (nI 0)), (8, .int q_2007), (0, .ref (ad 1)), (3, .int v3), (4, .int v4), (5, .int v5), (6, .int v6), (7, .int v7)]) C dX3_bestReel_127 (by decide) rfl ?_
                refine g_iload (j := 1) C dX3_bestReel_129 rfl ?_
                refine g_iload_n (j := 3) C dX3_bestReel_131 rfl rfl ?_
                refine g_icmp_gt C dX3_bestReel_132 (tgt := 148) (by decide) (fun hc_2014 => ?_) (fun hc_2014 => ?_)
                · replace h := (if_pos hc_2014).symm.trans h
                  refine g_iinc (k := 7) (L' := [(7, .int (v7 + 1)), (9, .int (nI 0)), (8, .int q_2007), (0, .ref (ad 1)), (3, .int v3), (4, .int v4), (5, .int v5), (6, .int v6)]) C dX3_bestReel_148 rfl (z_iinc (by decide)) (by decide) rfl ?_
                  refine g_goto C dX3_bestReel_151 (tgt := 63) (by decide) ?_
                  refine zG_sub (L' := [(0, .ref (ad 1)), (3, .int v3), (4, .int v4), (5, .int v5), (6, .int v6), (7, .int (v7 + 1))]) [3, 4, 5, 6, 7, 0] rfl ?_
                  exact ih v5 v6 (v7 + 1) h
                · replace h := (if_neg hc_2014).symm.trans h
                  refine g_iload (j := 0) C dX3_bestReel_135 rfl ?_
                  refine g_if_eq C dX3_bestReel_137 (tgt := 148) (by decide) (fun _ => ?_) (fun h9 => absurd h9 (by decide))
                  refine g_iinc (k := 7) (L' := [(7, .int (v7 + 1)), (9, .int (nI 0)), (8, .int q_2007), (0, .ref (ad 1)), (3, .int v3), (4, .int v4), (5, .int v5), (6, .int v6)]) C dX3_bestReel_148 rfl (z_iinc (by decide)) (by decide) rfl ?_
                  refine g_goto C dX3_bestReel_151 (tgt := 63) (by decide) ?_
                  refine zG_sub (L' := [(0, .ref (ad 1)), (3, .int v3), (4, .int v4), (5, .int v5), (6, .int v6), (7, .int (v7 + 1))]) [3, 4, 5, 6, 7, 0] rfl ?_
                  exact ih v5 v6 (v7 + 1) h
              · replace h := (if_neg hc_2013).symm.trans h
                refine g_iconst (v := (nI 1)) C dX3_bestReel_122 (by decide) ?_
                refine g_goto C dX3_bestReel_123 (tgt := 127) (by decide) ?_
                refine g_istore (L' := [(9, .int (nI 1)), (8, .int q_2007), (0, .ref (ad 1)), (3, .int v3), (4, .int v4), (5, .int v5), (6, .int v6), (7, .int v7)]) C dX3_bestReel_127 (by decide) rfl ?_
                refine g_iload (j := 1) C dX3_bestReel_129 rfl ?_
                refine g_iload_n (j := 3) C dX3_bestReel_131 rfl rfl ?_
                refine g_icmp_gt C dX3_bestReel_132 (tgt := 148) (by decide) (fun hc_2015 => ?_) (fun hc_2015 => ?_)
                · replace h := (if_pos hc_2015).symm.trans h
                  refine g_iinc (k := 7) (L' := [(7, .int (v7 + 1)), (9, .int (nI 1)), (8, .int q_2007), (0, .ref (ad 1)), (3, .int v3), (4, .int v4), (5, .int v5), (6, .int v6)]) C dX3_bestReel_148 rfl (z_iinc (by decide)) (by decide) rfl ?_
                  refine g_goto C dX3_bestReel_151 (tgt := 63) (by decide) ?_
                  refine zG_sub (L' := [(0, .ref (ad 1)), (3, .int v3), (4, .int v4), (5, .int v5), (6, .int v6), (7, .int (v7 + 1))]) [3, 4, 5, 6, 7, 0] rfl ?_
                  exact ih v5 v6 (v7 + 1) h
                · replace h := (if_neg hc_2015).symm.trans h
                  refine g_iload (j := 0) C dX3_bestReel_135 rfl ?_
                  refine g_if_eq C dX3_bestReel_137 (tgt := 148) (by decide) (fun h9 => absurd h9 (by decide)) (fun _ => ?_)
                  refine g_iload (j := 7) C dX3_bestReel_140 rfl ?_
                  refine g_istore (L' := [(5, .int v7), (9, .int (nI 1)), (8, .int q_2007), (0, .ref (ad 1)), (3, .int v3), (4, .int v4), (6, .int v6), (7, .int v7)]) C dX3_bestReel_142 (by decide) rfl ?_
                  refine g_iload (j := 2) C dX3_bestReel_144 rfl ?_
                  refine g_istore (L' := [(6, .int q_2007), (5, .int v7), (9, .int (nI 1)), (8, .int q_2007), (0, .ref (ad 1)), (3, .int v3), (4, .int v4), (7, .int v7)]) C dX3_bestReel_146 (by decide) rfl ?_
                  refine g_iinc (k := 7) (L' := [(7, .int (v7 + 1)), (6, .int q_2007), (5, .int v7), (9, .int (nI 1)), (8, .int q_2007), (0, .ref (ad 1)), (3, .int v3), (4, .int v4)]) C dX3_bestReel_148 rfl (z_iinc (by decide)) (by decide) rfl ?_
                  refine g_goto C dX3_bestReel_151 (tgt := 63) (by decide) ?_
                  refine zG_sub (L' := [(0, .ref (ad 1)), (3, .int v3), (4, .int v4), (5, .int v7), (6, .int q_2007), (7, .int (v7 + 1))]) [5, 6, 7, 2, 1, 0] rfl ?_
                  exact ih v7 q_2007 (v7 + 1) h
def f_X3_bestReel (X : Nat → Nat → Int32) (v1 v2 : Int32) : Option Int32 := f_X3_bestReel_L16 (fun v4_1003 => f_X3_bestReel_L63 X (f_X4_get X 12 26 (nI 0) (nI 3)) v4_1003 zFuel (nI 0) (nI 0) (nI 1)) X v1 v2 (f_X4_get X 12 26 (nI 0) (nI 3)) zFuel (nI 0) (nI 0)
set_option maxRecDepth 100000 in
set_option maxHeartbeats 4000000 in
theorem c_X3_bestReel (l : Launch) (D : va_G) (cy : Nat → ClassId) (ad : Nat → Nat) (E : va_W) (X : Nat → Nat → Int32) (v1 v2 : Int32) {res : Int32} (h : f_X3_bestReel X v1 v2 = some res) : zMi l yX3_bestReel cX3_bestReel 10 (some .int) (zrm 3) D (zTy cy) (zW cy ad shC E X) [.ref (ad 1), .int v1, .int v2] res (zW cy ad shC E X) := by
  refine zMi.of (by decide) (Nat.le_of_ble_eq_true rfl) ?_
  intro p e s m below meth c A C hr
  unfold f_X3_bestReel at h
  refine zG_L (L' := [(0, .ref (ad 1)), (1, .int v1), (2, .int v2)]) rfl ?_
  refine g_aload_n (j := 0) C dX3_bestReel_0 rfl rfl ?_
  refine g_getr (k := 5) (N := 8) C sC_1 rfl zin_RX3 (by decide) rfl zfl_RX3_32 rfl dX3_bestReel_1 ?_
  refine g_iconst (v := (nI 0)) C dX3_bestReel_4 (by decide) ?_
  refine g_iconst (v := (nI 3)) C dX3_bestReel_5 (by decide) ?_
  refine g_vi (ws' := (zW cy ad shC E X)) (As := [.int (nI 0), .int (nI 3)]) (rest := []) (res := (f_X4_get X 12 26 (nI 0) (nI 3))) C (c_X4_get l D cy ad E X 12 26 sC_12 sC_13 (by decide) (nI 0) (nI 3)) zml_RX3_54 zcv_X4_get (zW_get X sC_12) rfl rfl rfl ⟨Nat.le_of_ble_eq_true rfl, Nat.le_of_ble_eq_true rfl⟩ rfl rfl (Nat.le_of_ble_eq_true rfl) ⟨Nat.zero_le _, Nat.zero_le _⟩ dX3_bestReel_6 ?_
  refine g_istore_n (L' := [(3, .int (f_X4_get X 12 26 (nI 0) (nI 3))), (0, .ref (ad 1)), (1, .int v1), (2, .int v2)]) C dX3_bestReel_9 rfl (by decide) rfl ?_
  refine g_iconst (v := (nI 0)) C dX3_bestReel_10 (by decide) ?_
  refine g_istore (L' := [(4, .int (nI 0)), (3, .int (f_X4_get X 12 26 (nI 0) (nI 3))), (0, .ref (ad 1)), (1, .int v1), (2, .int v2)]) C dX3_bestReel_11 (by decide) rfl ?_
  refine g_iconst (v := (nI 0)) C dX3_bestReel_13 (by decide) ?_
  refine g_istore (L' := [(5, .int (nI 0)), (4, .int (nI 0)), (3, .int (f_X4_get X 12 26 (nI 0) (nI 3))), (0, .ref (ad 1)), (1, .int v1), (2, .int v2)]) C dX3_bestReel_14 (by decide) rfl ?_
  refine zG_sub (L' := [(0, .ref (ad 1)), (1, .int v1), (2, .int v2), (3, .int (f_X4_get X 12 26 (nI 0) (nI 3))), (4, .int (nI 0)), (5, .int (nI 0))]) [3, 4, 5, 2, 1, 0] rfl ?_
  refine w_X3_bestReel_L16 l D cy ad E _ X v1 v2 (f_X4_get X 12 26 (nI 0) (nI 3)) C hr zFuel (nI 0) (nI 0) h ?_
  intro v4_1003 h
  refine g_iconst (v := (nI 0)) C dX3_bestReel_54 (by decide) ?_
  refine g_istore (L' := [(5, .int (nI 0)), (0, .ref (ad 1)), (3, .int (f_X4_get X 12 26 (nI 0) (nI 3))), (4, .int v4_1003)]) C dX3_bestReel_55 (by decide) rfl ?_
  refine g_iconst (v := (nI 0)) C dX3_bestReel_57 (by decide) ?_
  refine g_istore (L' := [(6, .int (nI 0)), (5, .int (nI 0)), (0, .ref (ad 1)), (3, .int (f_X4_get X 12 26 (nI 0) (nI 3))), (4, .int v4_1003)]) C dX3_bestReel_58 (by decide) rfl ?_
  refine g_iconst (v := (nI 1)) C dX3_bestReel_60 (by decide) ?_
  refine g_istore (L' := [(7, .int (nI 1)), (6, .int (nI 0)), (5, .int (nI 0)), (0, .ref (ad 1)), (3, .int (f_X4_get X 12 26 (nI 0) (nI 3))), (4, .int v4_1003)]) C dX3_bestReel_61 (by decide) rfl ?_
  refine zG_sub (L' := [(0, .ref (ad 1)), (3, .int (f_X4_get X 12 26 (nI 0) (nI 3))), (4, .int v4_1003), (5, .int (nI 0)), (6, .int (nI 0)), (7, .int (nI 1))]) [3, 4, 5, 2, 1, 0] rfl ?_
  exact w_X3_bestReel_L63 l D cy ad E X (f_X4_get X 12 26 (nI 0) (nI 3)) v4_1003 C hr zFuel (nI 0) (nI 0) (nI 1) h
def f_X3_newMinutes (X : Nat → Nat → Int32) (v1 v2 : Int32) : Option Int32 := ((f_X3_bestReel X v1 v2).bind fun q_1 => ((f_X3_reelMinutes X q_1).bind fun q_3 => some (q_3 + (f_X4_get X 4 96 v1 (nI 0)))))
set_option maxRecDepth 100000 in
set_option maxHeartbeats 4000000 in
theorem c_X3_newMinutes (l : Launch) (D : va_G) (cy : Nat → ClassId) (ad : Nat → Nat) (E : va_W) (X : Nat → Nat → Int32) (v1 v2 : Int32) {res : Int32} (h : f_X3_newMinutes X v1 v2 = some res) : zMi l yX3_newMinutes cX3_newMinutes 3 (some .int) (zrm 4) D (zTy cy) (zW cy ad shC E X) [.ref (ad 1), .int v1, .int v2] res (zW cy ad shC E X) := by
  refine zMi.of (by decide) (Nat.le_of_ble_eq_true rfl) ?_
  intro p e s m below meth c A C hr
  unfold f_X3_newMinutes at h
  refine zG_L (L' := [(0, .ref (ad 1)), (1, .int v1), (2, .int v2)]) rfl ?_
  refine g_aload_n (j := 0) C dX3_newMinutes_0 rfl rfl ?_
  refine g_aload_n (j := 0) C dX3_newMinutes_1 rfl rfl ?_
  refine g_iload_n (j := 1) C dX3_newMinutes_2 rfl rfl ?_
  refine g_iload_n (j := 2) C dX3_newMinutes_3 rfl rfl ?_
  obtain ⟨q_1, hq_2, h⟩ := bind_isome h
  refine g_vi (ws' := (zW cy ad shC E X)) (As := [.int v1, .int v2]) (rest := [.ref (ad 1)]) (res := q_1) C (c_X3_bestReel l D cy ad E X v1 v2 hq_2) zml_RX3_84 zcv_X3_bestReel (zW_get X sC_1) rfl rfl rfl ⟨Nat.le_of_ble_eq_true rfl, Nat.le_of_ble_eq_true rfl⟩ rfl rfl (Nat.le_of_ble_eq_true rfl) ⟨Nat.zero_le _, Nat.zero_le _⟩ dX3_newMinutes_4 ?_
  obtain ⟨q_3, hq_4, h⟩ := bind_isome h
  refine g_vi (ws' := (zW cy ad shC E X)) (As := [.int q_1]) (rest := []) (res := q_3) C (c_X3_reelMinutes l D cy ad E X q_1 hq_4) zml_RX3_77 zcv_X3_reelMinutes (zW_get X sC_1) rfl rfl rfl ⟨Nat.le_of_ble_eq_true rfl, Nat.le_of_ble_eq_true rfl⟩ rfl rfl (Nat.le_of_ble_eq_true rfl) ⟨Nat.zero_le _, Nat.zero_le _⟩ dX3_newMinutes_7 ?_
  refine g_aload_n (j := 0) C dX3_newMinutes_10 rfl rfl ?_
  refine g_getr (k := 1) (N := 8) C sC_1 rfl zin_RX3 (by decide) rfl zfl_RX3_20 rfl dX3_newMinutes_11 ?_
  refine g_iload_n (j := 1) C dX3_newMinutes_14 rfl rfl ?_
  refine g_iconst (v := (nI 0)) C dX3_newMinutes_15 (by decide) ?_
  refine g_vi (ws' := (zW cy ad shC E X)) (As := [.int v1, .int (nI 0)]) (rest := [.int q_3]) (res := (f_X4_get X 4 96 v1 (nI 0))) C (c_X4_get l D cy ad E X 4 96 sC_4 sC_5 (by decide) v1 (nI 0)) zml_RX3_54 zcv_X4_get (zW_get X sC_4) rfl rfl rfl ⟨Nat.le_of_ble_eq_true rfl, Nat.le_of_ble_eq_true rfl⟩ rfl rfl (Nat.le_of_ble_eq_true rfl) ⟨Nat.zero_le _, Nat.zero_le _⟩ dX3_newMinutes_16 ?_
  refine g_iadd C dX3_newMinutes_19 ?_
  obtain rfl := Option.some.inj h
  exact g_iret rfl C hr rfl dX3_newMinutes_20
def f_X3_addShow (X : Nat → Nat → Int32) (v1 v2 v3 v4 : Int32) : Option (Int32 × (Nat → Nat → Int32)) := ((f_X3_bestReel X v2 v3).bind fun q_1 => ((f_X3_reelMinutes X q_1).bind fun q_3 => ((f_X4_addRow X 8 360).bind fun q_5 => (zlet (f_X4_put q_5.2 8 360 q_5.1 (nI 0) v1) fun X_7 => (zlet (f_X4_put X_7 8 360 q_5.1 (nI 1) v2) fun X_9 => (zlet (f_X4_put X_9 8 360 q_5.1 (nI 2) v3) fun X_11 => (zlet (f_X4_put X_11 8 360 q_5.1 (nI 3) v4) fun X_13 => (zlet (f_X4_put X_13 8 360 q_5.1 (nI 4) ((v4 + q_3) + (f_X4_get X_13 4 96 v2 (nI 0)))) fun X_15 => (zlet (f_X4_put X_15 8 360 q_5.1 (nI 6) q_1) fun X_17 => (zlet (f_X4_put X_17 8 360 q_5.1 (nI 7) (f_X4_get X_17 12 26 (nI 0) (nI 5))) fun X_19 => (zlet (f_X4_put X_19 8 360 q_5.1 (nI 11) q_3) fun X_21 => some (q_5.1, X_21))))))))))))
set_option maxRecDepth 100000 in
set_option maxHeartbeats 4000000 in
theorem c_X3_addShow (l : Launch) (D : va_G) (cy : Nat → ClassId) (ad : Nat → Nat) (E : va_W) (X : Nat → Nat → Int32) (v1 v2 v3 v4 : Int32) {res : Int32 × (Nat → Nat → Int32)} (h : f_X3_addShow X v1 v2 v3 v4 = some res) : zMi l yX3_addShow cX3_addShow 8 (some .int) (zrm 4) D (zTy cy) (zW cy ad shC E X) [.ref (ad 1), .int v1, .int v2, .int v3, .int v4] res.1 (zW cy ad shC E res.2) := by
  refine zMi.of (by decide) (Nat.le_of_ble_eq_true rfl) ?_
  intro p e s m below meth c A C hr
  unfold f_X3_addShow at h
  refine zG_L (L' := [(0, .ref (ad 1)), (1, .int v1), (2, .int v2), (3, .int v3), (4, .int v4)]) rfl ?_
  refine g_aload_n (j := 0) C dX3_addShow_0 rfl rfl ?_
  refine g_iload_n (j := 2) C dX3_addShow_1 rfl rfl ?_
  refine g_iload_n (j := 3) C dX3_addShow_2 rfl rfl ?_
  obtain ⟨q_1, hq_2, h⟩ := bind_isome h
  refine g_vi (ws' := (zW cy ad shC E X)) (As := [.int v2, .int v3]) (rest := []) (res := q_1) C (c_X3_bestReel l D cy ad E X v2 v3 hq_2) zml_RX3_84 zcv_X3_bestReel (zW_get X sC_1) rfl rfl rfl ⟨Nat.le_of_ble_eq_true rfl, Nat.le_of_ble_eq_true rfl⟩ rfl rfl (Nat.le_of_ble_eq_true rfl) ⟨Nat.zero_le _, Nat.zero_le _⟩ dX3_addShow_3 ?_
  refine g_istore (L' := [(5, .int q_1), (0, .ref (ad 1)), (1, .int v1), (2, .int v2), (3, .int v3), (4, .int v4)]) C dX3_addShow_6 (by decide) rfl ?_
  refine g_aload_n (j := 1) C dX3_addShow_8 rfl rfl ?_
  refine g_iload (j := 0) C dX3_addShow_9 rfl ?_
  obtain ⟨q_3, hq_4, h⟩ := bind_isome h
  refine g_vi (ws' := (zW cy ad shC E X)) (As := [.int q_1]) (rest := []) (res := q_3) C (c_X3_reelMinutes l D cy ad E X q_1 hq_4) zml_RX3_77 zcv_X3_reelMinutes (zW_get X sC_1) rfl rfl rfl ⟨Nat.le_of_ble_eq_true rfl, Nat.le_of_ble_eq_true rfl⟩ rfl rfl (Nat.le_of_ble_eq_true rfl) ⟨Nat.zero_le _, Nat.zero_le _⟩ dX3_addShow_11 ?_
  refine g_istore (L' := [(6, .int q_3), (5, .int q_1), (0, .ref (ad 1)), (1, .int v1), (2, .int v2), (3, .int v3), (4, .int v4)]) C dX3_addShow_14 (by decide) rfl ?_
  refine g_aload_n (j := 2) C dX3_addShow_16 rfl rfl ?_
  refine g_getr (k := 3) (N := 8) C sC_1 rfl zin_RX3 (by decide) rfl zfl_RX3_26 rfl dX3_addShow_17 ?_
  obtain ⟨q_5, hq_6, h⟩ := bind_isome h
  refine g_vi (ws' := (zW cy ad shC E q_5.2)) (As := []) (rest := []) (res := q_5.1) C (c_X4_addRow l D cy ad E X 8 360 sC_8 sC_9 (by decide) hq_6) zml_RX3_87 zcv_X4_addRow (zW_get X sC_8) rfl rfl rfl ⟨Nat.le_of_ble_eq_true rfl, Nat.le_of_ble_eq_true rfl⟩ rfl rfl (Nat.le_of_ble_eq_true rfl) ⟨Nat.zero_le _, Nat.zero_le _⟩ dX3_addShow_20 ?_
  refine g_istore (L' := [(7, .int q_5.1), (6, .int q_3), (5, .int q_1), (0, .ref (ad 1)), (1, .int v1), (2, .int v2), (3, .int v3), (4, .int v4)]) C dX3_addShow_23 (by decide) rfl ?_
  refine g_aload_n (j := 3) C dX3_addShow_25 rfl rfl ?_
  refine g_getr (k := 3) (N := 8) C sC_1 rfl zin_RX3 (by decide) rfl zfl_RX3_26 rfl dX3_addShow_26 ?_
  refine g_iload (j := 0) C dX3_addShow_29 rfl ?_
  refine g_iconst (v := (nI 0)) C dX3_addShow_31 (by decide) ?_
  refine g_iload_n (j := 4) C dX3_addShow_32 rfl rfl ?_
  obtain ⟨X_7, e_8, h⟩ := zlet_ex h
  refine g_vv (ws' := (zW cy ad shC E X_7)) (As := [.int q_5.1, .int (nI 0), .int v1]) (rest := []) C ((by rw [e_8]; exact c_X4_put l D cy ad E q_5.2 8 360 sC_8 sC_9 (by decide) q_5.1 (nI 0) v1)) zml_RX3_46 zcv_X4_put (zW_get q_5.2 sC_8) rfl rfl rfl ⟨Nat.le_of_ble_eq_true rfl, Nat.le_of_ble_eq_true rfl⟩ rfl rfl (Nat.le_of_ble_eq_true rfl) ⟨Nat.zero_le _, Nat.zero_le _⟩ dX3_addShow_33 ?_
  refine g_aload_n (j := 3) C dX3_addShow_36 rfl rfl ?_
  refine g_getr (k := 3) (N := 8) C sC_1 rfl zin_RX3 (by decide) rfl zfl_RX3_26 rfl dX3_addShow_37 ?_
  refine g_iload (j := 0) C dX3_addShow_40 rfl ?_
  refine g_iconst (v := (nI 1)) C dX3_addShow_42 (by decide) ?_
  refine g_iload_n (j := 5) C dX3_addShow_43 rfl rfl ?_
  obtain ⟨X_9, e_10, h⟩ := zlet_ex h
  refine g_vv (ws' := (zW cy ad shC E X_9)) (As := [.int q_5.1, .int (nI 1), .int v2]) (rest := []) C ((by rw [e_10]; exact c_X4_put l D cy ad E X_7 8 360 sC_8 sC_9 (by decide) q_5.1 (nI 1) v2)) zml_RX3_46 zcv_X4_put (zW_get X_7 sC_8) rfl rfl rfl ⟨Nat.le_of_ble_eq_true rfl, Nat.le_of_ble_eq_true rfl⟩ rfl rfl (Nat.le_of_ble_eq_true rfl) ⟨Nat.zero_le _, Nat.zero_le _⟩ dX3_addShow_44 ?_
  refine g_aload_n (j := 3) C dX3_addShow_47 rfl rfl ?_
  refine g_getr (k := 3) (N := 8) C sC_1 rfl zin_RX3 (by decide) rfl zfl_RX3_26 rfl dX3_addShow_48 ?_
  refine g_iload (j := 0) C dX3_addShow_51 rfl ?_
  refine g_iconst (v := (nI 2)) C dX3_addShow_53 (by decide) ?_
  refine g_iload_n (j := 6) C dX3_addShow_54 rfl rfl ?_
  obtain ⟨X_11, e_12, h⟩ := zlet_ex h
  refine g_vv (ws' := (zW cy ad shC E X_11)) (As := [.int q_5.1, .int (nI 2), .int v3]) (rest := []) C ((by rw [e_12]; exact c_X4_put l D cy ad E X_9 8 360 sC_8 sC_9 (by decide) q_5.1 (nI 2) v3)) zml_RX3_46 zcv_X4_put (zW_get X_9 sC_8) rfl rfl rfl ⟨Nat.le_of_ble_eq_true rfl, Nat.le_of_ble_eq_true rfl⟩ rfl rfl (Nat.le_of_ble_eq_true rfl) ⟨Nat.zero_le _, Nat.zero_le _⟩ dX3_addShow_55 ?_
  refine g_aload_n (j := 3) C dX3_addShow_58 rfl rfl ?_
  refine g_getr (k := 3) (N := 8) C sC_1 rfl zin_RX3 (by decide) rfl zfl_RX3_26 rfl dX3_addShow_59 ?_
  refine g_iload (j := 0) C dX3_addShow_62 rfl ?_
  refine g_iconst (v := (nI 3)) C dX3_addShow_64 (by decide) ?_
  refine g_iload (j := 7) C dX3_addShow_65 rfl ?_
  obtain ⟨X_13, e_14, h⟩ := zlet_ex h
  refine g_vv (ws' := (zW cy ad shC E X_13)) (As := [.int q_5.1, .int (nI 3), .int v4]) (rest := []) C ((by rw [e_14]; exact c_X4_put l D cy ad E X_11 8 360 sC_8 sC_9 (by decide) q_5.1 (nI 3) v4)) zml_RX3_46 zcv_X4_put (zW_get X_11 sC_8) rfl rfl rfl ⟨Nat.le_of_ble_eq_true rfl, Nat.le_of_ble_eq_true rfl⟩ rfl rfl (Nat.le_of_ble_eq_true rfl) ⟨Nat.zero_le _, Nat.zero_le _⟩ dX3_addShow_67 ?_
  refine g_aload_n (j := 3) C dX3_addShow_70 rfl rfl ?_
  refine g_getr (k := 3) (N := 8) C sC_1 rfl zin_RX3 (by decide) rfl zfl_RX3_26 rfl dX3_addShow_71 ?_
  refine g_iload (j := 0) C dX3_addShow_74 rfl ?_
  refine g_iconst (v := (nI 4)) C dX3_addShow_76 (by decide) ?_
  refine g_iload (j := 7) C dX3_addShow_77 rfl ?_
  refine g_iload (j := 1) C dX3_addShow_79 rfl ?_
  refine g_iadd C dX3_addShow_81 ?_
  refine g_aload_n (j := 3) C dX3_addShow_82 rfl rfl ?_
  refine g_getr (k := 1) (N := 8) C sC_1 rfl zin_RX3 (by decide) rfl zfl_RX3_20 rfl dX3_addShow_83 ?_
  refine g_iload_n (j := 5) C dX3_addShow_86 rfl rfl ?_
  refine g_iconst (v := (nI 0)) C dX3_addShow_87 (by decide) ?_
  refine g_vi (ws' := (zW cy ad shC E X_13)) (As := [.int v2, .int (nI 0)]) (rest := [.int (v4 + q_3), .int (nI 4), .int q_5.1, .ref (ad 8)]) (res := (f_X4_get X_13 4 96 v2 (nI 0))) C (c_X4_get l D cy ad E X_13 4 96 sC_4 sC_5 (by decide) v2 (nI 0)) zml_RX3_54 zcv_X4_get (zW_get X_13 sC_4) rfl rfl rfl ⟨Nat.le_of_ble_eq_true rfl, Nat.le_of_ble_eq_true rfl⟩ rfl rfl (Nat.le_of_ble_eq_true rfl) ⟨Nat.zero_le _, Nat.zero_le _⟩ dX3_addShow_88 ?_
  refine g_iadd C dX3_addShow_91 ?_
  obtain ⟨X_15, e_16, h⟩ := zlet_ex h
  refine g_vv (ws' := (zW cy ad shC E X_15)) (As := [.int q_5.1, .int (nI 4), .int ((v4 + q_3) + (f_X4_get X_13 4 96 v2 (nI 0)))]) (rest := []) C ((by rw [e_16]; exact c_X4_put l D cy ad E X_13 8 360 sC_8 sC_9 (by decide) q_5.1 (nI 4) ((v4 + q_3) + (f_X4_get X_13 4 96 v2 (nI 0))))) zml_RX3_46 zcv_X4_put (zW_get X_13 sC_8) rfl rfl rfl ⟨Nat.le_of_ble_eq_true rfl, Nat.le_of_ble_eq_true rfl⟩ rfl rfl (Nat.le_of_ble_eq_true rfl) ⟨Nat.zero_le _, Nat.zero_le _⟩ dX3_addShow_92 ?_
  refine g_aload_n (j := 3) C dX3_addShow_95 rfl rfl ?_
  refine g_getr (k := 3) (N := 8) C sC_1 rfl zin_RX3 (by decide) rfl zfl_RX3_26 rfl dX3_addShow_96 ?_
  refine g_iload (j := 0) C dX3_addShow_99 rfl ?_
  refine g_bipush (v := (nI 6)) C dX3_addShow_101 (by decide) ?_
  refine g_iload (j := 2) C dX3_addShow_103 rfl ?_
  obtain ⟨X_17, e_18, h⟩ := zlet_ex h
  refine g_vv (ws' := (zW cy ad shC E X_17)) (As := [.int q_5.1, .int (nI 6), .int q_1]) (rest := []) C ((by rw [e_18]; exact c_X4_put l D cy ad E X_15 8 360 sC_8 sC_9 (by decide) q_5.1 (nI 6) q_1)) zml_RX3_46 zcv_X4_put (zW_get X_15 sC_8) rfl rfl rfl ⟨Nat.le_of_ble_eq_true rfl, Nat.le_of_ble_eq_true rfl⟩ rfl rfl (Nat.le_of_ble_eq_true rfl) ⟨Nat.zero_le _, Nat.zero_le _⟩ dX3_addShow_105 ?_
  refine g_aload_n (j := 3) C dX3_addShow_108 rfl rfl ?_
  refine g_getr (k := 3) (N := 8) C sC_1 rfl zin_RX3 (by decide) rfl zfl_RX3_26 rfl dX3_addShow_109 ?_
  refine g_iload (j := 0) C dX3_addShow_112 rfl ?_
  refine g_bipush (v := (nI 7)) C dX3_addShow_114 (by decide) ?_
  refine g_aload_n (j := 3) C dX3_addShow_116 rfl rfl ?_
  refine g_getr (k := 5) (N := 8) C sC_1 rfl zin_RX3 (by decide) rfl zfl_RX3_32 rfl dX3_addShow_117 ?_
  refine g_iconst (v := (nI 0)) C dX3_addShow_120 (by decide) ?_
  refine g_iconst (v := (nI 5)) C dX3_addShow_121 (by decide) ?_
  refine g_vi (ws' := (zW cy ad shC E X_17)) (As := [.int (nI 0), .int (nI 5)]) (rest := [.int (nI 7), .int q_5.1, .ref (ad 8)]) (res := (f_X4_get X_17 12 26 (nI 0) (nI 5))) C (c_X4_get l D cy ad E X_17 12 26 sC_12 sC_13 (by decide) (nI 0) (nI 5)) zml_RX3_54 zcv_X4_get (zW_get X_17 sC_12) rfl rfl rfl ⟨Nat.le_of_ble_eq_true rfl, Nat.le_of_ble_eq_true rfl⟩ rfl rfl (Nat.le_of_ble_eq_true rfl) ⟨Nat.zero_le _, Nat.zero_le _⟩ dX3_addShow_122 ?_
  obtain ⟨X_19, e_20, h⟩ := zlet_ex h
  refine g_vv (ws' := (zW cy ad shC E X_19)) (As := [.int q_5.1, .int (nI 7), .int (f_X4_get X_17 12 26 (nI 0) (nI 5))]) (rest := []) C ((by rw [e_20]; exact c_X4_put l D cy ad E X_17 8 360 sC_8 sC_9 (by decide) q_5.1 (nI 7) (f_X4_get X_17 12 26 (nI 0) (nI 5)))) zml_RX3_46 zcv_X4_put (zW_get X_17 sC_8) rfl rfl rfl ⟨Nat.le_of_ble_eq_true rfl, Nat.le_of_ble_eq_true rfl⟩ rfl rfl (Nat.le_of_ble_eq_true rfl) ⟨Nat.zero_le _, Nat.zero_le _⟩ dX3_addShow_125 ?_
  refine g_aload_n (j := 3) C dX3_addShow_128 rfl rfl ?_
  refine g_getr (k := 3) (N := 8) C sC_1 rfl zin_RX3 (by decide) rfl zfl_RX3_26 rfl dX3_addShow_129 ?_
  refine g_iload (j := 0) C dX3_addShow_132 rfl ?_
  refine g_bipush (v := (nI 11)) C dX3_addShow_134 (by decide) ?_
  refine g_iload (j := 1) C dX3_addShow_136 rfl ?_
  obtain ⟨X_21, e_22, h⟩ := zlet_ex h
  refine g_vv (ws' := (zW cy ad shC E X_21)) (As := [.int q_5.1, .int (nI 11), .int q_3]) (rest := []) C ((by rw [e_22]; exact c_X4_put l D cy ad E X_19 8 360 sC_8 sC_9 (by decide) q_5.1 (nI 11) q_3)) zml_RX3_46 zcv_X4_put (zW_get X_19 sC_8) rfl rfl rfl ⟨Nat.le_of_ble_eq_true rfl, Nat.le_of_ble_eq_true rfl⟩ rfl rfl (Nat.le_of_ble_eq_true rfl) ⟨Nat.zero_le _, Nat.zero_le _⟩ dX3_addShow_138 ?_
  refine g_iload (j := 0) C dX3_addShow_141 rfl ?_
  obtain rfl := Option.some.inj h
  exact g_iret rfl C hr rfl dX3_addShow_143
def f_X3_putShow (X : Nat → Nat → Int32) (v1 v2 v3 : Int32) : (Nat → Nat → Int32) := (zlet (f_X4_put X 8 360 v1 (nI 0) v2) fun X_1 => (zlet (f_X4_put X_1 8 360 v1 (nI 3) v3) fun X_3 => (zlet (f_X4_put X_3 8 360 v1 (nI 4) ((f_X4_get X_3 8 360 v1 (nI 4)) + (v3 - (f_X4_get X 8 360 v1 (nI 3))))) fun X_5 => X_5)))
set_option maxRecDepth 100000 in
set_option maxHeartbeats 4000000 in
theorem c_X3_putShow (l : Launch) (D : va_G) (cy : Nat → ClassId) (ad : Nat → Nat) (E : va_W) (X : Nat → Nat → Int32) (v1 v2 v3 : Int32) : zMv l yX3_putShow cX3_putShow 5 none (zrm 2) D (zTy cy) (zW cy ad shC E X) [.ref (ad 1), .int v1, .int v2, .int v3] (zW cy ad shC E (f_X3_putShow X v1 v2 v3)) := by
  refine zMv.of (by decide) (Nat.le_of_ble_eq_true rfl) ?_
  intro p e s m below meth c A C hr
  generalize h : f_X3_putShow X v1 v2 v3 = res
  unfold f_X3_putShow at h
  refine zG_L (L' := [(0, .ref (ad 1)), (1, .int v1), (2, .int v2), (3, .int v3)]) rfl ?_
  refine g_iload_n (j := 3) C dX3_putShow_0 rfl rfl ?_
  refine g_aload_n (j := 0) C dX3_putShow_1 rfl rfl ?_
  refine g_getr (k := 3) (N := 8) C sC_1 rfl zin_RX3 (by decide) rfl zfl_RX3_26 rfl dX3_putShow_2 ?_
  refine g_iload_n (j := 1) C dX3_putShow_5 rfl rfl ?_
  refine g_iconst (v := (nI 3)) C dX3_putShow_6 (by decide) ?_
  refine g_vi (ws' := (zW cy ad shC E X)) (As := [.int v1, .int (nI 3)]) (rest := [.int v3]) (res := (f_X4_get X 8 360 v1 (nI 3))) C (c_X4_get l D cy ad E X 8 360 sC_8 sC_9 (by decide) v1 (nI 3)) zml_RX3_54 zcv_X4_get (zW_get X sC_8) rfl rfl rfl ⟨Nat.le_of_ble_eq_true rfl, Nat.le_of_ble_eq_true rfl⟩ rfl rfl (Nat.le_of_ble_eq_true rfl) ⟨Nat.zero_le _, Nat.zero_le _⟩ dX3_putShow_7 ?_
  refine g_isub C dX3_putShow_10 ?_
  refine g_istore (L' := [(4, .int (v3 - (f_X4_get X 8 360 v1 (nI 3)))), (0, .ref (ad 1)), (1, .int v1), (2, .int v2), (3, .int v3)]) C dX3_putShow_11 (by decide) rfl ?_
  refine g_aload_n (j := 1) C dX3_putShow_13 rfl rfl ?_
  refine g_getr (k := 3) (N := 8) C sC_1 rfl zin_RX3 (by decide) rfl zfl_RX3_26 rfl dX3_putShow_14 ?_
  refine g_iload_n (j := 2) C dX3_putShow_17 rfl rfl ?_
  refine g_iconst (v := (nI 0)) C dX3_putShow_18 (by decide) ?_
  refine g_iload_n (j := 3) C dX3_putShow_19 rfl rfl ?_
  obtain ⟨X_1, e_2, h⟩ := zlet_ex h
  refine g_vv (ws' := (zW cy ad shC E X_1)) (As := [.int v1, .int (nI 0), .int v2]) (rest := []) C ((by rw [e_2]; exact c_X4_put l D cy ad E X 8 360 sC_8 sC_9 (by decide) v1 (nI 0) v2)) zml_RX3_46 zcv_X4_put (zW_get X sC_8) rfl rfl rfl ⟨Nat.le_of_ble_eq_true rfl, Nat.le_of_ble_eq_true rfl⟩ rfl rfl (Nat.le_of_ble_eq_true rfl) ⟨Nat.zero_le _, Nat.zero_le _⟩ dX3_putShow_20 ?_
  refine g_aload_n (j := 1) C dX3_putShow_23 rfl rfl ?_
  refine g_getr (k := 3) (N := 8) C sC_1 rfl zin_RX3 (by decide) rfl zfl_RX3_26 rfl dX3_putShow_24 ?_
  refine g_iload_n (j := 2) C dX3_putShow_27 rfl rfl ?_
  refine g_iconst (v := (nI 3)) C dX3_putShow_28 (by decide) ?_
  refine g_iload_n (j := 4) C dX3_putShow_29 rfl rfl ?_
  obtain ⟨X_3, e_4, h⟩ := zlet_ex h
  refine g_vv (ws' := (zW cy ad shC E X_3)) (As := [.int v1, .int (nI 3), .int v3]) (rest := []) C ((by rw [e_4]; exact c_X4_put l D cy ad E X_1 8 360 sC_8 sC_9 (by decide) v1 (nI 3) v3)) zml_RX3_46 zcv_X4_put (zW_get X_1 sC_8) rfl rfl rfl ⟨Nat.le_of_ble_eq_true rfl, Nat.le_of_ble_eq_true rfl⟩ rfl rfl (Nat.le_of_ble_eq_true rfl) ⟨Nat.zero_le _, Nat.zero_le _⟩ dX3_putShow_30 ?_
  refine g_aload_n (j := 1) C dX3_putShow_33 rfl rfl ?_
  refine g_getr (k := 3) (N := 8) C sC_1 rfl zin_RX3 (by decide) rfl zfl_RX3_26 rfl dX3_putShow_34 ?_
  refine g_iload_n (j := 2) C dX3_putShow_37 rfl rfl ?_
  refine g_iconst (v := (nI 4)) C dX3_putShow_38 (by decide) ?_
  refine g_aload_n (j := 1) C dX3_putShow_39 rfl rfl ?_
  refine g_getr (k := 3) (N := 8) C sC_1 rfl zin_RX3 (by decide) rfl zfl_RX3_26 rfl dX3_putShow_40 ?_
  refine g_iload_n (j := 2) C dX3_putShow_43 rfl rfl ?_
  refine g_iconst (v := (nI 4)) C dX3_putShow_44 (by decide) ?_
  refine g_vi (ws' := (zW cy ad shC E X_3)) (As := [.int v1, .int (nI 4)]) (rest := [.int (nI 4), .int v1, .ref (ad 8)]) (res := (f_X4_get X_3 8 360 v1 (nI 4))) C (c_X4_get l D cy ad E X_3 8 360 sC_8 sC_9 (by decide) v1 (nI 4)) zml_RX3_54 zcv_X4_get (zW_get X_3 sC_8) rfl rfl rfl ⟨Nat.le_of_ble_eq_true rfl, Nat.le_of_ble_eq_true rfl⟩ rfl rfl (Nat.le_of_ble_eq_true rfl) ⟨Nat.zero_le _, Nat.zero_le _⟩ dX3_putShow_45 ?_
  refine g_iload (j := 0) C dX3_putShow_48 rfl ?_
  refine g_iadd C dX3_putShow_50 ?_
  obtain ⟨X_5, e_6, h⟩ := zlet_ex h
  refine g_vv (ws' := (zW cy ad shC E X_5)) (As := [.int v1, .int (nI 4), .int ((f_X4_get X_3 8 360 v1 (nI 4)) + (v3 - (f_X4_get X 8 360 v1 (nI 3))))]) (rest := []) C ((by rw [e_6]; exact c_X4_put l D cy ad E X_3 8 360 sC_8 sC_9 (by decide) v1 (nI 4) ((f_X4_get X_3 8 360 v1 (nI 4)) + (v3 - (f_X4_get X 8 360 v1 (nI 3)))))) zml_RX3_46 zcv_X4_put (zW_get X_3 sC_8) rfl rfl rfl ⟨Nat.le_of_ble_eq_true rfl, Nat.le_of_ble_eq_true rfl⟩ rfl rfl (Nat.le_of_ble_eq_true rfl) ⟨Nat.zero_le _, Nat.zero_le _⟩ dX3_putShow_51 ?_
  subst h
  exact g_vret rfl C hr dX3_putShow_54
def f_X3_dropShow (X : Nat → Nat → Int32) (v1 : Int32) : Int32 × (Nat → Nat → Int32) := (zlet (f_X4_put X 8 360 v1 (nI 8) (nI 1)) fun X_1 => (zlet (f_X4_put X_1 8 360 v1 (nI 5) (nI 0)) fun X_3 => (zlet (zU X_3 1 7 ((X_3 1 7) + (f_X4_get X 8 360 v1 (nI 5)))) fun X_5 => ((f_X4_get X 8 360 v1 (nI 5)), X_5))))
set_option maxRecDepth 100000 in
set_option maxHeartbeats 4000000 in
theorem c_X3_dropShow (l : Launch) (D : va_G) (cy : Nat → ClassId) (ad : Nat → Nat) (E : va_W) (X : Nat → Nat → Int32) (v1 : Int32) : zMi l yX3_dropShow cX3_dropShow 3 (some .int) (zrm 2) D (zTy cy) (zW cy ad shC E X) [.ref (ad 1), .int v1] ((f_X3_dropShow X v1).1) (zW cy ad shC E (f_X3_dropShow X v1).2) := by
  refine zMi.of (by decide) (Nat.le_of_ble_eq_true rfl) ?_
  intro p e s m below meth c A C hr
  generalize h : f_X3_dropShow X v1 = res
  unfold f_X3_dropShow at h
  refine zG_L (L' := [(0, .ref (ad 1)), (1, .int v1)]) rfl ?_
  refine g_aload_n (j := 0) C dX3_dropShow_0 rfl rfl ?_
  refine g_getr (k := 3) (N := 8) C sC_1 rfl zin_RX3 (by decide) rfl zfl_RX3_26 rfl dX3_dropShow_1 ?_
  refine g_iload_n (j := 1) C dX3_dropShow_4 rfl rfl ?_
  refine g_iconst (v := (nI 5)) C dX3_dropShow_5 (by decide) ?_
  refine g_vi (ws' := (zW cy ad shC E X)) (As := [.int v1, .int (nI 5)]) (rest := []) (res := (f_X4_get X 8 360 v1 (nI 5))) C (c_X4_get l D cy ad E X 8 360 sC_8 sC_9 (by decide) v1 (nI 5)) zml_RX3_54 zcv_X4_get (zW_get X sC_8) rfl rfl rfl ⟨Nat.le_of_ble_eq_true rfl, Nat.le_of_ble_eq_true rfl⟩ rfl rfl (Nat.le_of_ble_eq_true rfl) ⟨Nat.zero_le _, Nat.zero_le _⟩ dX3_dropShow_6 ?_
  refine g_istore_n (L' := [(2, .int (f_X4_get X 8 360 v1 (nI 5))), (0, .ref (ad 1)), (1, .int v1)]) C dX3_dropShow_9 rfl (by decide) rfl ?_
  refine g_aload_n (j := 1) C dX3_dropShow_10 rfl rfl ?_
  refine g_getr (k := 3) (N := 8) C sC_1 rfl zin_RX3 (by decide) rfl zfl_RX3_26 rfl dX3_dropShow_11 ?_
  refine g_iload_n (j := 2) C dX3_dropShow_14 rfl rfl ?_
  refine g_bipush (v := (nI 8)) C dX3_dropShow_15 (by decide) ?_
  refine g_iconst (v := (nI 1)) C dX3_dropShow_17 (by decide) ?_
  obtain ⟨X_1, e_2, h⟩ := zlet_ex h
  refine g_vv (ws' := (zW cy ad shC E X_1)) (As := [.int v1, .int (nI 8), .int (nI 1)]) (rest := []) C ((by rw [e_2]; exact c_X4_put l D cy ad E X 8 360 sC_8 sC_9 (by decide) v1 (nI 8) (nI 1))) zml_RX3_46 zcv_X4_put (zW_get X sC_8) rfl rfl rfl ⟨Nat.le_of_ble_eq_true rfl, Nat.le_of_ble_eq_true rfl⟩ rfl rfl (Nat.le_of_ble_eq_true rfl) ⟨Nat.zero_le _, Nat.zero_le _⟩ dX3_dropShow_18 ?_
  refine g_aload_n (j := 1) C dX3_dropShow_21 rfl rfl ?_
  refine g_getr (k := 3) (N := 8) C sC_1 rfl zin_RX3 (by decide) rfl zfl_RX3_26 rfl dX3_dropShow_22 ?_
  refine g_iload_n (j := 2) C dX3_dropShow_25 rfl rfl ?_
  refine g_iconst (v := (nI 5)) C dX3_dropShow_26 (by decide) ?_
  refine g_iconst (v := (nI 0)) C dX3_dropShow_27 (by decide) ?_
  obtain ⟨X_3, e_4, h⟩ := zlet_ex h
  refine g_vv (ws' := (zW cy ad shC E X_3)) (As := [.int v1, .int (nI 5), .int (nI 0)]) (rest := []) C ((by rw [e_4]; exact c_X4_put l D cy ad E X_1 8 360 sC_8 sC_9 (by decide) v1 (nI 5) (nI 0))) zml_RX3_46 zcv_X4_put (zW_get X_1 sC_8) rfl rfl rfl ⟨Nat.le_of_ble_eq_true rfl, Nat.le_of_ble_eq_true rfl⟩ rfl rfl (Nat.le_of_ble_eq_true rfl) ⟨Nat.zero_le _, Nat.zero_le _⟩ dX3_dropShow_28 ?_
  refine g_aload_n (j := 1) C dX3_dropShow_31 rfl rfl ?_
  refine g_dup C dX3_dropShow_32 rfl ?_
  refine g_geti (k := 7) (N := 8) C sC_1 rfl zin_RX3 (by decide) rfl zfl_RX3_39 rfl dX3_dropShow_33 ?_
  refine g_iload_n (j := 0) C dX3_dropShow_36 rfl rfl ?_
  refine g_iadd C dX3_dropShow_37 ?_
  refine g_puti (k := 7) (N := 8) (ty := .int) C sC_1 rfl zin_RX3 (by decide) rfl zfl_RX3_39 rfl tyX3_ok nmX3 rfl (by decide +kernel) rfl rfl dX3_dropShow_38 ?_
  obtain ⟨X_5, e_6, h⟩ := zlet_ex h
  rw [← e_6]
  refine g_iload_n (j := 0) C dX3_dropShow_41 rfl rfl ?_
  subst h
  exact g_iret rfl C hr rfl dX3_dropShow_42
def f_X3_addTickets (X : Nat → Nat → Int32) (v1 v2 : Int32) : Int32 × (Nat → Nat → Int32) := (zlet (f_X4_put X 8 360 v1 (nI 5) ((f_X4_get X 8 360 v1 (nI 5)) + v2)) fun X_1 => (((f_X4_get X 8 360 v1 (nI 5)) + v2), X_1))
set_option maxRecDepth 100000 in
set_option maxHeartbeats 4000000 in
theorem c_X3_addTickets (l : Launch) (D : va_G) (cy : Nat → ClassId) (ad : Nat → Nat) (E : va_W) (X : Nat → Nat → Int32) (v1 v2 : Int32) : zMi l yX3_addTickets cX3_addTickets 4 (some .int) (zrm 2) D (zTy cy) (zW cy ad shC E X) [.ref (ad 1), .int v1, .int v2] ((f_X3_addTickets X v1 v2).1) (zW cy ad shC E (f_X3_addTickets X v1 v2).2) := by
  refine zMi.of (by decide) (Nat.le_of_ble_eq_true rfl) ?_
  intro p e s m below meth c A C hr
  generalize h : f_X3_addTickets X v1 v2 = res
  unfold f_X3_addTickets at h
  refine zG_L (L' := [(0, .ref (ad 1)), (1, .int v1), (2, .int v2)]) rfl ?_
  refine g_aload_n (j := 0) C dX3_addTickets_0 rfl rfl ?_
  refine g_getr (k := 3) (N := 8) C sC_1 rfl zin_RX3 (by decide) rfl zfl_RX3_26 rfl dX3_addTickets_1 ?_
  refine g_iload_n (j := 1) C dX3_addTickets_4 rfl rfl ?_
  refine g_iconst (v := (nI 5)) C dX3_addTickets_5 (by decide) ?_
  refine g_vi (ws' := (zW cy ad shC E X)) (As := [.int v1, .int (nI 5)]) (rest := []) (res := (f_X4_get X 8 360 v1 (nI 5))) C (c_X4_get l D cy ad E X 8 360 sC_8 sC_9 (by decide) v1 (nI 5)) zml_RX3_54 zcv_X4_get (zW_get X sC_8) rfl rfl rfl ⟨Nat.le_of_ble_eq_true rfl, Nat.le_of_ble_eq_true rfl⟩ rfl rfl (Nat.le_of_ble_eq_true rfl) ⟨Nat.zero_le _, Nat.zero_le _⟩ dX3_addTickets_6 ?_
  refine g_iload_n (j := 2) C dX3_addTickets_9 rfl rfl ?_
  refine g_iadd C dX3_addTickets_10 ?_
  refine g_istore_n (L' := [(3, .int ((f_X4_get X 8 360 v1 (nI 5)) + v2)), (0, .ref (ad 1)), (1, .int v1), (2, .int v2)]) C dX3_addTickets_11 rfl (by decide) rfl ?_
  refine g_aload_n (j := 1) C dX3_addTickets_12 rfl rfl ?_
  refine g_getr (k := 3) (N := 8) C sC_1 rfl zin_RX3 (by decide) rfl zfl_RX3_26 rfl dX3_addTickets_13 ?_
  refine g_iload_n (j := 2) C dX3_addTickets_16 rfl rfl ?_
  refine g_iconst (v := (nI 5)) C dX3_addTickets_17 (by decide) ?_
  refine g_iload_n (j := 0) C dX3_addTickets_18 rfl rfl ?_
  obtain ⟨X_1, e_2, h⟩ := zlet_ex h
  refine g_vv (ws' := (zW cy ad shC E X_1)) (As := [.int v1, .int (nI 5), .int ((f_X4_get X 8 360 v1 (nI 5)) + v2)]) (rest := []) C ((by rw [e_2]; exact c_X4_put l D cy ad E X 8 360 sC_8 sC_9 (by decide) v1 (nI 5) ((f_X4_get X 8 360 v1 (nI 5)) + v2))) zml_RX3_46 zcv_X4_put (zW_get X sC_8) rfl rfl rfl ⟨Nat.le_of_ble_eq_true rfl, Nat.le_of_ble_eq_true rfl⟩ rfl rfl (Nat.le_of_ble_eq_true rfl) ⟨Nat.zero_le _, Nat.zero_le _⟩ dX3_addTickets_19 ?_
  refine g_iload_n (j := 0) C dX3_addTickets_22 rfl rfl ?_
  subst h
  exact g_iret rfl C hr rfl dX3_addTickets_23
def f_X3_isCancelled (X : Nat → Nat → Int32) (v1 : Int32) : Int32 := (if (f_X4_get X 8 360 v1 (nI 8)) = 0 then (nI 0) else (nI 1))
theorem b_X3_isCancelled (X : Nat → Nat → Int32) (v1 : Int32) : f_X3_isCancelled X v1 = 0 ∨ f_X3_isCancelled X v1 = 1 := by
  unfold f_X3_isCancelled
  repeat' split
  all_goals first | exact Or.inl rfl | exact Or.inr rfl
set_option maxRecDepth 100000 in
set_option maxHeartbeats 4000000 in
theorem c_X3_isCancelled (l : Launch) (D : va_G) (cy : Nat → ClassId) (ad : Nat → Nat) (E : va_W) (X : Nat → Nat → Int32) (v1 : Int32) : zMi l yX3_isCancelled cX3_isCancelled 2 (some .boolean) (zrm 2) D (zTy cy) (zW cy ad shC E X) [.ref (ad 1), .int v1] (f_X3_isCancelled X v1) (zW cy ad shC E X) := by
  refine zMi.of (by decide) (Nat.le_of_ble_eq_true rfl) ?_
  intro p e s m below meth c A C hr
  generalize h : f_X3_isCancelled X v1 = res
  unfold f_X3_isCancelled at h
  refine zG_L (L' := [(0, .ref (ad 1)), (1, .int v1)]) rfl ?_
  refine g_aload_n (j := 0) C dX3_isCancelled_0 rfl rfl ?_
  refine g_getr (k := 3) (N := 8) C sC_1 rfl zin_RX3 (by decide) rfl zfl_RX3_26 rfl dX3_isCancelled_1 ?_
  refine g_iload_n (j := 1) C dX3_isCancelled_4 rfl rfl ?_
  refine g_bipush (v := (nI 8)) C dX3_isCancelled_5 (by decide) ?_
  refine g_vi (ws' := (zW cy ad shC E X)) (As := [.int v1, .int (nI 8)]) (rest := []) (res := (f_X4_get X 8 360 v1 (nI 8))) C (c_X4_get l D cy ad E X 8 360 sC_8 sC_9 (by decide) v1 (nI 8)) zml_RX3_54 zcv_X4_get (zW_get X sC_8) rfl rfl rfl ⟨Nat.le_of_ble_eq_true rfl, Nat.le_of_ble_eq_true rfl⟩ rfl rfl (Nat.le_of_ble_eq_true rfl) ⟨Nat.zero_le _, Nat.zero_le _⟩ dX3_isCancelled_7 ?_
  refine g_if_eq C dX3_isCancelled_10 (tgt := 17) (by decide) (fun hc_1 => ?_) (fun hc_1 => ?_)
  · replace h := (if_pos hc_1).symm.trans h
    refine g_iconst (v := (nI 0)) C dX3_isCancelled_17 (by decide) ?_
    subst h
    exact g_iret rfl C hr (z_nb (Or.inl rfl)) dX3_isCancelled_18
  · replace h := (if_neg hc_1).symm.trans h
    refine g_iconst (v := (nI 1)) C dX3_isCancelled_13 (by decide) ?_
    refine g_goto C dX3_isCancelled_14 (tgt := 18) (by decide) ?_
    subst h
    exact g_iret rfl C hr (z_nb (Or.inr rfl)) dX3_isCancelled_18
def f_X3_statusOf (X : Nat → Nat → Int32) (v1 : Int32) : Int32 := (if (f_X3_isCancelled X v1) = 0 then (if (X 1 6) ≤ (f_X4_get X 8 360 v1 (nI 2)) then (nI 0) else (nI 2)) else (nI 1))
set_option maxRecDepth 100000 in
set_option maxHeartbeats 4000000 in
theorem c_X3_statusOf (l : Launch) (D : va_G) (cy : Nat → ClassId) (ad : Nat → Nat) (E : va_W) (X : Nat → Nat → Int32) (v1 : Int32) : zMi l yX3_statusOf cX3_statusOf 2 (some .int) (zrm 3) D (zTy cy) (zW cy ad shC E X) [.ref (ad 1), .int v1] (f_X3_statusOf X v1) (zW cy ad shC E X) := by
  refine zMi.of (by decide) (Nat.le_of_ble_eq_true rfl) ?_
  intro p e s m below meth c A C hr
  generalize h : f_X3_statusOf X v1 = res
  unfold f_X3_statusOf at h
  refine zG_L (L' := [(0, .ref (ad 1)), (1, .int v1)]) rfl ?_
  refine g_aload_n (j := 0) C dX3_statusOf_0 rfl rfl ?_
  refine g_iload_n (j := 1) C dX3_statusOf_1 rfl rfl ?_
  refine g_vi (ws' := (zW cy ad shC E X)) (As := [.int v1]) (rest := []) (res := (f_X3_isCancelled X v1)) C (c_X3_isCancelled l D cy ad E X v1) zml_RX3_90 zcv_X3_isCancelled (zW_get X sC_1) rfl rfl rfl ⟨Nat.le_of_ble_eq_true rfl, Nat.le_of_ble_eq_true rfl⟩ rfl rfl (Nat.le_of_ble_eq_true rfl) ⟨Nat.zero_le _, Nat.zero_le _⟩ dX3_statusOf_2 ?_
  refine g_if_eq C dX3_statusOf_5 (tgt := 10) (by decide) (fun hc_1 => ?_) (fun hc_1 => ?_)
  · replace h := (if_pos hc_1).symm.trans h
    refine g_aload_n (j := 0) C dX3_statusOf_10 rfl rfl ?_
    refine g_getr (k := 3) (N := 8) C sC_1 rfl zin_RX3 (by decide) rfl zfl_RX3_26 rfl dX3_statusOf_11 ?_
    refine g_iload_n (j := 1) C dX3_statusOf_14 rfl rfl ?_
    refine g_iconst (v := (nI 2)) C dX3_statusOf_15 (by decide) ?_
    refine g_vi (ws' := (zW cy ad shC E X)) (As := [.int v1, .int (nI 2)]) (rest := []) (res := (f_X4_get X 8 360 v1 (nI 2))) C (c_X4_get l D cy ad E X 8 360 sC_8 sC_9 (by decide) v1 (nI 2)) zml_RX3_54 zcv_X4_get (zW_get X sC_8) rfl rfl rfl ⟨Nat.le_of_ble_eq_true rfl, Nat.le_of_ble_eq_true rfl⟩ rfl rfl (Nat.le_of_ble_eq_true rfl) ⟨Nat.zero_le _, Nat.zero_le _⟩ dX3_statusOf_16 ?_
    refine g_aload_n (j := 0) C dX3_statusOf_19 rfl rfl ?_
    refine g_geti (k := 6) (N := 8) C sC_1 rfl zin_RX3 (by decide) rfl zfl_RX3_35 rfl dX3_statusOf_20 ?_
    refine g_icmp_ge C dX3_statusOf_23 (tgt := 30) (by decide) (fun hc_2 => ?_) (fun hc_2 => ?_)
    · replace h := (if_pos hc_2).symm.trans h
      refine g_iconst (v := (nI 0)) C dX3_statusOf_30 (by decide) ?_
      subst h
      exact g_iret rfl C hr rfl dX3_statusOf_31
    · replace h := (if_neg hc_2).symm.trans h
      refine g_iconst (v := (nI 2)) C dX3_statusOf_26 (by decide) ?_
      refine g_goto C dX3_statusOf_27 (tgt := 31) (by decide) ?_
      subst h
      exact g_iret rfl C hr rfl dX3_statusOf_31
  · replace h := (if_neg hc_1).symm.trans h
    refine g_iconst (v := (nI 1)) C dX3_statusOf_8 (by decide) ?_
    subst h
    exact g_iret rfl C hr rfl dX3_statusOf_9
def f_X3_isOpen (X : Nat → Nat → Int32) (v1 : Int32) : Int32 := (if (f_X3_statusOf X v1) = 0 then (nI 1) else (nI 0))
theorem b_X3_isOpen (X : Nat → Nat → Int32) (v1 : Int32) : f_X3_isOpen X v1 = 0 ∨ f_X3_isOpen X v1 = 1 := by
  unfold f_X3_isOpen
  repeat' split
  all_goals first | exact Or.inl rfl | exact Or.inr rfl
set_option maxRecDepth 100000 in
set_option maxHeartbeats 4000000 in
theorem c_X3_isOpen (l : Launch) (D : va_G) (cy : Nat → ClassId) (ad : Nat → Nat) (E : va_W) (X : Nat → Nat → Int32) (v1 : Int32) : zMi l yX3_isOpen cX3_isOpen 2 (some .boolean) (zrm 4) D (zTy cy) (zW cy ad shC E X) [.ref (ad 1), .int v1] (f_X3_isOpen X v1) (zW cy ad shC E X) := by
  refine zMi.of (by decide) (Nat.le_of_ble_eq_true rfl) ?_
  intro p e s m below meth c A C hr
  generalize h : f_X3_isOpen X v1 = res
  unfold f_X3_isOpen at h
  refine zG_L (L' := [(0, .ref (ad 1)), (1, .int v1)]) rfl ?_
  refine g_aload_n (j := 0) C dX3_isOpen_0 rfl rfl ?_
  refine g_iload_n (j := 1) C dX3_isOpen_1 rfl rfl ?_
  refine g_vi (ws' := (zW cy ad shC E X)) (As := [.int v1]) (rest := []) (res := (f_X3_statusOf X v1)) C (c_X3_statusOf l D cy ad E X v1) zml_RX3_94 zcv_X3_statusOf (zW_get X sC_1) rfl rfl rfl ⟨Nat.le_of_ble_eq_true rfl, Nat.le_of_ble_eq_true rfl⟩ rfl rfl (Nat.le_of_ble_eq_true rfl) ⟨Nat.zero_le _, Nat.zero_le _⟩ dX3_isOpen_2 ?_
  refine g_if_ne C dX3_isOpen_5 (tgt := 12) (by decide) (fun hc_1 => ?_) (fun hc_1 => ?_)
  · replace h := (if_neg hc_1).symm.trans h
    refine g_iconst (v := (nI 0)) C dX3_isOpen_12 (by decide) ?_
    subst h
    exact g_iret rfl C hr (z_nb (Or.inl rfl)) dX3_isOpen_13
  · replace h := (if_pos hc_1).symm.trans h
    refine g_iconst (v := (nI 1)) C dX3_isOpen_8 (by decide) ?_
    refine g_goto C dX3_isOpen_9 (tgt := 13) (by decide) ?_
    subst h
    exact g_iret rfl C hr (z_nb (Or.inr rfl)) dX3_isOpen_13
def f_X3_minutesOf (X : Nat → Nat → Int32) (v1 : Int32) : Int32 := ((f_X4_get X 8 360 v1 (nI 4)) - (f_X4_get X 8 360 v1 (nI 3)))
set_option maxRecDepth 100000 in
set_option maxHeartbeats 4000000 in
theorem c_X3_minutesOf (l : Launch) (D : va_G) (cy : Nat → ClassId) (ad : Nat → Nat) (E : va_W) (X : Nat → Nat → Int32) (v1 : Int32) : zMi l yX3_minutesOf cX3_minutesOf 2 (some .int) (zrm 2) D (zTy cy) (zW cy ad shC E X) [.ref (ad 1), .int v1] (f_X3_minutesOf X v1) (zW cy ad shC E X) := by
  refine zMi.of (by decide) (Nat.le_of_ble_eq_true rfl) ?_
  intro p e s m below meth c A C hr
  generalize h : f_X3_minutesOf X v1 = res
  unfold f_X3_minutesOf at h
  refine zG_L (L' := [(0, .ref (ad 1)), (1, .int v1)]) rfl ?_
  refine g_aload_n (j := 0) C dX3_minutesOf_0 rfl rfl ?_
  refine g_getr (k := 3) (N := 8) C sC_1 rfl zin_RX3 (by decide) rfl zfl_RX3_26 rfl dX3_minutesOf_1 ?_
  refine g_iload_n (j := 1) C dX3_minutesOf_4 rfl rfl ?_
  refine g_iconst (v := (nI 4)) C dX3_minutesOf_5 (by decide) ?_
  refine g_vi (ws' := (zW cy ad shC E X)) (As := [.int v1, .int (nI 4)]) (rest := []) (res := (f_X4_get X 8 360 v1 (nI 4))) C (c_X4_get l D cy ad E X 8 360 sC_8 sC_9 (by decide) v1 (nI 4)) zml_RX3_54 zcv_X4_get (zW_get X sC_8) rfl rfl rfl ⟨Nat.le_of_ble_eq_true rfl, Nat.le_of_ble_eq_true rfl⟩ rfl rfl (Nat.le_of_ble_eq_true rfl) ⟨Nat.zero_le _, Nat.zero_le _⟩ dX3_minutesOf_6 ?_
  refine g_aload_n (j := 0) C dX3_minutesOf_9 rfl rfl ?_
  refine g_getr (k := 3) (N := 8) C sC_1 rfl zin_RX3 (by decide) rfl zfl_RX3_26 rfl dX3_minutesOf_10 ?_
  refine g_iload_n (j := 1) C dX3_minutesOf_13 rfl rfl ?_
  refine g_iconst (v := (nI 3)) C dX3_minutesOf_14 (by decide) ?_
  refine g_vi (ws' := (zW cy ad shC E X)) (As := [.int v1, .int (nI 3)]) (rest := [.int (f_X4_get X 8 360 v1 (nI 4))]) (res := (f_X4_get X 8 360 v1 (nI 3))) C (c_X4_get l D cy ad E X 8 360 sC_8 sC_9 (by decide) v1 (nI 3)) zml_RX3_54 zcv_X4_get (zW_get X sC_8) rfl rfl rfl ⟨Nat.le_of_ble_eq_true rfl, Nat.le_of_ble_eq_true rfl⟩ rfl rfl (Nat.le_of_ble_eq_true rfl) ⟨Nat.zero_le _, Nat.zero_le _⟩ dX3_minutesOf_15 ?_
  refine g_isub C dX3_minutesOf_18 ?_
  subst h
  exact g_iret rfl C hr rfl dX3_minutesOf_19
def f_X3_seatsOf (X : Nat → Nat → Int32) (v1 : Int32) : Int32 := (f_X4_get X 2 24 (f_X4_get X 8 360 v1 (nI 0)) (nI 0))
set_option maxRecDepth 100000 in
set_option maxHeartbeats 4000000 in
theorem c_X3_seatsOf (l : Launch) (D : va_G) (cy : Nat → ClassId) (ad : Nat → Nat) (E : va_W) (X : Nat → Nat → Int32) (v1 : Int32) : zMi l yX3_seatsOf cX3_seatsOf 2 (some .int) (zrm 2) D (zTy cy) (zW cy ad shC E X) [.ref (ad 1), .int v1] (f_X3_seatsOf X v1) (zW cy ad shC E X) := by
  refine zMi.of (by decide) (Nat.le_of_ble_eq_true rfl) ?_
  intro p e s m below meth c A C hr
  generalize h : f_X3_seatsOf X v1 = res
  unfold f_X3_seatsOf at h
  refine zG_L (L' := [(0, .ref (ad 1)), (1, .int v1)]) rfl ?_
  refine g_aload_n (j := 0) C dX3_seatsOf_0 rfl rfl ?_
  refine g_getr (k := 0) (N := 8) C sC_1 rfl zin_RX3 (by decide) rfl zfl_RX3_14 rfl dX3_seatsOf_1 ?_
  refine g_aload_n (j := 0) C dX3_seatsOf_4 rfl rfl ?_
  refine g_getr (k := 3) (N := 8) C sC_1 rfl zin_RX3 (by decide) rfl zfl_RX3_26 rfl dX3_seatsOf_5 ?_
  refine g_iload_n (j := 1) C dX3_seatsOf_8 rfl rfl ?_
  refine g_iconst (v := (nI 0)) C dX3_seatsOf_9 (by decide) ?_
  refine g_vi (ws' := (zW cy ad shC E X)) (As := [.int v1, .int (nI 0)]) (rest := [.ref (ad 2)]) (res := (f_X4_get X 8 360 v1 (nI 0))) C (c_X4_get l D cy ad E X 8 360 sC_8 sC_9 (by decide) v1 (nI 0)) zml_RX3_54 zcv_X4_get (zW_get X sC_8) rfl rfl rfl ⟨Nat.le_of_ble_eq_true rfl, Nat.le_of_ble_eq_true rfl⟩ rfl rfl (Nat.le_of_ble_eq_true rfl) ⟨Nat.zero_le _, Nat.zero_le _⟩ dX3_seatsOf_10 ?_
  refine g_iconst (v := (nI 0)) C dX3_seatsOf_13 (by decide) ?_
  refine g_vi (ws' := (zW cy ad shC E X)) (As := [.int (f_X4_get X 8 360 v1 (nI 0)), .int (nI 0)]) (rest := []) (res := (f_X4_get X 2 24 (f_X4_get X 8 360 v1 (nI 0)) (nI 0))) C (c_X4_get l D cy ad E X 2 24 sC_2 sC_3 (by decide) (f_X4_get X 8 360 v1 (nI 0)) (nI 0)) zml_RX3_54 zcv_X4_get (zW_get X sC_2) rfl rfl rfl ⟨Nat.le_of_ble_eq_true rfl, Nat.le_of_ble_eq_true rfl⟩ rfl rfl (Nat.le_of_ble_eq_true rfl) ⟨Nat.zero_le _, Nat.zero_le _⟩ dX3_seatsOf_14 ?_
  subst h
  exact g_iret rfl C hr rfl dX3_seatsOf_17
def f_X3_cleaningOf (X : Nat → Nat → Int32) (v1 : Int32) : Int32 := (f_X4_get X 2 24 (f_X4_get X 8 360 v1 (nI 0)) (nI 1))
set_option maxRecDepth 100000 in
set_option maxHeartbeats 4000000 in
theorem c_X3_cleaningOf (l : Launch) (D : va_G) (cy : Nat → ClassId) (ad : Nat → Nat) (E : va_W) (X : Nat → Nat → Int32) (v1 : Int32) : zMi l yX3_cleaningOf cX3_cleaningOf 2 (some .int) (zrm 2) D (zTy cy) (zW cy ad shC E X) [.ref (ad 1), .int v1] (f_X3_cleaningOf X v1) (zW cy ad shC E X) := by
  refine zMi.of (by decide) (Nat.le_of_ble_eq_true rfl) ?_
  intro p e s m below meth c A C hr
  generalize h : f_X3_cleaningOf X v1 = res
  unfold f_X3_cleaningOf at h
  refine zG_L (L' := [(0, .ref (ad 1)), (1, .int v1)]) rfl ?_
  refine g_aload_n (j := 0) C dX3_cleaningOf_0 rfl rfl ?_
  refine g_getr (k := 0) (N := 8) C sC_1 rfl zin_RX3 (by decide) rfl zfl_RX3_14 rfl dX3_cleaningOf_1 ?_
  refine g_aload_n (j := 0) C dX3_cleaningOf_4 rfl rfl ?_
  refine g_getr (k := 3) (N := 8) C sC_1 rfl zin_RX3 (by decide) rfl zfl_RX3_26 rfl dX3_cleaningOf_5 ?_
  refine g_iload_n (j := 1) C dX3_cleaningOf_8 rfl rfl ?_
  refine g_iconst (v := (nI 0)) C dX3_cleaningOf_9 (by decide) ?_
  refine g_vi (ws' := (zW cy ad shC E X)) (As := [.int v1, .int (nI 0)]) (rest := [.ref (ad 2)]) (res := (f_X4_get X 8 360 v1 (nI 0))) C (c_X4_get l D cy ad E X 8 360 sC_8 sC_9 (by decide) v1 (nI 0)) zml_RX3_54 zcv_X4_get (zW_get X sC_8) rfl rfl rfl ⟨Nat.le_of_ble_eq_true rfl, Nat.le_of_ble_eq_true rfl⟩ rfl rfl (Nat.le_of_ble_eq_true rfl) ⟨Nat.zero_le _, Nat.zero_le _⟩ dX3_cleaningOf_10 ?_
  refine g_iconst (v := (nI 1)) C dX3_cleaningOf_13 (by decide) ?_
  refine g_vi (ws' := (zW cy ad shC E X)) (As := [.int (f_X4_get X 8 360 v1 (nI 0)), .int (nI 1)]) (rest := []) (res := (f_X4_get X 2 24 (f_X4_get X 8 360 v1 (nI 0)) (nI 1))) C (c_X4_get l D cy ad E X 2 24 sC_2 sC_3 (by decide) (f_X4_get X 8 360 v1 (nI 0)) (nI 1)) zml_RX3_54 zcv_X4_get (zW_get X sC_2) rfl rfl rfl ⟨Nat.le_of_ble_eq_true rfl, Nat.le_of_ble_eq_true rfl⟩ rfl rfl (Nat.le_of_ble_eq_true rfl) ⟨Nat.zero_le _, Nat.zero_le _⟩ dX3_cleaningOf_14 ?_
  subst h
  exact g_iret rfl C hr rfl dX3_cleaningOf_17
def f_X3_receiptsOf (X : Nat → Nat → Int32) (v1 : Int32) : Int32 := ((f_X4_get X 8 360 v1 (nI 5)) * (f_X4_get X 8 360 v1 (nI 7)))
set_option maxRecDepth 100000 in
set_option maxHeartbeats 4000000 in
theorem c_X3_receiptsOf (l : Launch) (D : va_G) (cy : Nat → ClassId) (ad : Nat → Nat) (E : va_W) (X : Nat → Nat → Int32) (v1 : Int32) : zMi l yX3_receiptsOf cX3_receiptsOf 2 (some .int) (zrm 2) D (zTy cy) (zW cy ad shC E X) [.ref (ad 1), .int v1] (f_X3_receiptsOf X v1) (zW cy ad shC E X) := by
  refine zMi.of (by decide) (Nat.le_of_ble_eq_true rfl) ?_
  intro p e s m below meth c A C hr
  generalize h : f_X3_receiptsOf X v1 = res
  unfold f_X3_receiptsOf at h
  refine zG_L (L' := [(0, .ref (ad 1)), (1, .int v1)]) rfl ?_
  refine g_aload_n (j := 0) C dX3_receiptsOf_0 rfl rfl ?_
  refine g_getr (k := 3) (N := 8) C sC_1 rfl zin_RX3 (by decide) rfl zfl_RX3_26 rfl dX3_receiptsOf_1 ?_
  refine g_iload_n (j := 1) C dX3_receiptsOf_4 rfl rfl ?_
  refine g_iconst (v := (nI 5)) C dX3_receiptsOf_5 (by decide) ?_
  refine g_vi (ws' := (zW cy ad shC E X)) (As := [.int v1, .int (nI 5)]) (rest := []) (res := (f_X4_get X 8 360 v1 (nI 5))) C (c_X4_get l D cy ad E X 8 360 sC_8 sC_9 (by decide) v1 (nI 5)) zml_RX3_54 zcv_X4_get (zW_get X sC_8) rfl rfl rfl ⟨Nat.le_of_ble_eq_true rfl, Nat.le_of_ble_eq_true rfl⟩ rfl rfl (Nat.le_of_ble_eq_true rfl) ⟨Nat.zero_le _, Nat.zero_le _⟩ dX3_receiptsOf_6 ?_
  refine g_aload_n (j := 0) C dX3_receiptsOf_9 rfl rfl ?_
  refine g_getr (k := 3) (N := 8) C sC_1 rfl zin_RX3 (by decide) rfl zfl_RX3_26 rfl dX3_receiptsOf_10 ?_
  refine g_iload_n (j := 1) C dX3_receiptsOf_13 rfl rfl ?_
  refine g_bipush (v := (nI 7)) C dX3_receiptsOf_14 (by decide) ?_
  refine g_vi (ws' := (zW cy ad shC E X)) (As := [.int v1, .int (nI 7)]) (rest := [.int (f_X4_get X 8 360 v1 (nI 5))]) (res := (f_X4_get X 8 360 v1 (nI 7))) C (c_X4_get l D cy ad E X 8 360 sC_8 sC_9 (by decide) v1 (nI 7)) zml_RX3_54 zcv_X4_get (zW_get X sC_8) rfl rfl rfl ⟨Nat.le_of_ble_eq_true rfl, Nat.le_of_ble_eq_true rfl⟩ rfl rfl (Nat.le_of_ble_eq_true rfl) ⟨Nat.zero_le _, Nat.zero_le _⟩ dX3_receiptsOf_16 ?_
  refine g_imul C dX3_receiptsOf_19 ?_
  subst h
  exact g_iret rfl C hr rfl dX3_receiptsOf_20
def f_X3_partOf (X : Nat → Nat → Int32) (v1 : Int32) : Int32 := (((f_X3_receiptsOf X v1) * (f_X3_shareOn X (f_X4_get X 8 360 v1 (nI 1)) (f_X4_get X 8 360 v1 (nI 2)))) / (nI 100))
set_option maxRecDepth 100000 in
set_option maxHeartbeats 4000000 in
theorem c_X3_partOf (l : Launch) (D : va_G) (cy : Nat → ClassId) (ad : Nat → Nat) (E : va_W) (X : Nat → Nat → Int32) (v1 : Int32) : zMi l yX3_partOf cX3_partOf 3 (some .int) (zrm 3) D (zTy cy) (zW cy ad shC E X) [.ref (ad 1), .int v1] (f_X3_partOf X v1) (zW cy ad shC E X) := by
  refine zMi.of (by decide) (Nat.le_of_ble_eq_true rfl) ?_
  intro p e s m below meth c A C hr
  generalize h : f_X3_partOf X v1 = res
  unfold f_X3_partOf at h
  refine zG_L (L' := [(0, .ref (ad 1)), (1, .int v1)]) rfl ?_
  refine g_aload_n (j := 0) C dX3_partOf_0 rfl rfl ?_
  refine g_aload_n (j := 0) C dX3_partOf_1 rfl rfl ?_
  refine g_getr (k := 3) (N := 8) C sC_1 rfl zin_RX3 (by decide) rfl zfl_RX3_26 rfl dX3_partOf_2 ?_
  refine g_iload_n (j := 1) C dX3_partOf_5 rfl rfl ?_
  refine g_iconst (v := (nI 1)) C dX3_partOf_6 (by decide) ?_
  refine g_vi (ws' := (zW cy ad shC E X)) (As := [.int v1, .int (nI 1)]) (rest := [.ref (ad 1)]) (res := (f_X4_get X 8 360 v1 (nI 1))) C (c_X4_get l D cy ad E X 8 360 sC_8 sC_9 (by decide) v1 (nI 1)) zml_RX3_54 zcv_X4_get (zW_get X sC_8) rfl rfl rfl ⟨Nat.le_of_ble_eq_true rfl, Nat.le_of_ble_eq_true rfl⟩ rfl rfl (Nat.le_of_ble_eq_true rfl) ⟨Nat.zero_le _, Nat.zero_le _⟩ dX3_partOf_7 ?_
  refine g_aload_n (j := 0) C dX3_partOf_10 rfl rfl ?_
  refine g_getr (k := 3) (N := 8) C sC_1 rfl zin_RX3 (by decide) rfl zfl_RX3_26 rfl dX3_partOf_11 ?_
  refine g_iload_n (j := 1) C dX3_partOf_14 rfl rfl ?_
  refine g_iconst (v := (nI 2)) C dX3_partOf_15 (by decide) ?_
  refine g_vi (ws' := (zW cy ad shC E X)) (As := [.int v1, .int (nI 2)]) (rest := [.int (f_X4_get X 8 360 v1 (nI 1)), .ref (ad 1)]) (res := (f_X4_get X 8 360 v1 (nI 2))) C (c_X4_get l D cy ad E X 8 360 sC_8 sC_9 (by decide) v1 (nI 2)) zml_RX3_54 zcv_X4_get (zW_get X sC_8) rfl rfl rfl ⟨Nat.le_of_ble_eq_true rfl, Nat.le_of_ble_eq_true rfl⟩ rfl rfl (Nat.le_of_ble_eq_true rfl) ⟨Nat.zero_le _, Nat.zero_le _⟩ dX3_partOf_16 ?_
  refine g_vi (ws' := (zW cy ad shC E X)) (As := [.int (f_X4_get X 8 360 v1 (nI 1)), .int (f_X4_get X 8 360 v1 (nI 2))]) (rest := []) (res := (f_X3_shareOn X (f_X4_get X 8 360 v1 (nI 1)) (f_X4_get X 8 360 v1 (nI 2)))) C (c_X3_shareOn l D cy ad E X (f_X4_get X 8 360 v1 (nI 1)) (f_X4_get X 8 360 v1 (nI 2))) zml_RX3_97 zcv_X3_shareOn (zW_get X sC_1) rfl rfl rfl ⟨Nat.le_of_ble_eq_true rfl, Nat.le_of_ble_eq_true rfl⟩ rfl rfl (Nat.le_of_ble_eq_true rfl) ⟨Nat.zero_le _, Nat.zero_le _⟩ dX3_partOf_19 ?_
  refine g_istore_n (L' := [(2, .int (f_X3_shareOn X (f_X4_get X 8 360 v1 (nI 1)) (f_X4_get X 8 360 v1 (nI 2)))), (0, .ref (ad 1)), (1, .int v1)]) C dX3_partOf_22 rfl (by decide) rfl ?_
  refine g_aload_n (j := 1) C dX3_partOf_23 rfl rfl ?_
  refine g_iload_n (j := 2) C dX3_partOf_24 rfl rfl ?_
  refine g_vi (ws' := (zW cy ad shC E X)) (As := [.int v1]) (rest := []) (res := (f_X3_receiptsOf X v1)) C (c_X3_receiptsOf l D cy ad E X v1) zml_RX3_100 zcv_X3_receiptsOf (zW_get X sC_1) rfl rfl rfl ⟨Nat.le_of_ble_eq_true rfl, Nat.le_of_ble_eq_true rfl⟩ rfl rfl (Nat.le_of_ble_eq_true rfl) ⟨Nat.zero_le _, Nat.zero_le _⟩ dX3_partOf_25 ?_
  refine g_iload_n (j := 0) C dX3_partOf_28 rfl rfl ?_
  refine g_imul C dX3_partOf_29 ?_
  refine g_bipush (v := (nI 100)) C dX3_partOf_30 (by decide) ?_
  refine g_idiv C dX3_partOf_32 (by decide) ?_
  subst h
  exact g_iret rfl C hr rfl dX3_partOf_33
def f_X3_measureOf (X : Nat → Nat → Int32) (v1 v2 : Int32) : Int32 := (if v2 = (nI 0) then (nI 1) else (if v2 = (nI 1) then (f_X3_minutesOf X v1) else (if v2 = (nI 2) then (f_X4_get X 8 360 v1 (nI 5)) else (if v2 = (nI 3) then (f_X3_receiptsOf X v1) else (if v2 = (nI 4) then (f_X3_partOf X v1) else (f_X3_seatsOf X v1))))))
set_option maxRecDepth 100000 in
set_option maxHeartbeats 4000000 in
theorem c_X3_measureOf (l : Launch) (D : va_G) (cy : Nat → ClassId) (ad : Nat → Nat) (E : va_W) (X : Nat → Nat → Int32) (v1 v2 : Int32) : zMi l yX3_measureOf cX3_measureOf 3 (some .int) (zrm 4) D (zTy cy) (zW cy ad shC E X) [.ref (ad 1), .int v1, .int v2] (f_X3_measureOf X v1 v2) (zW cy ad shC E X) := by
  refine zMi.of (by decide) (Nat.le_of_ble_eq_true rfl) ?_
  intro p e s m below meth c A C hr
  generalize h : f_X3_measureOf X v1 v2 = res
  unfold f_X3_measureOf at h
  refine zG_L (L' := [(0, .ref (ad 1)), (1, .int v1), (2, .int v2)]) rfl ?_
  refine g_iload_n (j := 2) C dX3_measureOf_0 rfl rfl ?_
  by_cases hc_1 : v2 = (nI 0)
  · replace h := (if_pos hc_1).symm.trans h
    refine g_tabEq C dX3_measureOf_1 hc_1 (by decide) (by decide) rfl (tgt := 36) (by decide) ?_
    refine g_iconst (v := (nI 1)) C dX3_measureOf_36 (by decide) ?_
    subst h
    exact g_iret rfl C hr rfl dX3_measureOf_37
  replace h := (if_neg hc_1).symm.trans h
  by_cases hc_2 : v2 = (nI 1)
  · replace h := (if_pos hc_2).symm.trans h
    refine g_tabEq C dX3_measureOf_1 hc_2 (by decide) (by decide) rfl (tgt := 38) (by decide) ?_
    refine g_aload_n (j := 0) C dX3_measureOf_38 rfl rfl ?_
    refine g_iload_n (j := 1) C dX3_measureOf_39 rfl rfl ?_
    refine g_vi (ws' := (zW cy ad shC E X)) (As := [.int v1]) (rest := []) (res := (f_X3_minutesOf X v1)) C (c_X3_minutesOf l D cy ad E X v1) zml_RX3_103 zcv_X3_minutesOf (zW_get X sC_1) rfl rfl rfl ⟨Nat.le_of_ble_eq_true rfl, Nat.le_of_ble_eq_true rfl⟩ rfl rfl (Nat.le_of_ble_eq_true rfl) ⟨Nat.zero_le _, Nat.zero_le _⟩ dX3_measureOf_40 ?_
    subst h
    exact g_iret rfl C hr rfl dX3_measureOf_43
  replace h := (if_neg hc_2).symm.trans h
  by_cases hc_3 : v2 = (nI 2)
  · replace h := (if_pos hc_3).symm.trans h
    refine g_tabEq C dX3_measureOf_1 hc_3 (by decide) (by decide) rfl (tgt := 44) (by decide) ?_
    refine g_aload_n (j := 0) C dX3_measureOf_44 rfl rfl ?_
    refine g_getr (k := 3) (N := 8) C sC_1 rfl zin_RX3 (by decide) rfl zfl_RX3_26 rfl dX3_measureOf_45 ?_
    refine g_iload_n (j := 1) C dX3_measureOf_48 rfl rfl ?_
    refine g_iconst (v := (nI 5)) C dX3_measureOf_49 (by decide) ?_
    refine g_vi (ws' := (zW cy ad shC E X)) (As := [.int v1, .int (nI 5)]) (rest := []) (res := (f_X4_get X 8 360 v1 (nI 5))) C (c_X4_get l D cy ad E X 8 360 sC_8 sC_9 (by decide) v1 (nI 5)) zml_RX3_54 zcv_X4_get (zW_get X sC_8) rfl rfl rfl ⟨Nat.le_of_ble_eq_true rfl, Nat.le_of_ble_eq_true rfl⟩ rfl rfl (Nat.le_of_ble_eq_true rfl) ⟨Nat.zero_le _, Nat.zero_le _⟩ dX3_measureOf_50 ?_
    subst h
    exact g_iret rfl C hr rfl dX3_measureOf_53
  replace h := (if_neg hc_3).symm.trans h
  by_cases hc_4 : v2 = (nI 3)
  · replace h := (if_pos hc_4).symm.trans h
    refine g_tabEq C dX3_measureOf_1 hc_4 (by decide) (by decide) rfl (tgt := 54) (by decide) ?_
    refine g_aload_n (j := 0) C dX3_measureOf_54 rfl rfl ?_
    refine g_iload_n (j := 1) C dX3_measureOf_55 rfl rfl ?_
    refine g_vi (ws' := (zW cy ad shC E X)) (As := [.int v1]) (rest := []) (res := (f_X3_receiptsOf X v1)) C (c_X3_receiptsOf l D cy ad E X v1) zml_RX3_100 zcv_X3_receiptsOf (zW_get X sC_1) rfl rfl rfl ⟨Nat.le_of_ble_eq_true rfl, Nat.le_of_ble_eq_true rfl⟩ rfl rfl (Nat.le_of_ble_eq_true rfl) ⟨Nat.zero_le _, Nat.zero_le _⟩ dX3_measureOf_56 ?_
    subst h
    exact g_iret rfl C hr rfl dX3_measureOf_59
  replace h := (if_neg hc_4).symm.trans h
  by_cases hc_5 : v2 = (nI 4)
  · replace h := (if_pos hc_5).symm.trans h
    refine g_tabEq C dX3_measureOf_1 hc_5 (by decide) (by decide) rfl (tgt := 60) (by decide) ?_
    refine g_aload_n (j := 0) C dX3_measureOf_60 rfl rfl ?_
    refine g_iload_n (j := 1) C dX3_measureOf_61 rfl rfl ?_
    refine g_vi (ws' := (zW cy ad shC E X)) (As := [.int v1]) (rest := []) (res := (f_X3_partOf X v1)) C (c_X3_partOf l D cy ad E X v1) zml_RX3_106 zcv_X3_partOf (zW_get X sC_1) rfl rfl rfl ⟨Nat.le_of_ble_eq_true rfl, Nat.le_of_ble_eq_true rfl⟩ rfl rfl (Nat.le_of_ble_eq_true rfl) ⟨Nat.zero_le _, Nat.zero_le _⟩ dX3_measureOf_62 ?_
    subst h
    exact g_iret rfl C hr rfl dX3_measureOf_65
  replace h := (if_neg hc_5).symm.trans h
  refine g_tabOut C dX3_measureOf_1 (z_tabout_5 (lo := 0) (hi := 4) hc_1 hc_2 hc_3 hc_4 hc_5 (by decide)) (tgt := 66) (by decide) ?_
  refine g_aload_n (j := 0) C dX3_measureOf_66 rfl rfl ?_
  refine g_iload_n (j := 1) C dX3_measureOf_67 rfl rfl ?_
  refine g_vi (ws' := (zW cy ad shC E X)) (As := [.int v1]) (rest := []) (res := (f_X3_seatsOf X v1)) C (c_X3_seatsOf l D cy ad E X v1) zml_RX3_109 zcv_X3_seatsOf (zW_get X sC_1) rfl rfl rfl ⟨Nat.le_of_ble_eq_true rfl, Nat.le_of_ble_eq_true rfl⟩ rfl rfl (Nat.le_of_ble_eq_true rfl) ⟨Nat.zero_le _, Nat.zero_le _⟩ dX3_measureOf_68 ?_
  subst h
  exact g_iret rfl C hr rfl dX3_measureOf_71
def f_X3_total_L6 (X : Nat → Nat → Int32) (v1 : Int32) (v2 : Int32) (v3 : Int32) : Nat → Int32 → Int32 → Option Int32
  | 0, _, _ => none
  | fu + 1, v4, v5 => (if (f_X4_size X 8 360) ≤ v5 then some v4 else (if v2 = (-1 : Int32) then (if (f_X3_isCancelled X v5) = 0 then f_X3_total_L6 X v1 v2 v3 fu (v4 + (f_X3_measureOf X v5 v1)) (v5 + 1) else f_X3_total_L6 X v1 v2 v3 fu v4 (v5 + 1)) else (if (f_X4_get X 8 360 v5 v2) = v3 then (if (f_X3_isCancelled X v5) = 0 then f_X3_total_L6 X v1 v2 v3 fu (v4 + (f_X3_measureOf X v5 v1)) (v5 + 1) else f_X3_total_L6 X v1 v2 v3 fu v4 (v5 + 1)) else f_X3_total_L6 X v1 v2 v3 fu v4 (v5 + 1))))
set_option maxRecDepth 100000 in
set_option maxHeartbeats 4000000 in
theorem w_X3_total_L6 {p : Program} {e : Env} {s : State} {m : MethodId} {args : Array Value} {below : List Frame} {meth : Method} {c : Code} {A : Nat → Prop} (l : Launch) (D : va_G) (cy : Nat → ClassId) (ad : Nat → Nat) (E : va_W) (X : Nat → Nat → Int32) (v1 : Int32) (v2 : Int32) (v3 : Int32) {res : Int32} (C : zC p s m args meth c cX3_total 7 RX3 D (zTy cy) A) (hr : meth.sig.returnType = (some .int)) : ∀ (fu : Nat) (v4 v5 : Int32) (h : f_X3_total_L6 X v1 v2 v3 fu v4 v5 = some res), zG p l e (zrm 5) s m args below meth c 7 D A 0 0 (MQ below (va_Qi (fun (r : Int32) (_ : Unit) => r = res) (fun _ t => zB D (zTy cy) A (zW cy ad shC E X) t) A) args s 0 0 A) (zW cy ad shC E X) 6 [(0, .ref (ad 1)), (1, .int v1), (2, .int v2), (3, .int v3), (4, .int v4), (5, .int v5)] [] := by
  intro fu
  induction fu with
  | zero => intro v4 v5 h; simp [f_X3_total_L6] at h
  | succ fu ih =>
    intro v4 v5 h
    rw [f_X3_total_L6] at h
    refine g_iload (j := 5) C dX3_total_6 rfl ?_
    refine g_aload_n (j := 0) C dX3_total_8 rfl rfl ?_
    refine g_getr (k := 3) (N := 8) C sC_1 rfl zin_RX3 (by decide) rfl zfl_RX3_26 rfl dX3_total_9 ?_
    refine g_vi (ws' := (zW cy ad shC E X)) (As := []) (rest := [.int v5]) (res := (f_X4_size X 8 360)) C (c_X4_size l D cy ad E X 8 360 sC_8 sC_9 (by decide)) zml_RX3_63 zcv_X4_size (zW_get X sC_8) rfl rfl rfl ⟨Nat.le_of_ble_eq_true rfl, Nat.le_of_ble_eq_true rfl⟩ rfl rfl (Nat.le_of_ble_eq_true rfl) ⟨Nat.zero_le _, Nat.zero_le _⟩ dX3_total_12 ?_
    refine g_icmp_ge C dX3_total_15 (tgt := 76) (by decide) (fun hc_1001 => ?_) (fun hc_1001 => ?_)
    · replace h := (if_pos hc_1001).symm.trans h
      refine g_iload (j := 4) C dX3_total_76 rfl ?_
      obtain rfl := Option.some.inj h
      exact g_iret rfl C hr rfl dX3_total_78
    · replace h := (if_neg hc_1001).symm.trans h
      refine g_iload_n (j := 2) C dX3_total_18 rfl rfl ?_
      refine g_iconst (v := (-1 : Int32)) C dX3_total_19 (by decide) ?_
      refine g_icmp_eq C dX3_total_20 (tgt := 37) (by decide) (fun hc_1002 => ?_) (fun hc_1002 => ?_)
      · replace h := (if_pos hc_1002).symm.trans h
        refine g_iconst (v := (nI 1)) C dX3_total_37 (by decide) ?_
        refine g_goto C dX3_total_38 (tgt := 42) (by decide) ?_
        refine g_istore (L' := [(6, .int (nI 1)), (0, .ref (ad 1)), (1, .int v1), (2, .int v2), (3, .int v3), (4, .int v4), (5, .int v5)]) C dX3_total_42 (by decide) rfl ?_
        refine g_iload (j := 0) C dX3_total_44 rfl ?_
        refine g_if_eq C dX3_total_46 (tgt := 70) (by decide) (fun h9 => absurd h9 (by decide)) (fun _ => ?_)
        refine g_aload_n (j := 1) C dX3_total_49 rfl rfl ?_
        refine g_iload (j := 6) C dX3_total_50 rfl ?_
        refine g_vi (ws' := (zW cy ad shC E X)) (As := [.int v5]) (rest := []) (res := (f_X3_isCancelled X v5)) C (c_X3_isCancelled l D cy ad E X v5) zml_RX3_90 zcv_X3_isCancelled (zW_get X sC_1) rfl rfl rfl ⟨Nat.le_of_ble_eq_true rfl, Nat.le_of_ble_eq_true rfl⟩ rfl rfl (Nat.le_of_ble_eq_true rfl) ⟨Nat.zero_le _, Nat.zero_le _⟩ dX3_total_52 ?_
        refine g_if_ne C dX3_total_55 (tgt := 70) (by decide) (fun hc_1003 => ?_) (fun hc_1003 => ?_)
        · replace h := (if_neg hc_1003).symm.trans h
          refine g_iinc (k := 6) (L' := [(5, .int (v5 + 1)), (6, .int (nI 1)), (0, .ref (ad 1)), (1, .int v1), (2, .int v2), (3, .int v3), (4, .int v4)]) C dX3_total_70 rfl (z_iinc (by decide)) (by decide) rfl ?_
          refine g_goto C dX3_total_73 (tgt := 6) (by decide) ?_
          refine zG_sub (L' := [(0, .ref (ad 1)), (1, .int v1), (2, .int v2), (3, .int v3), (4, .int v4), (5, .int (v5 + 1))]) [2, 3, 4, 5, 6, 0] rfl ?_
          exact ih v4 (v5 + 1) h
        · replace h := (if_pos hc_1003).symm.trans h
          refine g_iload (j := 5) C dX3_total_58 rfl ?_
          refine g_aload_n (j := 1) C dX3_total_60 rfl rfl ?_
          refine g_iload (j := 6) C dX3_total_61 rfl ?_
          refine g_iload_n (j := 2) C dX3_total_63 rfl rfl ?_
          refine g_vi (ws' := (zW cy ad shC E X)) (As := [.int v5, .int v1]) (rest := [.int v4]) (res := (f_X3_measureOf X v5 v1)) C (c_X3_measureOf l D cy ad E X v5 v1) zml_RX3_112 zcv_X3_measureOf (zW_get X sC_1) rfl rfl rfl ⟨Nat.le_of_ble_eq_true rfl, Nat.le_of_ble_eq_true rfl⟩ rfl rfl (Nat.le_of_ble_eq_true rfl) ⟨Nat.zero_le _, Nat.zero_le _⟩ dX3_total_64 ?_
          refine g_iadd C dX3_total_67 ?_
          refine g_istore (L' := [(4, .int (v4 + (f_X3_measureOf X v5 v1))), (6, .int (nI 1)), (0, .ref (ad 1)), (1, .int v1), (2, .int v2), (3, .int v3), (5, .int v5)]) C dX3_total_68 (by decide) rfl ?_
          refine g_iinc (k := 6) (L' := [(5, .int (v5 + 1)), (4, .int (v4 + (f_X3_measureOf X v5 v1))), (6, .int (nI 1)), (0, .ref (ad 1)), (1, .int v1), (2, .int v2), (3, .int v3)]) C dX3_total_70 rfl (z_iinc (by decide)) (by decide) rfl ?_
          refine g_goto C dX3_total_73 (tgt := 6) (by decide) ?_
          refine zG_sub (L' := [(0, .ref (ad 1)), (1, .int v1), (2, .int v2), (3, .int v3), (4, .int (v4 + (f_X3_measureOf X v5 v1))), (5, .int (v5 + 1))]) [3, 4, 5, 6, 1, 0] rfl ?_
          exact ih (v4 + (f_X3_measureOf X v5 v1)) (v5 + 1) h
      · replace h := (if_neg hc_1002).symm.trans h
        refine g_aload_n (j := 0) C dX3_total_23 rfl rfl ?_
        refine g_getr (k := 3) (N := 8) C sC_1 rfl zin_RX3 (by decide) rfl zfl_RX3_26 rfl dX3_total_24 ?_
        refine g_iload (j := 5) C dX3_total_27 rfl ?_
        refine g_iload_n (j := 2) C dX3_total_29 rfl rfl ?_
        refine g_vi (ws' := (zW cy ad shC E X)) (As := [.int v5, .int v2]) (rest := []) (res := (f_X4_get X 8 360 v5 v2)) C (c_X4_get l D cy ad E X 8 360 sC_8 sC_9 (by decide) v5 v2) zml_RX3_54 zcv_X4_get (zW_get X sC_8) rfl rfl rfl ⟨Nat.le_of_ble_eq_true rfl, Nat.le_of_ble_eq_true rfl⟩ rfl rfl (Nat.le_of_ble_eq_true rfl) ⟨Nat.zero_le _, Nat.zero_le _⟩ dX3_total_30 ?_
        refine g_iload_n (j := 3) C dX3_total_33 rfl rfl ?_
        refine g_icmp_ne C dX3_total_34 (tgt := 41) (by decide) (fun hc_1004 => ?_) (fun hc_1004 => ?_)
        · replace h := (if_neg hc_1004).symm.trans h
          refine g_iconst (v := (nI 0)) C dX3_total_41 (by decide) ?_
          refine g_istore (L' := [(6, .int (nI 0)), (0, .ref (ad 1)), (1, .int v1), (2, .int v2), (3, .int v3), (4, .int v4), (5, .int v5)]) C dX3_total_42 (by decide) rfl ?_
          refine g_iload (j := 0) C dX3_total_44 rfl ?_
          refine g_if_eq C dX3_total_46 (tgt := 70) (by decide) (fun _ => ?_) (fun h9 => absurd h9 (by decide))
          refine g_iinc (k := 6) (L' := [(5, .int (v5 + 1)), (6, .int (nI 0)), (0, .ref (ad 1)), (1, .int v1), (2, .int v2), (3, .int v3), (4, .int v4)]) C dX3_total_70 rfl (z_iinc (by decide)) (by decide) rfl ?_
          refine g_goto C dX3_total_73 (tgt := 6) (by decide) ?_
          refine zG_sub (L' := [(0, .ref (ad 1)), (1, .int v1), (2, .int v2), (3, .int v3), (4, .int v4), (5, .int (v5 + 1))]) [2, 3, 4, 5, 6, 0] rfl ?_
          exact ih v4 (v5 + 1) h
        · replace h := (if_pos hc_1004).symm.trans h
          refine g_iconst (v := (nI 1)) C dX3_total_37 (by decide) ?_
          refine g_goto C dX3_total_38 (tgt := 42) (by decide) ?_
          refine g_istore (L' := [(6, .int (nI 1)), (0, .ref (ad 1)), (1, .int v1), (2, .int v2), (3, .int v3), (4, .int v4), (5, .int v5)]) C dX3_total_42 (by decide) rfl ?_
          refine g_iload (j := 0) C dX3_total_44 rfl ?_
          refine g_if_eq C dX3_total_46 (tgt := 70) (by decide) (fun h9 => absurd h9 (by decide)) (fun _ => ?_)
          refine g_aload_n (j := 1) C dX3_total_49 rfl rfl ?_
          refine g_iload (j := 6) C dX3_total_50 rfl ?_
          refine g_vi (ws' := (zW cy ad shC E X)) (As := [.int v5]) (rest := []) (res := (f_X3_isCancelled X v5)) C (c_X3_isCancelled l D cy ad E X v5) zml_RX3_90 zcv_X3_isCancelled (zW_get X sC_1) rfl rfl rfl ⟨Nat.le_of_ble_eq_true rfl, Nat.le_of_ble_eq_true rfl⟩ rfl rfl (Nat.le_of_ble_eq_true rfl) ⟨Nat.zero_le _, Nat.zero_le _⟩ dX3_total_52 ?_
          refine g_if_ne C dX3_total_55 (tgt := 70) (by decide) (fun hc_1005 => ?_) (fun hc_1005 => ?_)
          · replace h := (if_neg hc_1005).symm.trans h
            refine g_iinc (k := 6) (L' := [(5, .int (v5 + 1)), (6, .int (nI 1)), (0, .ref (ad 1)), (1, .int v1), (2, .int v2), (3, .int v3), (4, .int v4)]) C dX3_total_70 rfl (z_iinc (by decide)) (by decide) rfl ?_
            refine g_goto C dX3_total_73 (tgt := 6) (by decide) ?_
            refine zG_sub (L' := [(0, .ref (ad 1)), (1, .int v1), (2, .int v2), (3, .int v3), (4, .int v4), (5, .int (v5 + 1))]) [2, 3, 4, 5, 6, 0] rfl ?_
            exact ih v4 (v5 + 1) h
          · replace h := (if_pos hc_1005).symm.trans h
            refine g_iload (j := 5) C dX3_total_58 rfl ?_
            refine g_aload_n (j := 1) C dX3_total_60 rfl rfl ?_
            refine g_iload (j := 6) C dX3_total_61 rfl ?_
            refine g_iload_n (j := 2) C dX3_total_63 rfl rfl ?_
            refine g_vi (ws' := (zW cy ad shC E X)) (As := [.int v5, .int v1]) (rest := [.int v4]) (res := (f_X3_measureOf X v5 v1)) C (c_X3_measureOf l D cy ad E X v5 v1) zml_RX3_112 zcv_X3_measureOf (zW_get X sC_1) rfl rfl rfl ⟨Nat.le_of_ble_eq_true rfl, Nat.le_of_ble_eq_true rfl⟩ rfl rfl (Nat.le_of_ble_eq_true rfl) ⟨Nat.zero_le _, Nat.zero_le _⟩ dX3_total_64 ?_
            refine g_iadd C dX3_total_67 ?_
            refine g_istore (L' := [(4, .int (v4 + (f_X3_measureOf X v5 v1))), (6, .int (nI 1)), (0, .ref (ad 1)), (1, .int v1), (2, .int v2), (3, .int v3), (5, .int v5)]) C dX3_total_68 (by decide) rfl ?_
            refine g_iinc (k := 6) (L' := [(5, .int (v5 + 1)), (4, .int (v4 + (f_X3_measureOf X v5 v1))), (6, .int (nI 1)), (0, .ref (ad 1)), (1, .int v1), (2, .int v2), (3, .int v3)]) C dX3_total_70 rfl (z_iinc (by decide)) (by decide) rfl ?_
            refine g_goto C dX3_total_73 (tgt := 6) (by decide) ?_
            refine zG_sub (L' := [(0, .ref (ad 1)), (1, .int v1), (2, .int v2), (3, .int v3), (4, .int (v4 + (f_X3_measureOf X v5 v1))), (5, .int (v5 + 1))]) [3, 4, 5, 6, 1, 0] rfl ?_
            exact ih (v4 + (f_X3_measureOf X v5 v1)) (v5 + 1) h
def f_X3_total (X : Nat → Nat → Int32) (v1 v2 v3 : Int32) : Option Int32 := f_X3_total_L6 X v1 v2 v3 zFuel (nI 0) (nI 0)
set_option maxRecDepth 100000 in
set_option maxHeartbeats 4000000 in
theorem c_X3_total (l : Launch) (D : va_G) (cy : Nat → ClassId) (ad : Nat → Nat) (E : va_W) (X : Nat → Nat → Int32) (v1 v2 v3 : Int32) {res : Int32} (h : f_X3_total X v1 v2 v3 = some res) : zMi l yX3_total cX3_total 7 (some .int) (zrm 5) D (zTy cy) (zW cy ad shC E X) [.ref (ad 1), .int v1, .int v2, .int v3] res (zW cy ad shC E X) := by
  refine zMi.of (by decide) (Nat.le_of_ble_eq_true rfl) ?_
  intro p e s m below meth c A C hr
  unfold f_X3_total at h
  refine zG_L (L' := [(0, .ref (ad 1)), (1, .int v1), (2, .int v2), (3, .int v3)]) rfl ?_
  refine g_iconst (v := (nI 0)) C dX3_total_0 (by decide) ?_
  refine g_istore (L' := [(4, .int (nI 0)), (0, .ref (ad 1)), (1, .int v1), (2, .int v2), (3, .int v3)]) C dX3_total_1 (by decide) rfl ?_
  refine g_iconst (v := (nI 0)) C dX3_total_3 (by decide) ?_
  refine g_istore (L' := [(5, .int (nI 0)), (4, .int (nI 0)), (0, .ref (ad 1)), (1, .int v1), (2, .int v2), (3, .int v3)]) C dX3_total_4 (by decide) rfl ?_
  refine zG_sub (L' := [(0, .ref (ad 1)), (1, .int v1), (2, .int v2), (3, .int v3), (4, .int (nI 0)), (5, .int (nI 0))]) [2, 3, 4, 5, 1, 0] rfl ?_
  exact w_X3_total_L6 l D cy ad E X v1 v2 v3 C hr zFuel (nI 0) (nI 0) h
def f_X3_isShownOn (X : Nat → Nat → Int32) (v1 v2 : Int32) : Int32 := (if (f_X4_get X 8 360 v1 (nI 2)) = v2 then (if (f_X4_get X 8 360 v1 (nI 8)) = 0 then (nI 1) else (nI 0)) else (nI 0))
theorem b_X3_isShownOn (X : Nat → Nat → Int32) (v1 v2 : Int32) : f_X3_isShownOn X v1 v2 = 0 ∨ f_X3_isShownOn X v1 v2 = 1 := by
  unfold f_X3_isShownOn
  repeat' split
  all_goals first | exact Or.inl rfl | exact Or.inr rfl
set_option maxRecDepth 100000 in
set_option maxHeartbeats 4000000 in
theorem c_X3_isShownOn (l : Launch) (D : va_G) (cy : Nat → ClassId) (ad : Nat → Nat) (E : va_W) (X : Nat → Nat → Int32) (v1 v2 : Int32) : zMi l yX3_isShownOn cX3_isShownOn 3 (some .boolean) (zrm 2) D (zTy cy) (zW cy ad shC E X) [.ref (ad 1), .int v1, .int v2] (f_X3_isShownOn X v1 v2) (zW cy ad shC E X) := by
  refine zMi.of (by decide) (Nat.le_of_ble_eq_true rfl) ?_
  intro p e s m below meth c A C hr
  generalize h : f_X3_isShownOn X v1 v2 = res
  unfold f_X3_isShownOn at h
  refine zG_L (L' := [(0, .ref (ad 1)), (1, .int v1), (2, .int v2)]) rfl ?_
  refine g_aload_n (j := 0) C dX3_isShownOn_0 rfl rfl ?_
  refine g_getr (k := 3) (N := 8) C sC_1 rfl zin_RX3 (by decide) rfl zfl_RX3_26 rfl dX3_isShownOn_1 ?_
  refine g_iload_n (j := 1) C dX3_isShownOn_4 rfl rfl ?_
  refine g_iconst (v := (nI 2)) C dX3_isShownOn_5 (by decide) ?_
  refine g_vi (ws' := (zW cy ad shC E X)) (As := [.int v1, .int (nI 2)]) (rest := []) (res := (f_X4_get X 8 360 v1 (nI 2))) C (c_X4_get l D cy ad E X 8 360 sC_8 sC_9 (by decide) v1 (nI 2)) zml_RX3_54 zcv_X4_get (zW_get X sC_8) rfl rfl rfl ⟨Nat.le_of_ble_eq_true rfl, Nat.le_of_ble_eq_true rfl⟩ rfl rfl (Nat.le_of_ble_eq_true rfl) ⟨Nat.zero_le _, Nat.zero_le _⟩ dX3_isShownOn_6 ?_
  refine g_iload_n (j := 2) C dX3_isShownOn_9 rfl rfl ?_
  refine g_icmp_ne C dX3_isShownOn_10 (tgt := 30) (by decide) (fun hc_1 => ?_) (fun hc_1 => ?_)
  · replace h := (if_neg hc_1).symm.trans h
    refine g_iconst (v := (nI 0)) C dX3_isShownOn_30 (by decide) ?_
    subst h
    exact g_iret rfl C hr (z_nb (Or.inl rfl)) dX3_isShownOn_31
  · replace h := (if_pos hc_1).symm.trans h
    refine g_aload_n (j := 0) C dX3_isShownOn_13 rfl rfl ?_
    refine g_getr (k := 3) (N := 8) C sC_1 rfl zin_RX3 (by decide) rfl zfl_RX3_26 rfl dX3_isShownOn_14 ?_
    refine g_iload_n (j := 1) C dX3_isShownOn_17 rfl rfl ?_
    refine g_bipush (v := (nI 8)) C dX3_isShownOn_18 (by decide) ?_
    refine g_vi (ws' := (zW cy ad shC E X)) (As := [.int v1, .int (nI 8)]) (rest := []) (res := (f_X4_get X 8 360 v1 (nI 8))) C (c_X4_get l D cy ad E X 8 360 sC_8 sC_9 (by decide) v1 (nI 8)) zml_RX3_54 zcv_X4_get (zW_get X sC_8) rfl rfl rfl ⟨Nat.le_of_ble_eq_true rfl, Nat.le_of_ble_eq_true rfl⟩ rfl rfl (Nat.le_of_ble_eq_true rfl) ⟨Nat.zero_le _, Nat.zero_le _⟩ dX3_isShownOn_20 ?_
    refine g_if_ne C dX3_isShownOn_23 (tgt := 30) (by decide) (fun hc_2 => ?_) (fun hc_2 => ?_)
    · replace h := (if_neg hc_2).symm.trans h
      refine g_iconst (v := (nI 0)) C dX3_isShownOn_30 (by decide) ?_
      subst h
      exact g_iret rfl C hr (z_nb (Or.inl rfl)) dX3_isShownOn_31
    · replace h := (if_pos hc_2).symm.trans h
      refine g_iconst (v := (nI 1)) C dX3_isShownOn_26 (by decide) ?_
      refine g_goto C dX3_isShownOn_27 (tgt := 31) (by decide) ?_
      subst h
      exact g_iret rfl C hr (z_nb (Or.inr rfl)) dX3_isShownOn_31
def f_X3_isShownIn (X : Nat → Nat → Int32) (v1 v2 v3 : Int32) : Int32 := (if (f_X4_get X 8 360 v1 (nI 0)) = v2 then (if (f_X4_get X 8 360 v1 (nI 2)) = v3 then (if (f_X4_get X 8 360 v1 (nI 8)) = 0 then (nI 1) else (nI 0)) else (nI 0)) else (nI 0))
theorem b_X3_isShownIn (X : Nat → Nat → Int32) (v1 v2 v3 : Int32) : f_X3_isShownIn X v1 v2 v3 = 0 ∨ f_X3_isShownIn X v1 v2 v3 = 1 := by
  unfold f_X3_isShownIn
  repeat' split
  all_goals first | exact Or.inl rfl | exact Or.inr rfl
set_option maxRecDepth 100000 in
set_option maxHeartbeats 4000000 in
theorem c_X3_isShownIn (l : Launch) (D : va_G) (cy : Nat → ClassId) (ad : Nat → Nat) (E : va_W) (X : Nat → Nat → Int32) (v1 v2 v3 : Int32) : zMi l yX3_isShownIn cX3_isShownIn 4 (some .boolean) (zrm 2) D (zTy cy) (zW cy ad shC E X) [.ref (ad 1), .int v1, .int v2, .int v3] (f_X3_isShownIn X v1 v2 v3) (zW cy ad shC E X) := by
  refine zMi.of (by decide) (Nat.le_of_ble_eq_true rfl) ?_
  intro p e s m below meth c A C hr
  generalize h : f_X3_isShownIn X v1 v2 v3 = res
  unfold f_X3_isShownIn at h
  refine zG_L (L' := [(0, .ref (ad 1)), (1, .int v1), (2, .int v2), (3, .int v3)]) rfl ?_
  refine g_aload_n (j := 0) C dX3_isShownIn_0 rfl rfl ?_
  refine g_getr (k := 3) (N := 8) C sC_1 rfl zin_RX3 (by decide) rfl zfl_RX3_26 rfl dX3_isShownIn_1 ?_
  refine g_iload_n (j := 1) C dX3_isShownIn_4 rfl rfl ?_
  refine g_iconst (v := (nI 0)) C dX3_isShownIn_5 (by decide) ?_
  refine g_vi (ws' := (zW cy ad shC E X)) (As := [.int v1, .int (nI 0)]) (rest := []) (res := (f_X4_get X 8 360 v1 (nI 0))) C (c_X4_get l D cy ad E X 8 360 sC_8 sC_9 (by decide) v1 (nI 0)) zml_RX3_54 zcv_X4_get (zW_get X sC_8) rfl rfl rfl ⟨Nat.le_of_ble_eq_true rfl, Nat.le_of_ble_eq_true rfl⟩ rfl rfl (Nat.le_of_ble_eq_true rfl) ⟨Nat.zero_le _, Nat.zero_le _⟩ dX3_isShownIn_6 ?_
  refine g_iload_n (j := 2) C dX3_isShownIn_9 rfl rfl ?_
  refine g_icmp_ne C dX3_isShownIn_10 (tgt := 43) (by decide) (fun hc_1 => ?_) (fun hc_1 => ?_)
  · replace h := (if_neg hc_1).symm.trans h
    refine g_iconst (v := (nI 0)) C dX3_isShownIn_43 (by decide) ?_
    subst h
    exact g_iret rfl C hr (z_nb (Or.inl rfl)) dX3_isShownIn_44
  · replace h := (if_pos hc_1).symm.trans h
    refine g_aload_n (j := 0) C dX3_isShownIn_13 rfl rfl ?_
    refine g_getr (k := 3) (N := 8) C sC_1 rfl zin_RX3 (by decide) rfl zfl_RX3_26 rfl dX3_isShownIn_14 ?_
    refine g_iload_n (j := 1) C dX3_isShownIn_17 rfl rfl ?_
    refine g_iconst (v := (nI 2)) C dX3_isShownIn_18 (by decide) ?_
    refine g_vi (ws' := (zW cy ad shC E X)) (As := [.int v1, .int (nI 2)]) (rest := []) (res := (f_X4_get X 8 360 v1 (nI 2))) C (c_X4_get l D cy ad E X 8 360 sC_8 sC_9 (by decide) v1 (nI 2)) zml_RX3_54 zcv_X4_get (zW_get X sC_8) rfl rfl rfl ⟨Nat.le_of_ble_eq_true rfl, Nat.le_of_ble_eq_true rfl⟩ rfl rfl (Nat.le_of_ble_eq_true rfl) ⟨Nat.zero_le _, Nat.zero_le _⟩ dX3_isShownIn_19 ?_
    refine g_iload_n (j := 3) C dX3_isShownIn_22 rfl rfl ?_
    refine g_icmp_ne C dX3_isShownIn_23 (tgt := 43) (by decide) (fun hc_2 => ?_) (fun hc_2 => ?_)
    · replace h := (if_neg hc_2).symm.trans h
      refine g_iconst (v := (nI 0)) C dX3_isShownIn_43 (by decide) ?_
      subst h
      exact g_iret rfl C hr (z_nb (Or.inl rfl)) dX3_isShownIn_44
    · replace h := (if_pos hc_2).symm.trans h
      refine g_aload_n (j := 0) C dX3_isShownIn_26 rfl rfl ?_
      refine g_getr (k := 3) (N := 8) C sC_1 rfl zin_RX3 (by decide) rfl zfl_RX3_26 rfl dX3_isShownIn_27 ?_
      refine g_iload_n (j := 1) C dX3_isShownIn_30 rfl rfl ?_
      refine g_bipush (v := (nI 8)) C dX3_isShownIn_31 (by decide) ?_
      refine g_vi (ws' := (zW cy ad shC E X)) (As := [.int v1, .int (nI 8)]) (rest := []) (res := (f_X4_get X 8 360 v1 (nI 8))) C (c_X4_get l D cy ad E X 8 360 sC_8 sC_9 (by decide) v1 (nI 8)) zml_RX3_54 zcv_X4_get (zW_get X sC_8) rfl rfl rfl ⟨Nat.le_of_ble_eq_true rfl, Nat.le_of_ble_eq_true rfl⟩ rfl rfl (Nat.le_of_ble_eq_true rfl) ⟨Nat.zero_le _, Nat.zero_le _⟩ dX3_isShownIn_33 ?_
      refine g_if_ne C dX3_isShownIn_36 (tgt := 43) (by decide) (fun hc_3 => ?_) (fun hc_3 => ?_)
      · replace h := (if_neg hc_3).symm.trans h
        refine g_iconst (v := (nI 0)) C dX3_isShownIn_43 (by decide) ?_
        subst h
        exact g_iret rfl C hr (z_nb (Or.inl rfl)) dX3_isShownIn_44
      · replace h := (if_pos hc_3).symm.trans h
        refine g_iconst (v := (nI 1)) C dX3_isShownIn_39 (by decide) ?_
        refine g_goto C dX3_isShownIn_40 (tgt := 44) (by decide) ?_
        subst h
        exact g_iret rfl C hr (z_nb (Or.inr rfl)) dX3_isShownIn_44
