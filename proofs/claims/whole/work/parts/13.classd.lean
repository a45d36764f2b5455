/-! laid by wip/whole/mkparts.py -/
def f_X5_faultOfCancel (X : Nat → Nat → Int32) (v1 : Int32) : Int32 := (if (f_X4_isRow X 8 360 v1) = 0 then (nI 1) else (if (f_X3_isOpen X v1) = 0 then (nI 3) else (nI 0)))
set_option maxRecDepth 100000 in
set_option maxHeartbeats 4000000 in
theorem c_X5_faultOfCancel (l : Launch) (D : va_G) (cy : Nat → ClassId) (ad : Nat → Nat) (E : va_W) (X : Nat → Nat → Int32) (v1 : Int32) : zMi l yX5_faultOfCancel cX5_faultOfCancel 2 (some .int) (zrm 5) D (zTy cy) (zW cy ad shC E X) [.ref (ad 0), .int v1] (f_X5_faultOfCancel X v1) (zW cy ad shC E X) := by
  refine zMi.of (by decide) (Nat.le_of_ble_eq_true rfl) ?_
  intro p e s m below meth c A C hr
  generalize h : f_X5_faultOfCancel X v1 = res
  unfold f_X5_faultOfCancel at h
  refine zG_L (L' := [(0, .ref (ad 0)), (1, .int v1)]) rfl ?_
  refine g_aload_n (j := 0) C dX5_faultOfCancel_0 rfl rfl ?_
  refine g_getr (k := 0) (N := 11) C sC_0 rfl zin_RX5 (by decide) rfl zfl_RX5_10 rfl dX5_faultOfCancel_1 ?_
  refine g_getr (k := 3) (N := 8) C sC_1 rfl zin_RX3 (by decide) rfl zfl_RX5_210 rfl dX5_faultOfCancel_4 ?_
  refine g_iload_n (j := 1) C dX5_faultOfCancel_7 rfl rfl ?_
  refine g_vi (ws' := (zW cy ad shC E X)) (As := [.int v1]) (rest := []) (res := (f_X4_isRow X 8 360 v1)) C (c_X4_isRow l D cy ad E X 8 360 sC_8 sC_9 (by decide) v1) zml_RX5_116 zcv_X4_isRow (zW_get X sC_8) rfl rfl rfl ⟨Nat.le_of_ble_eq_true rfl, Nat.le_of_ble_eq_true rfl⟩ rfl rfl (Nat.le_of_ble_eq_true rfl) ⟨Nat.zero_le _, Nat.zero_le _⟩ dX5_faultOfCancel_8 ?_
  refine g_if_ne C dX5_faultOfCancel_11 (tgt := 16) (by decide) (fun hc_1 => ?_) (fun hc_1 => ?_)
  · replace h := (if_neg hc_1).symm.trans h
    refine g_aload_n (j := 0) C dX5_faultOfCancel_16 rfl rfl ?_
    refine g_getr (k := 0) (N := 11) C sC_0 rfl zin_RX5 (by decide) rfl zfl_RX5_10 rfl dX5_faultOfCancel_17 ?_
    refine g_iload_n (j := 1) C dX5_faultOfCancel_20 rfl rfl ?_
    refine g_vi (ws' := (zW cy ad shC E X)) (As := [.int v1]) (rest := []) (res := (f_X3_isOpen X v1)) C (c_X3_isOpen l D cy ad E X v1) zml_RX5_220 zcv_X3_isOpen (zW_get X sC_1) rfl rfl rfl ⟨Nat.le_of_ble_eq_true rfl, Nat.le_of_ble_eq_true rfl⟩ rfl rfl (Nat.le_of_ble_eq_true rfl) ⟨Nat.zero_le _, Nat.zero_le _⟩ dX5_faultOfCancel_21 ?_
    refine g_if_eq C dX5_faultOfCancel_24 (tgt := 31) (by decide) (fun hc_2 => ?_) (fun hc_2 => ?_)
    · replace h := (if_pos hc_2).symm.trans h
      refine g_iconst (v := (nI 3)) C dX5_faultOfCancel_31 (by decide) ?_
      subst h
      exact g_iret rfl C hr rfl dX5_faultOfCancel_32
    · replace h := (if_neg hc_2).symm.trans h
      refine g_iconst (v := (nI 0)) C dX5_faultOfCancel_27 (by decide) ?_
      refine g_goto C dX5_faultOfCancel_28 (tgt := 32) (by decide) ?_
      subst h
      exact g_iret rfl C hr rfl dX5_faultOfCancel_32
  · replace h := (if_pos hc_1).symm.trans h
    refine g_iconst (v := (nI 1)) C dX5_faultOfCancel_14 (by decide) ?_
    subst h
    exact g_iret rfl C hr rfl dX5_faultOfCancel_15
def f_X5_faultOfFail (X : Nat → Nat → Int32) (v1 v2 : Int32) : Int32 := (if (f_X4_isRow X 2 24 v1) = 0 then (nI 1) else (if (f_X5_isWithin v2 (X 1 6) (nI 59)) = 0 then (nI 2) else (if (f_X4_get X 2 24 v1 (nI 3)) = (-1 : Int32) then (nI 0) else (nI 3))))
set_option maxRecDepth 100000 in
set_option maxHeartbeats 4000000 in
theorem c_X5_faultOfFail (l : Launch) (D : va_G) (cy : Nat → ClassId) (ad : Nat → Nat) (E : va_W) (X : Nat → Nat → Int32) (v1 v2 : Int32) : zMi l yX5_faultOfFail cX5_faultOfFail 3 (some .int) (zrm 2) D (zTy cy) (zW cy ad shC E X) [.ref (ad 0), .int v1, .int v2] (f_X5_faultOfFail X v1 v2) (zW cy ad shC E X) := by
  refine zMi.of (by decide) (Nat.le_of_ble_eq_true rfl) ?_
  intro p e s m below meth c A C hr
  generalize h : f_X5_faultOfFail X v1 v2 = res
  unfold f_X5_faultOfFail at h
  refine zG_L (L' := [(0, .ref (ad 0)), (1, .int v1), (2, .int v2)]) rfl ?_
  refine g_aload_n (j := 0) C dX5_faultOfFail_0 rfl rfl ?_
  refine g_getr (k := 0) (N := 11) C sC_0 rfl zin_RX5 (by decide) rfl zfl_RX5_10 rfl dX5_faultOfFail_1 ?_
  refine g_getr (k := 0) (N := 8) C sC_1 rfl zin_RX3 (by decide) rfl zfl_RX5_75 rfl dX5_faultOfFail_4 ?_
  refine g_iload_n (j := 1) C dX5_faultOfFail_7 rfl rfl ?_
  refine g_vi (ws' := (zW cy ad shC E X)) (As := [.int v1]) (rest := []) (res := (f_X4_isRow X 2 24 v1)) C (c_X4_isRow l D cy ad E X 2 24 sC_2 sC_3 (by decide) v1) zml_RX5_116 zcv_X4_isRow (zW_get X sC_2) rfl rfl rfl ⟨Nat.le_of_ble_eq_true rfl, Nat.le_of_ble_eq_true rfl⟩ rfl rfl (Nat.le_of_ble_eq_true rfl) ⟨Nat.zero_le _, Nat.zero_le _⟩ dX5_faultOfFail_8 ?_
  refine g_if_ne C dX5_faultOfFail_11 (tgt := 16) (by decide) (fun hc_1 => ?_) (fun hc_1 => ?_)
  · replace h := (if_neg hc_1).symm.trans h
    refine g_iload_n (j := 2) C dX5_faultOfFail_16 rfl rfl ?_
    refine g_aload_n (j := 0) C dX5_faultOfFail_17 rfl rfl ?_
    refine g_getr (k := 0) (N := 11) C sC_0 rfl zin_RX5 (by decide) rfl zfl_RX5_10 rfl dX5_faultOfFail_18 ?_
    refine g_geti (k := 6) (N := 8) C sC_1 rfl zin_RX3 (by decide) rfl zfl_RX5_330 rfl dX5_faultOfFail_21 ?_
    refine g_bipush (v := (nI 59)) C dX5_faultOfFail_24 (by decide) ?_
    refine g_si (ws' := (zW cy ad shC E X)) (As := [.int v2, .int (X 1 6), .int (nI 59)]) (rest := []) (res := (f_X5_isWithin v2 (X 1 6) (nI 59))) C (c_X5_isWithin l D cy (zW cy ad shC E X) v2 (X 1 6) (nI 59)) zml_RX5_64 zcs_X5_isWithin rfl rfl ⟨Nat.le_of_ble_eq_true rfl, Nat.le_of_ble_eq_true rfl⟩ rfl rfl (Nat.le_of_ble_eq_true rfl) ⟨Nat.zero_le _, Nat.zero_le _⟩ dX5_faultOfFail_26 ?_
    refine g_if_ne C dX5_faultOfFail_29 (tgt := 34) (by decide) (fun hc_2 => ?_) (fun hc_2 => ?_)
    · replace h := (if_neg hc_2).symm.trans h
      refine g_aload_n (j := 0) C dX5_faultOfFail_34 rfl rfl ?_
      refine g_getr (k := 0) (N := 11) C sC_0 rfl zin_RX5 (by decide) rfl zfl_RX5_10 rfl dX5_faultOfFail_35 ?_
      refine g_getr (k := 0) (N := 8) C sC_1 rfl zin_RX3 (by decide) rfl zfl_RX5_75 rfl dX5_faultOfFail_38 ?_
      refine g_iload_n (j := 1) C dX5_faultOfFail_41 rfl rfl ?_
      refine g_iconst (v := (nI 3)) C dX5_faultOfFail_42 (by decide) ?_
      refine g_vi (ws' := (zW cy ad shC E X)) (As := [.int v1, .int (nI 3)]) (rest := []) (res := (f_X4_get X 2 24 v1 (nI 3))) C (c_X4_get l D cy ad E X 2 24 sC_2 sC_3 (by decide) v1 (nI 3)) zml_RX5_126 zcv_X4_get (zW_get X sC_2) rfl rfl rfl ⟨Nat.le_of_ble_eq_true rfl, Nat.le_of_ble_eq_true rfl⟩ rfl rfl (Nat.le_of_ble_eq_true rfl) ⟨Nat.zero_le _, Nat.zero_le _⟩ dX5_faultOfFail_43 ?_
      refine g_iconst (v := (-1 : Int32)) C dX5_faultOfFail_46 (by decide) ?_
      refine g_icmp_ne C dX5_faultOfFail_47 (tgt := 54) (by decide) (fun hc_3 => ?_) (fun hc_3 => ?_)
      · replace h := (if_neg hc_3).symm.trans h
        refine g_iconst (v := (nI 3)) C dX5_faultOfFail_54 (by decide) ?_
        subst h
        exact g_iret rfl C hr rfl dX5_faultOfFail_55
      · replace h := (if_pos hc_3).symm.trans h
        refine g_iconst (v := (nI 0)) C dX5_faultOfFail_50 (by decide) ?_
        refine g_goto C dX5_faultOfFail_51 (tgt := 55) (by decide) ?_
        subst h
        exact g_iret rfl C hr rfl dX5_faultOfFail_55
    · replace h := (if_pos hc_2).symm.trans h
      refine g_iconst (v := (nI 2)) C dX5_faultOfFail_32 (by decide) ?_
      subst h
      exact g_iret rfl C hr rfl dX5_faultOfFail_33
  · replace h := (if_pos hc_1).symm.trans h
    refine g_iconst (v := (nI 1)) C dX5_faultOfFail_14 (by decide) ?_
    subst h
    exact g_iret rfl C hr rfl dX5_faultOfFail_15
def f_X5_faultOfAdvance (X : Nat → Nat → Int32) (v1 : Int32) : Int32 := (if (f_X5_isWithin v1 (nI 1) (nI 30)) = 0 then (nI 2) else (if (nI 59) < ((X 1 6) + v1) then (nI 2) else (nI 0)))
set_option maxRecDepth 100000 in
set_option maxHeartbeats 4000000 in
theorem c_X5_faultOfAdvance (l : Launch) (D : va_G) (cy : Nat → ClassId) (ad : Nat → Nat) (E : va_W) (X : Nat → Nat → Int32) (v1 : Int32) : zMi l yX5_faultOfAdvance cX5_faultOfAdvance 3 (some .int) (zrm 2) D (zTy cy) (zW cy ad shC E X) [.ref (ad 0), .int v1] (f_X5_faultOfAdvance X v1) (zW cy ad shC E X) := by
  refine zMi.of (by decide) (Nat.le_of_ble_eq_true rfl) ?_
  intro p e s m below meth c A C hr
  generalize h : f_X5_faultOfAdvance X v1 = res
  unfold f_X5_faultOfAdvance at h
  refine zG_L (L' := [(0, .ref (ad 0)), (1, .int v1)]) rfl ?_
  refine g_iload_n (j := 1) C dX5_faultOfAdvance_0 rfl rfl ?_
  refine g_iconst (v := (nI 1)) C dX5_faultOfAdvance_1 (by decide) ?_
  refine g_bipush (v := (nI 30)) C dX5_faultOfAdvance_2 (by decide) ?_
  refine g_si (ws' := (zW cy ad shC E X)) (As := [.int v1, .int (nI 1), .int (nI 30)]) (rest := []) (res := (f_X5_isWithin v1 (nI 1) (nI 30))) C (c_X5_isWithin l D cy (zW cy ad shC E X) v1 (nI 1) (nI 30)) zml_RX5_64 zcs_X5_isWithin rfl rfl ⟨Nat.le_of_ble_eq_true rfl, Nat.le_of_ble_eq_true rfl⟩ rfl rfl (Nat.le_of_ble_eq_true rfl) ⟨Nat.zero_le _, Nat.zero_le _⟩ dX5_faultOfAdvance_4 ?_
  refine g_if_eq C dX5_faultOfAdvance_7 (tgt := 28) (by decide) (fun hc_1 => ?_) (fun hc_1 => ?_)
  · replace h := (if_pos hc_1).symm.trans h
    refine g_iconst (v := (nI 0)) C dX5_faultOfAdvance_28 (by decide) ?_
    refine g_istore_n (L' := [(2, .int (nI 0)), (0, .ref (ad 0)), (1, .int v1)]) C dX5_faultOfAdvance_29 rfl (by decide) rfl ?_
    refine g_iload_n (j := 0) C dX5_faultOfAdvance_30 rfl rfl ?_
    refine g_if_eq C dX5_faultOfAdvance_31 (tgt := 38) (by decide) (fun _ => ?_) (fun h9 => absurd h9 (by decide))
    refine g_iconst (v := (nI 2)) C dX5_faultOfAdvance_38 (by decide) ?_
    subst h
    exact g_iret rfl C hr rfl dX5_faultOfAdvance_39
  · replace h := (if_neg hc_1).symm.trans h
    refine g_aload_n (j := 0) C dX5_faultOfAdvance_10 rfl rfl ?_
    refine g_getr (k := 0) (N := 11) C sC_0 rfl zin_RX5 (by decide) rfl zfl_RX5_10 rfl dX5_faultOfAdvance_11 ?_
    refine g_geti (k := 6) (N := 8) C sC_1 rfl zin_RX3 (by decide) rfl zfl_RX5_330 rfl dX5_faultOfAdvance_14 ?_
    refine g_iload_n (j := 1) C dX5_faultOfAdvance_17 rfl rfl ?_
    refine g_iadd C dX5_faultOfAdvance_18 ?_
    refine g_bipush (v := (nI 59)) C dX5_faultOfAdvance_19 (by decide) ?_
    refine g_icmp_gt C dX5_faultOfAdvance_21 (tgt := 28) (by decide) (fun hc_2 => ?_) (fun hc_2 => ?_)
    · replace h := (if_pos hc_2).symm.trans h
      refine g_iconst (v := (nI 0)) C dX5_faultOfAdvance_28 (by decide) ?_
      refine g_istore_n (L' := [(2, .int (nI 0)), (0, .ref (ad 0)), (1, .int v1)]) C dX5_faultOfAdvance_29 rfl (by decide) rfl ?_
      refine g_iload_n (j := 0) C dX5_faultOfAdvance_30 rfl rfl ?_
      refine g_if_eq C dX5_faultOfAdvance_31 (tgt := 38) (by decide) (fun _ => ?_) (fun h9 => absurd h9 (by decide))
      refine g_iconst (v := (nI 2)) C dX5_faultOfAdvance_38 (by decide) ?_
      subst h
      exact g_iret rfl C hr rfl dX5_faultOfAdvance_39
    · replace h := (if_neg hc_2).symm.trans h
      refine g_iconst (v := (nI 1)) C dX5_faultOfAdvance_24 (by decide) ?_
      refine g_goto C dX5_faultOfAdvance_25 (tgt := 29) (by decide) ?_
      refine g_istore_n (L' := [(2, .int (nI 1)), (0, .ref (ad 0)), (1, .int v1)]) C dX5_faultOfAdvance_29 rfl (by decide) rfl ?_
      refine g_iload_n (j := 0) C dX5_faultOfAdvance_30 rfl rfl ?_
      refine g_if_eq C dX5_faultOfAdvance_31 (tgt := 38) (by decide) (fun h9 => absurd h9 (by decide)) (fun _ => ?_)
      refine g_iconst (v := (nI 0)) C dX5_faultOfAdvance_34 (by decide) ?_
      refine g_goto C dX5_faultOfAdvance_35 (tgt := 39) (by decide) ?_
      subst h
      exact g_iret rfl C hr rfl dX5_faultOfAdvance_39
def f_X5_putBack (X : Nat → Nat → Int32) (v1 v2 v3 : Int32) : (Nat → Nat → Int32) := (zlet (f_X3_putShow X (f_X4_get X 10 150 v1 (nI 0)) v2 v3) fun X_1 => (zlet (f_X4_put X_1 8 360 (f_X4_get X 10 150 v1 (nI 0)) (nI 8) (nI 0)) fun X_3 => (zlet (f_X4_put X_3 10 150 v1 (nI 2) v2) fun X_5 => (zlet (f_X4_put X_5 10 150 v1 (nI 3) v3) fun X_7 => X_7))))
set_option maxRecDepth 100000 in
set_option maxHeartbeats 4000000 in
theorem c_X5_putBack (l : Launch) (D : va_G) (cy : Nat → ClassId) (ad : Nat → Nat) (E : va_W) (X : Nat → Nat → Int32) (v1 v2 v3 : Int32) : zMv l yX5_putBack cX5_putBack 5 none (zrm 3) D (zTy cy) (zW cy ad shC E X) [.ref (ad 0), .int v1, .int v2, .int v3] (zW cy ad shC E (f_X5_putBack X v1 v2 v3)) := by
  refine zMv.of (by decide) (Nat.le_of_ble_eq_true rfl) ?_
  intro p e s m below meth c A C hr
  generalize h : f_X5_putBack X v1 v2 v3 = res
  unfold f_X5_putBack at h
  refine zG_L (L' := [(0, .ref (ad 0)), (1, .int v1), (2, .int v2), (3, .int v3)]) rfl ?_
  refine g_aload_n (j := 0) C dX5_putBack_0 rfl rfl ?_
  refine g_getr (k := 0) (N := 11) C sC_0 rfl zin_RX5 (by decide) rfl zfl_RX5_10 rfl dX5_putBack_1 ?_
  refine g_getr (k := 4) (N := 8) C sC_1 rfl zin_RX3 (by decide) rfl zfl_RX5_293 rfl dX5_putBack_4 ?_
  refine g_iload_n (j := 1) C dX5_putBack_7 rfl rfl ?_
  refine g_iconst (v := (nI 0)) C dX5_putBack_8 (by decide) ?_
  refine g_vi (ws' := (zW cy ad shC E X)) (As := [.int v1, .int (nI 0)]) (rest := []) (res := (f_X4_get X 10 150 v1 (nI 0))) C (c_X4_get l D cy ad E X 10 150 sC_10 sC_11 (by decide) v1 (nI 0)) zml_RX5_126 zcv_X4_get (zW_get X sC_10) rfl rfl rfl ⟨Nat.le_of_ble_eq_true rfl, Nat.le_of_ble_eq_true rfl⟩ rfl rfl (Nat.le_of_ble_eq_true rfl) ⟨Nat.zero_le _, Nat.zero_le _⟩ dX5_putBack_9 ?_
  refine g_istore (L' := [(4, .int (f_X4_get X 10 150 v1 (nI 0))), (0, .ref (ad 0)), (1, .int v1), (2, .int v2), (3, .int v3)]) C dX5_putBack_12 (by decide) rfl ?_
  refine g_aload_n (j := 1) C dX5_putBack_14 rfl rfl ?_
  refine g_getr (k := 0) (N := 11) C sC_0 rfl zin_RX5 (by decide) rfl zfl_RX5_10 rfl dX5_putBack_15 ?_
  refine g_iload (j := 0) C dX5_putBack_18 rfl ?_
  refine g_iload_n (j := 3) C dX5_putBack_20 rfl rfl ?_
  refine g_iload_n (j := 4) C dX5_putBack_21 rfl rfl ?_
  obtain ⟨X_1, e_2, h⟩ := zlet_ex h
  refine g_vv (ws' := (zW cy ad shC E X_1)) (As := [.int (f_X4_get X 10 150 v1 (nI 0)), .int v2, .int v3]) (rest := []) C ((by rw [e_2]; exact c_X3_putShow l D cy ad E X (f_X4_get X 10 150 v1 (nI 0)) v2 v3)) zml_RX5_230 zcv_X3_putShow (zW_get X sC_1) rfl rfl rfl ⟨Nat.le_of_ble_eq_true rfl, Nat.le_of_ble_eq_true rfl⟩ rfl rfl (Nat.le_of_ble_eq_true rfl) ⟨Nat.zero_le _, Nat.zero_le _⟩ dX5_putBack_22 ?_
  refine g_aload_n (j := 1) C dX5_putBack_25 rfl rfl ?_
  refine g_getr (k := 0) (N := 11) C sC_0 rfl zin_RX5 (by decide) rfl zfl_RX5_10 rfl dX5_putBack_26 ?_
  refine g_getr (k := 3) (N := 8) C sC_1 rfl zin_RX3 (by decide) rfl zfl_RX5_210 rfl dX5_putBack_29 ?_
  refine g_iload (j := 0) C dX5_putBack_32 rfl ?_
  refine g_bipush (v := (nI 8)) C dX5_putBack_34 (by decide) ?_
  refine g_iconst (v := (nI 0)) C dX5_putBack_36 (by decide) ?_
  obtain ⟨X_3, e_4, h⟩ := zlet_ex h
  refine g_vv (ws' := (zW cy ad shC E X_3)) (As := [.int (f_X4_get X 10 150 v1 (nI 0)), .int (nI 8), .int (nI 0)]) (rest := []) C ((by rw [e_4]; exact c_X4_put l D cy ad E X_1 8 360 sC_8 sC_9 (by decide) (f_X4_get X 10 150 v1 (nI 0)) (nI 8) (nI 0))) zml_RX5_97 zcv_X4_put (zW_get X_1 sC_8) rfl rfl rfl ⟨Nat.le_of_ble_eq_true rfl, Nat.le_of_ble_eq_true rfl⟩ rfl rfl (Nat.le_of_ble_eq_true rfl) ⟨Nat.zero_le _, Nat.zero_le _⟩ dX5_putBack_37 ?_
  refine g_aload_n (j := 1) C dX5_putBack_40 rfl rfl ?_
  refine g_getr (k := 0) (N := 11) C sC_0 rfl zin_RX5 (by decide) rfl zfl_RX5_10 rfl dX5_putBack_41 ?_
  refine g_getr (k := 4) (N := 8) C sC_1 rfl zin_RX3 (by decide) rfl zfl_RX5_293 rfl dX5_putBack_44 ?_
  refine g_iload_n (j := 2) C dX5_putBack_47 rfl rfl ?_
  refine g_iconst (v := (nI 2)) C dX5_putBack_48 (by decide) ?_
  refine g_iload_n (j := 3) C dX5_putBack_49 rfl rfl ?_
  obtain ⟨X_5, e_6, h⟩ := zlet_ex h
  refine g_vv (ws' := (zW cy ad shC E X_5)) (As := [.int v1, .int (nI 2), .int v2]) (rest := []) C ((by rw [e_6]; exact c_X4_put l D cy ad E X_3 10 150 sC_10 sC_11 (by decide) v1 (nI 2) v2)) zml_RX5_97 zcv_X4_put (zW_get X_3 sC_10) rfl rfl rfl ⟨Nat.le_of_ble_eq_true rfl, Nat.le_of_ble_eq_true rfl⟩ rfl rfl (Nat.le_of_ble_eq_true rfl) ⟨Nat.zero_le _, Nat.zero_le _⟩ dX5_putBack_50 ?_
  refine g_aload_n (j := 1) C dX5_putBack_53 rfl rfl ?_
  refine g_getr (k := 0) (N := 11) C sC_0 rfl zin_RX5 (by decide) rfl zfl_RX5_10 rfl dX5_putBack_54 ?_
  refine g_getr (k := 4) (N := 8) C sC_1 rfl zin_RX3 (by decide) rfl zfl_RX5_293 rfl dX5_putBack_57 ?_
  refine g_iload_n (j := 2) C dX5_putBack_60 rfl rfl ?_
  refine g_iconst (v := (nI 3)) C dX5_putBack_61 (by decide) ?_
  refine g_iload_n (j := 4) C dX5_putBack_62 rfl rfl ?_
  obtain ⟨X_7, e_8, h⟩ := zlet_ex h
  refine g_vv (ws' := (zW cy ad shC E X_7)) (As := [.int v1, .int (nI 3), .int v3]) (rest := []) C ((by rw [e_8]; exact c_X4_put l D cy ad E X_5 10 150 sC_10 sC_11 (by decide) v1 (nI 3) v3)) zml_RX5_97 zcv_X4_put (zW_get X_5 sC_10) rfl rfl rfl ⟨Nat.le_of_ble_eq_true rfl, Nat.le_of_ble_eq_true rfl⟩ rfl rfl (Nat.le_of_ble_eq_true rfl) ⟨Nat.zero_le _, Nat.zero_le _⟩ dX5_putBack_63 ?_
  subst h
  exact g_vret rfl C hr dX5_putBack_66
def f_X5_isPlacedAgain_L142 (k : (Nat → Nat → Int32) → Int32 → Option (Int32 × (Nat → Nat → Int32))) (k1 : (Nat → Nat → Int32) → Option (Int32 × (Nat → Nat → Int32))) (v1 : Int32) (v2 : Int32) (v4 : Int32) (v5 : Int32) (v6 : Int32) (v7 : Int32) (v8 : Int32) (v10 : Int32) : Nat → (Nat → Nat → Int32) → Int32 → Option (Int32 × (Nat → Nat → Int32))
  | 0, _, _ => none
  | fu + 1, X, v11 => (if (f_X4_size X 2 24) ≤ v11 then k1 X else (if (f_X5_isMinute v10) = 0 then k1 X else (if v11 = v2 then f_X5_isPlacedAgain_L142 k k1 v1 v2 v4 v5 v6 v7 v8 v10 fu X (v11 + 1) else (if (f_X4_get X 2 24 v11 (nI 0)) < v5 then f_X5_isPlacedAgain_L142 k k1 v1 v2 v4 v5 v6 v7 v8 v10 fu X (v11 + 1) else ((f_X2_firstBroken X v11 v10 (v10 + v6)).bind fun q_2009 => (if q_2009.1 = 0 then k q_2009.2 v11 else f_X5_isPlacedAgain_L142 k k1 v1 v2 v4 v5 v6 v7 v8 v10 fu q_2009.2 (v11 + 1)))))))
set_option maxRecDepth 100000 in
set_option maxHeartbeats 4000000 in
theorem w_X5_isPlacedAgain_L142 {p : Program} {e : Env} {s : State} {m : MethodId} {args : Array Value} {below : List Frame} {meth : Method} {c : Code} {A : Nat → Prop} (l : Launch) (D : va_G) (cy : Nat → ClassId) (ad : Nat → Nat) (E : va_W) (k : (Nat → Nat → Int32) → Int32 → Option (Int32 × (Nat → Nat → Int32))) (k1 : (Nat → Nat → Int32) → Option (Int32 × (Nat → Nat → Int32))) (v1 : Int32) (v2 : Int32) (v4 : Int32) (v5 : Int32) (v6 : Int32) (v7 : Int32) (v8 : Int32) (v10 : Int32) {res : Int32 × (Nat → Nat → Int32)} (C : zC p s m args meth c cX5_isPlacedAgain 13 RX5 D (zTy cy) A) (hr : meth.sig.returnType = (some .boolean)) : ∀ (fu : Nat) (X : Nat → Nat → Int32) (v11 : Int32) (h : f_X5_isPlacedAgain_L142 k k1 v1 v2 v4 v5 v6 v7 v8 v10 fu X v11 = some res) (hk : ∀ (X : Nat → Nat → Int32) (v11 : Int32), k X v11 = some res → zG p l e (zrm 4) s m args below meth c 13 D A 0 0 (MQ below (va_Qi (fun (r : Int32) (_ : Unit) => r = res.1) (fun _ t => zB D (zTy cy) A (zW cy ad shC E res.2) t) A) args s 0 0 A) (zW cy ad shC E X) 224 [(0, .ref (ad 0)), (1, .int v1), (10, .int v10), (11, .int v11)] []) (hk1 : ∀ (X : Nat → Nat → Int32), k1 X = some res → zG p l e (zrm 4) s m args below meth c 13 D A 0 0 (MQ below (va_Qi (fun (r : Int32) (_ : Unit) => r = res.1) (fun _ t => zB D (zTy cy) A (zW cy ad shC E res.2) t) A) args s 0 0 A) (zW cy ad shC E X) 241 [(0, .ref (ad 0)), (1, .int v1), (2, .int v2), (4, .int v4), (5, .int v5), (6, .int v6), (7, .int v7), (8, .int v8)] []), zG p l e (zrm 4) s m args below meth c 13 D A 0 0 (MQ below (va_Qi (fun (r : Int32) (_ : Unit) => r = res.1) (fun _ t => zB D (zTy cy) A (zW cy ad shC E res.2) t) A) args s 0 0 A) (zW cy ad shC E X) 142 [(0, .ref (ad 0)), (1, .int v1), (2, .int v2), (4, .int v4), (5, .int v5), (6, .int v6), (7, .int v7), (8, .int v8), (10, .int v10), (11, .int v11)] [] := by
  intro fu
  induction fu with
  | zero => intro X v11 h hk hk1; simp [f_X5_isPlacedAgain_L142] at h
  | succ fu ih =>
    intro X v11 h hk hk1
    rw [f_X5_isPlacedAgain_L142] at h
    refine g_iload (j := 9) C dX5_isPlacedAgain_142 rfl ?_
    refine g_aload_n (j := 0) C dX5_isPlacedAgain_144 rfl rfl ?_
    refine g_getr (k := 0) (N := 11) C sC_0 rfl zin_RX5 (by decide) rfl zfl_RX5_10 rfl dX5_isPlacedAgain_145 ?_
    refine g_getr (k := 0) (N := 8) C sC_1 rfl zin_RX3 (by decide) rfl zfl_RX5_75 rfl dX5_isPlacedAgain_148 ?_
    refine g_vi (ws' := (zW cy ad shC E X)) (As := []) (rest := [.int v11]) (res := (f_X4_size X 2 24)) C (c_X4_size l D cy ad E X 2 24 sC_2 sC_3 (by decide)) zml_RX5_79 zcv_X4_size (zW_get X sC_2) rfl rfl rfl ⟨Nat.le_of_ble_eq_true rfl, Nat.le_of_ble_eq_true rfl⟩ rfl rfl (Nat.le_of_ble_eq_true rfl) ⟨Nat.zero_le _, Nat.zero_le _⟩ dX5_isPlacedAgain_151 ?_
    refine g_icmp_ge C dX5_isPlacedAgain_154 (tgt := 241) (by decide) (fun hc_2005 => ?_) (fun hc_2005 => ?_)
    · replace h := (if_pos hc_2005).symm.trans h
      refine zG_sub (L' := [(0, .ref (ad 0)), (1, .int v1), (2, .int v2), (4, .int v4), (5, .int v5), (6, .int v6), (7, .int v7), (8, .int v8)]) [0, 1, 2, 3, 4, 5, 6, 7] rfl ?_
      exact hk1 X h
    · replace h := (if_neg hc_2005).symm.trans h
      refine g_iload (j := 8) C dX5_isPlacedAgain_157 rfl ?_
      refine g_si (ws' := (zW cy ad shC E X)) (As := [.int v10]) (rest := []) (res := (f_X5_isMinute v10)) C (c_X5_isMinute l D cy (zW cy ad shC E X) v10) zml_RX5_215 zcs_X5_isMinute rfl rfl ⟨Nat.le_of_ble_eq_true rfl, Nat.le_of_ble_eq_true rfl⟩ rfl rfl (Nat.le_of_ble_eq_true rfl) ⟨Nat.zero_le _, Nat.zero_le _⟩ dX5_isPlacedAgain_159 ?_
      refine g_if_eq C dX5_isPlacedAgain_162 (tgt := 241) (by decide) (fun hc_2006 => ?_) (fun hc_2006 => ?_)
      · replace h := (if_pos hc_2006).symm.trans h
        refine zG_sub (L' := [(0, .ref (ad 0)), (1, .int v1), (2, .int v2), (4, .int v4), (5, .int v5), (6, .int v6), (7, .int v7), (8, .int v8)]) [0, 1, 2, 3, 4, 5, 6, 7] rfl ?_
        exact hk1 X h
      · replace h := (if_neg hc_2006).symm.trans h
        refine g_iload (j := 9) C dX5_isPlacedAgain_165 rfl ?_
        refine g_iload_n (j := 2) C dX5_isPlacedAgain_167 rfl rfl ?_
        refine g_icmp_eq C dX5_isPlacedAgain_168 (tgt := 193) (by decide) (fun hc_2007 => ?_) (fun hc_2007 => ?_)
        · replace h := (if_pos hc_2007).symm.trans h
          refine g_iconst (v := (nI 0)) C dX5_isPlacedAgain_193 (by decide) ?_
          refine g_istore (L' := [(12, .int (nI 0)), (0, .ref (ad 0)), (1, .int v1), (2, .int v2), (4, .int v4), (5, .int v5), (6, .int v6), (7, .int v7), (8, .int v8), (10, .int v10), (11, .int v11)]) C dX5_isPlacedAgain_194 (by decide) rfl ?_
          refine g_iload (j := 0) C dX5_isPlacedAgain_196 rfl ?_
          refine g_if_eq C dX5_isPlacedAgain_198 (tgt := 235) (by decide) (fun _ => ?_) (fun h9 => absurd h9 (by decide))
          refine g_iinc (k := 10) (L' := [(11, .int (v11 + 1)), (12, .int (nI 0)), (0, .ref (ad 0)), (1, .int v1), (2, .int v2), (4, .int v4), (5, .int v5), (6, .int v6), (7, .int v7), (8, .int v8), (10, .int v10)]) C dX5_isPlacedAgain_235 rfl (z_iinc (by decide)) (by decide) rfl ?_
          refine g_goto C dX5_isPlacedAgain_238 (tgt := 142) (by decide) ?_
          refine zG_sub (L' := [(0, .ref (ad 0)), (1, .int v1), (2, .int v2), (4, .int v4), (5, .int v5), (6, .int v6), (7, .int v7), (8, .int v8), (10, .int v10), (11, .int (v11 + 1))]) [2, 3, 4, 5, 6, 7, 8, 9, 10, 0] rfl ?_
          exact ih X (v11 + 1) h hk hk1
        · replace h := (if_neg hc_2007).symm.trans h
          refine g_aload_n (j := 0) C dX5_isPlacedAgain_171 rfl rfl ?_
          refine g_getr (k := 0) (N := 11) C sC_0 rfl zin_RX5 (by decide) rfl zfl_RX5_10 rfl dX5_isPlacedAgain_172 ?_
          refine g_getr (k := 0) (N := 8) C sC_1 rfl zin_RX3 (by decide) rfl zfl_RX5_75 rfl dX5_isPlacedAgain_175 ?_
          refine g_iload (j := 9) C dX5_isPlacedAgain_178 rfl ?_
          refine g_iconst (v := (nI 0)) C dX5_isPlacedAgain_180 (by decide) ?_
          refine g_vi (ws' := (zW cy ad shC E X)) (As := [.int v11, .int (nI 0)]) (rest := []) (res := (f_X4_get X 2 24 v11 (nI 0))) C (c_X4_get l D cy ad E X 2 24 sC_2 sC_3 (by decide) v11 (nI 0)) zml_RX5_126 zcv_X4_get (zW_get X sC_2) rfl rfl rfl ⟨Nat.le_of_ble_eq_true rfl, Nat.le_of_ble_eq_true rfl⟩ rfl rfl (Nat.le_of_ble_eq_true rfl) ⟨Nat.zero_le _, Nat.zero_le _⟩ dX5_isPlacedAgain_181 ?_
          refine g_iload (j := 4) C dX5_isPlacedAgain_184 rfl ?_
          refine g_icmp_lt C dX5_isPlacedAgain_186 (tgt := 193) (by decide) (fun hc_2008 => ?_) (fun hc_2008 => ?_)
          · replace h := (if_pos hc_2008).symm.trans h
            refine g_iconst (v := (nI 0)) C dX5_isPlacedAgain_193 (by decide) ?_
            refine g_istore (L' := [(12, .int (nI 0)), (0, .ref (ad 0)), (1, .int v1), (2, .int v2), (4, .int v4), (5, .int v5), (6, .int v6), (7, .int v7), (8, .int v8), (10, .int v10), (11, .int v11)]) C dX5_isPlacedAgain_194 (by decide) rfl ?_
            refine g_iload (j := 0) C dX5_isPlacedAgain_196 rfl ?_
            refine g_if_eq C dX5_isPlacedAgain_198 (tgt := 235) (by decide) (fun _ => ?_) (fun h9 => absurd h9 (by decide))
            refine g_iinc (k := 10) (L' := [(11, .int (v11 + 1)), (12, .int (nI 0)), (0, .ref (ad 0)), (1, .int v1), (2, .int v2), (4, .int v4), (5, .int v5), (6, .int v6), (7, .int v7), (8, .int v8), (10, .int v10)]) C dX5_isPlacedAgain_235 rfl (z_iinc (by decide)) (by decide) rfl ?_
            refine g_goto C dX5_isPlacedAgain_238 (tgt := 142) (by decide) ?_
            refine zG_sub (L' := [(0, .ref (ad 0)), (1, .int v1), (2, .int v2), (4, .int v4), (5, .int v5), (6, .int v6), (7, .int v7), (8, .int v8), (10, .int v10), (11, .int (v11 + 1))]) [2, 3, 4, 5, 6, 7, 8, 9, 10, 0] rfl ?_
            exact ih X (v11 + 1) h hk hk1
          · replace h := (if_neg hc_2008).symm.trans h
            refine g_iconst (v := (nI 1)) C dX5_isPlacedAgain_189 (by decide) ?_
            refine g_goto C dX5_isPlacedAgain_190 (tgt := 194) (by decide) ?_
            refine g_istore (L' := [(12, .int (nI 1)), (0, .ref (ad 0)), (1, .int v1), (2, .int v2), (4, .int v4), (5, .int v5), (6, .int v6), (7, .int v7), (8, .int v8), (10, .int v10), (11, .int v11)]) C dX5_isPlacedAgain_194 (by decide) rfl ?_
            refine g_iload (j := 0) C dX5_isPlacedAgain_196 rfl ?_
            refine g_if_eq C dX5_isPlacedAgain_198 (tgt := 235) (by decide) (fun h9 => absurd h9 (by decide)) (fun _ => ?_)
            refine g_aload_n (j := 1) C dX5_isPlacedAgain_201 rfl rfl ?_
            refine g_getr (k := 3) (N := 11) C sC_0 rfl zin_RX5 (by decide) rfl zfl_RX5_29 rfl dX5_isPlacedAgain_202 ?_
            refine g_aload_n (j := 1) C dX5_isPlacedAgain_205 rfl rfl ?_
            refine g_getr (k := 0) (N := 11) C sC_0 rfl zin_RX5 (by decide) rfl zfl_RX5_10 rfl dX5_isPlacedAgain_206 ?_
            refine g_iload (j := 10) C dX5_isPlacedAgain_209 rfl ?_
            refine g_iload (j := 9) C dX5_isPlacedAgain_211 rfl ?_
            refine g_iload (j := 9) C dX5_isPlacedAgain_213 rfl ?_
            refine g_iload (j := 6) C dX5_isPlacedAgain_215 rfl ?_
            refine g_iadd C dX5_isPlacedAgain_217 ?_
            obtain ⟨q_2009, hq_2010, h⟩ := bind_isome h
            refine g_vi (ws' := (zW cy ad shC E q_2009.2)) (As := [.ref (ad 1), .int v11, .int v10, .int (v10 + v6)]) (rest := []) (res := q_2009.1) C (c_X2_firstBroken l D cy ad E X v11 v10 (v10 + v6) hq_2010) zml_RX5_272 zcv_X2_firstBroken (zW_get X sC_146) rfl rfl rfl ⟨Nat.le_of_ble_eq_true rfl, Nat.le_of_ble_eq_true rfl⟩ rfl rfl (Nat.le_of_ble_eq_true rfl) ⟨Nat.zero_le _, Nat.zero_le _⟩ dX5_isPlacedAgain_218 ?_
            refine g_if_ne C dX5_isPlacedAgain_221 (tgt := 235) (by decide) (fun hc_2011 => ?_) (fun hc_2011 => ?_)
            · replace h := (if_neg hc_2011).symm.trans h
              refine g_iinc (k := 10) (L' := [(11, .int (v11 + 1)), (12, .int (nI 1)), (0, .ref (ad 0)), (1, .int v1), (2, .int v2), (4, .int v4), (5, .int v5), (6, .int v6), (7, .int v7), (8, .int v8), (10, .int v10)]) C dX5_isPlacedAgain_235 rfl (z_iinc (by decide)) (by decide) rfl ?_
              refine g_goto C dX5_isPlacedAgain_238 (tgt := 142) (by decide) ?_
              refine zG_sub (L' := [(0, .ref (ad 0)), (1, .int v1), (2, .int v2), (4, .int v4), (5, .int v5), (6, .int v6), (7, .int v7), (8, .int v8), (10, .int v10), (11, .int (v11 + 1))]) [2, 3, 4, 5, 6, 7, 8, 9, 10, 0] rfl ?_
              exact ih q_2009.2 (v11 + 1) h hk hk1
            · replace h := (if_pos hc_2011).symm.trans h
              refine zG_sub (L' := [(0, .ref (ad 0)), (1, .int v1), (10, .int v10), (11, .int v11)]) [1, 2, 9, 10] rfl ?_
              exact hk q_2009.2 v11 h
def f_X5_isPlacedAgain_L100 (k : (Nat → Nat → Int32) → Int32 → Int32 → Option (Int32 × (Nat → Nat → Int32))) (v1 : Int32) (v2 : Int32) (v4 : Int32) (v5 : Int32) (v6 : Int32) (v7 : Int32) : Nat → (Nat → Nat → Int32) → Int32 → Option (Int32 × (Nat → Nat → Int32))
  | 0, _, _ => none
  | fu + 1, X, v8 => (if ((nI 2) * v7) < v8 then some ((nI 0), X) else (if (v8 - v8 / (nI 2) * (nI 2)) = 0 then f_X5_isPlacedAgain_L142 (fun X_2016 v11_2015 => k X_2016 (v4 + ((v8 + (nI 1)) / (nI 2))) v11_2015) (fun X_2017 => f_X5_isPlacedAgain_L100 k v1 v2 v4 v5 v6 v7 fu X_2017 (v8 + 1)) v1 v2 v4 v5 v6 v7 v8 (v4 + ((v8 + (nI 1)) / (nI 2))) zFuel X (nI 0) else f_X5_isPlacedAgain_L142 (fun X_2013 v11_2012 => k X_2013 (v4 - ((v8 + (nI 1)) / (nI 2))) v11_2012) (fun X_2014 => f_X5_isPlacedAgain_L100 k v1 v2 v4 v5 v6 v7 fu X_2014 (v8 + 1)) v1 v2 v4 v5 v6 v7 v8 (v4 - ((v8 + (nI 1)) / (nI 2))) zFuel X (nI 0)))
set_option maxRecDepth 100000 in
set_option maxHeartbeats 4000000 in
theorem w_X5_isPlacedAgain_L100 {p : Program} {e : Env} {s : State} {m : MethodId} {args : Array Value} {below : List Frame} {meth : Method} {c : Code} {A : Nat → Prop} (l : Launch) (D : va_G) (cy : Nat → ClassId) (ad : Nat → Nat) (E : va_W) (k : (Nat → Nat → Int32) → Int32 → Int32 → Option (Int32 × (Nat → Nat → Int32))) (v1 : Int32) (v2 : Int32) (v4 : Int32) (v5 : Int32) (v6 : Int32) (v7 : Int32) {res : Int32 × (Nat → Nat → Int32)} (C : zC p s m args meth c cX5_isPlacedAgain 13 RX5 D (zTy cy) A) (hr : meth.sig.returnType = (some .boolean)) : ∀ (fu : Nat) (X : Nat → Nat → Int32) (v8 : Int32) (h : f_X5_isPlacedAgain_L100 k v1 v2 v4 v5 v6 v7 fu X v8 = some res) (hk : ∀ (X : Nat → Nat → Int32) (v10 v11 : Int32), k X v10 v11 = some res → zG p l e (zrm 4) s m args below meth c 13 D A 0 0 (MQ below (va_Qi (fun (r : Int32) (_ : Unit) => r = res.1) (fun _ t => zB D (zTy cy) A (zW cy ad shC E res.2) t) A) args s 0 0 A) (zW cy ad shC E X) 224 [(0, .ref (ad 0)), (1, .int v1), (10, .int v10), (11, .int v11)] []), zG p l e (zrm 4) s m args below meth c 13 D A 0 0 (MQ below (va_Qi (fun (r : Int32) (_ : Unit) => r = res.1) (fun _ t => zB D (zTy cy) A (zW cy ad shC E res.2) t) A) args s 0 0 A) (zW cy ad shC E X) 100 [(0, .ref (ad 0)), (1, .int v1), (2, .int v2), (4, .int v4), (5, .int v5), (6, .int v6), (7, .int v7), (8, .int v8)] [] := by
  intro fu
  induction fu with
  | zero => intro X v8 h hk; simp [f_X5_isPlacedAgain_L100] at h
  | succ fu ih =>
    intro X v8 h hk
    rw [f_X5_isPlacedAgain_L100] at h
    refine g_iload (j := 7) C dX5_isPlacedAgain_100 rfl ?_
    refine g_iconst (v := (nI 2)) C dX5_isPlacedAgain_102 (by decide) ?_
    refine g_iload (j := 6) C dX5_isPlacedAgain_103 rfl ?_
    refine g_imul C dX5_isPlacedAgain_105 ?_
    refine g_icmp_gt C dX5_isPlacedAgain_106 (tgt := 247) (by decide) (fun hc_1003 => ?_) (fun hc_1003 => ?_)
    · replace h := (if_pos hc_1003).symm.trans h
      refine g_iconst (v := (nI 0)) C dX5_isPlacedAgain_247 (by decide) ?_
      obtain rfl := Option.some.inj h
      exact g_iret rfl C hr (z_nb (Or.inl rfl)) dX5_isPlacedAgain_248
    · replace h := (if_neg hc_1003).symm.trans h
      refine g_iload (j := 7) C dX5_isPlacedAgain_109 rfl ?_
      refine g_iconst (v := (nI 1)) C dX5_isPlacedAgain_111 (by decide) ?_
      refine g_iadd C dX5_isPlacedAgain_112 ?_
      refine g_iconst (v := (nI 2)) C dX5_isPlacedAgain_113 (by decide) ?_
      refine g_idiv C dX5_isPlacedAgain_114 (by decide) ?_
      refine g_istore (L' := [(9, .int ((v8 + (nI 1)) / (nI 2))), (0, .ref (ad 0)), (1, .int v1), (2, .int v2), (4, .int v4), (5, .int v5), (6, .int v6), (7, .int v7), (8, .int v8)]) C dX5_isPlacedAgain_115 (by decide) rfl ?_
      refine g_iload (j := 8) C dX5_isPlacedAgain_117 rfl ?_
      refine g_iconst (v := (nI 2)) C dX5_isPlacedAgain_119 (by decide) ?_
      refine g_irem C dX5_isPlacedAgain_120 (by decide) ?_
      refine g_if_ne C dX5_isPlacedAgain_121 (tgt := 132) (by decide) (fun hc_1004 => ?_) (fun hc_1004 => ?_)
      · replace h := (if_neg hc_1004).symm.trans h
        refine g_iload (j := 4) C dX5_isPlacedAgain_132 rfl ?_
        refine g_iload (j := 0) C dX5_isPlacedAgain_134 rfl ?_
        refine g_isub C dX5_isPlacedAgain_136 ?_
        refine g_istore (L' := [(10, .int (v4 - ((v8 + (nI 1)) / (nI 2)))), (9, .int ((v8 + (nI 1)) / (nI 2))), (0, .ref (ad 0)), (1, .int v1), (2, .int v2), (4, .int v4), (5, .int v5), (6, .int v6), (7, .int v7), (8, .int v8)]) C dX5_isPlacedAgain_137 (by decide) rfl ?_
        refine g_iconst (v := (nI 0)) C dX5_isPlacedAgain_139 (by decide) ?_
        refine g_istore (L' := [(11, .int (nI 0)), (10, .int (v4 - ((v8 + (nI 1)) / (nI 2)))), (9, .int ((v8 + (nI 1)) / (nI 2))), (0, .ref (ad 0)), (1, .int v1), (2, .int v2), (4, .int v4), (5, .int v5), (6, .int v6), (7, .int v7), (8, .int v8)]) C dX5_isPlacedAgain_140 (by decide) rfl ?_
        refine zG_sub (L' := [(0, .ref (ad 0)), (1, .int v1), (2, .int v2), (4, .int v4), (5, .int v5), (6, .int v6), (7, .int v7), (8, .int v8), (10, .int (v4 - ((v8 + (nI 1)) / (nI 2)))), (11, .int (nI 0))]) [3, 4, 5, 6, 7, 8, 9, 10, 1, 0] rfl ?_
        refine w_X5_isPlacedAgain_L142 l D cy ad E _ _ v1 v2 v4 v5 v6 v7 v8 (v4 - ((v8 + (nI 1)) / (nI 2))) C hr zFuel X (nI 0) h ?_ ?_
        · intro X_2013 v11_2012 h
          refine zG_sub (L' := [(0, .ref (ad 0)), (1, .int v1), (10, .int (v4 - ((v8 + (nI 1)) / (nI 2)))), (11, .int v11_2012)]) [0, 1, 2, 3] rfl ?_
          exact hk X_2013 (v4 - ((v8 + (nI 1)) / (nI 2))) v11_2012 h
        · intro X_2014 h
          refine g_iinc (k := 7) (L' := [(8, .int (v8 + 1)), (0, .ref (ad 0)), (1, .int v1), (2, .int v2), (4, .int v4), (5, .int v5), (6, .int v6), (7, .int v7)]) C dX5_isPlacedAgain_241 rfl (z_iinc (by decide)) (by decide) rfl ?_
          refine g_goto C dX5_isPlacedAgain_244 (tgt := 100) (by decide) ?_
          refine zG_sub (L' := [(0, .ref (ad 0)), (1, .int v1), (2, .int v2), (4, .int v4), (5, .int v5), (6, .int v6), (7, .int v7), (8, .int (v8 + 1))]) [1, 2, 3, 4, 5, 6, 7, 0] rfl ?_
          exact ih X_2014 (v8 + 1) h hk
      · replace h := (if_pos hc_1004).symm.trans h
        refine g_iload (j := 4) C dX5_isPlacedAgain_124 rfl ?_
        refine g_iload (j := 0) C dX5_isPlacedAgain_126 rfl ?_
        refine g_iadd C dX5_isPlacedAgain_128 ?_
        refine g_goto C dX5_isPlacedAgain_129 (tgt := 137) (by decide) ?_
        refine g_istore (L' := [(10, .int (v4 + ((v8 + (nI 1)) / (nI 2)))), (9, .int ((v8 + (nI 1)) / (nI 2))), (0, .ref (ad 0)), (1, .int v1), (2, .int v2), (4, .int v4), (5, .int v5), (6, .int v6), (7, .int v7), (8, .int v8)]) C dX5_isPlacedAgain_137 (by decide) rfl ?_
        refine g_iconst (v := (nI 0)) C dX5_isPlacedAgain_139 (by decide) ?_
        refine g_istore (L' := [(11, .int (nI 0)), (10, .int (v4 + ((v8 + (nI 1)) / (nI 2)))), (9, .int ((v8 + (nI 1)) / (nI 2))), (0, .ref (ad 0)), (1, .int v1), (2, .int v2), (4, .int v4), (5, .int v5), (6, .int v6), (7, .int v7), (8, .int v8)]) C dX5_isPlacedAgain_140 (by decide) rfl ?_
        refine zG_sub (L' := [(0, .ref (ad 0)), (1, .int v1), (2, .int v2), (4, .int v4), (5, .int v5), (6, .int v6), (7, .int v7), (8, .int v8), (10, .int (v4 + ((v8 + (nI 1)) / (nI 2)))), (11, .int (nI 0))]) [3, 4, 5, 6, 7, 8, 9, 10, 1, 0] rfl ?_
        refine w_X5_isPlacedAgain_L142 l D cy ad E _ _ v1 v2 v4 v5 v6 v7 v8 (v4 + ((v8 + (nI 1)) / (nI 2))) C hr zFuel X (nI 0) h ?_ ?_
        · intro X_2016 v11_2015 h
          refine zG_sub (L' := [(0, .ref (ad 0)), (1, .int v1), (10, .int (v4 + ((v8 + (nI 1)) / (nI 2)))), (11, .int v11_2015)]) [0, 1, 2, 3] rfl ?_
          exact hk X_2016 (v4 + ((v8 + (nI 1)) / (nI 2))) v11_2015 h
        · intro X_2017 h
          refine g_iinc (k := 7) (L' := [(8, .int (v8 + 1)), (0, .ref (ad 0)), (1, .int v1), (2, .int v2), (4, .int v4), (5, .int v5), (6, .int v6), (7, .int v7)]) C dX5_isPlacedAgain_241 rfl (z_iinc (by decide)) (by decide) rfl ?_
          refine g_goto C dX5_isPlacedAgain_244 (tgt := 100) (by decide) ?_
          refine zG_sub (L' := [(0, .ref (ad 0)), (1, .int v1), (2, .int v2), (4, .int v4), (5, .int v5), (6, .int v6), (7, .int v7), (8, .int (v8 + 1))]) [1, 2, 3, 4, 5, 6, 7, 0] rfl ?_
          exact ih X_2017 (v8 + 1) h hk
def f_X5_isPlacedAgain (X : Nat → Nat → Int32) (v1 v2 : Int32) : Option (Int32 × (Nat → Nat → Int32)) := ((f_X2_takeUp X (f_X4_get X 10 150 v1 (nI 0)) (f_X4_get X 8 360 (f_X4_get X 10 150 v1 (nI 0)) (nI 1)) (f_X4_get X 8 360 (f_X4_get X 10 150 v1 (nI 0)) (nI 2))).bind fun q_1 => f_X5_isPlacedAgain_L100 (fun X_2020 v10_2018 v11_2019 => (zlet (f_X5_putBack X_2020 v1 v11_2019 v10_2018) fun X_2021 => some ((nI 1), X_2021))) v1 v2 (f_X4_get X 10 150 v1 (nI 1)) (f_X4_get X 10 150 v1 (nI 4)) (f_X3_minutesOf X (f_X4_get X 10 150 v1 (nI 0))) (f_X3_settingOf X (nI 4)) zFuel q_1 (nI 0))
set_option maxRecDepth 100000 in
set_option maxHeartbeats 4000000 in
theorem c_X5_isPlacedAgain (l : Launch) (D : va_G) (cy : Nat → ClassId) (ad : Nat → Nat) (E : va_W) (X : Nat → Nat → Int32) (v1 v2 : Int32) {res : Int32 × (Nat → Nat → Int32)} (h : f_X5_isPlacedAgain X v1 v2 = some res) : zMi l yX5_isPlacedAgain cX5_isPlacedAgain 13 (some .boolean) (zrm 4) D (zTy cy) (zW cy ad shC E X) [.ref (ad 0), .int v1, .int v2] res.1 (zW cy ad shC E res.2) := by
  refine zMi.of (by decide) (Nat.le_of_ble_eq_true rfl) ?_
  intro p e s m below meth c A C hr
  unfold f_X5_isPlacedAgain at h
  refine zG_L (L' := [(0, .ref (ad 0)), (1, .int v1), (2, .int v2)]) rfl ?_
  refine g_aload_n (j := 0) C dX5_isPlacedAgain_0 rfl rfl ?_
  refine g_getr (k := 0) (N := 11) C sC_0 rfl zin_RX5 (by decide) rfl zfl_RX5_10 rfl dX5_isPlacedAgain_1 ?_
  refine g_getr (k := 4) (N := 8) C sC_1 rfl zin_RX3 (by decide) rfl zfl_RX5_293 rfl dX5_isPlacedAgain_4 ?_
  refine g_iload_n (j := 1) C dX5_isPlacedAgain_7 rfl rfl ?_
  refine g_iconst (v := (nI 0)) C dX5_isPlacedAgain_8 (by decide) ?_
  refine g_vi (ws' := (zW cy ad shC E X)) (As := [.int v1, .int (nI 0)]) (rest := []) (res := (f_X4_get X 10 150 v1 (nI 0))) C (c_X4_get l D cy ad E X 10 150 sC_10 sC_11 (by decide) v1 (nI 0)) zml_RX5_126 zcv_X4_get (zW_get X sC_10) rfl rfl rfl ⟨Nat.le_of_ble_eq_true rfl, Nat.le_of_ble_eq_true rfl⟩ rfl rfl (Nat.le_of_ble_eq_true rfl) ⟨Nat.zero_le _, Nat.zero_le _⟩ dX5_isPlacedAgain_9 ?_
  refine g_istore_n (L' := [(3, .int (f_X4_get X 10 150 v1 (nI 0))), (0, .ref (ad 0)), (1, .int v1), (2, .int v2)]) C dX5_isPlacedAgain_12 rfl (by decide) rfl ?_
  refine g_aload_n (j := 1) C dX5_isPlacedAgain_13 rfl rfl ?_
  refine g_getr (k := 0) (N := 11) C sC_0 rfl zin_RX5 (by decide) rfl zfl_RX5_10 rfl dX5_isPlacedAgain_14 ?_
  refine g_getr (k := 4) (N := 8) C sC_1 rfl zin_RX3 (by decide) rfl zfl_RX5_293 rfl dX5_isPlacedAgain_17 ?_
  refine g_iload_n (j := 2) C dX5_isPlacedAgain_20 rfl rfl ?_
  refine g_iconst (v := (nI 1)) C dX5_isPlacedAgain_21 (by decide) ?_
  refine g_vi (ws' := (zW cy ad shC E X)) (As := [.int v1, .int (nI 1)]) (rest := []) (res := (f_X4_get X 10 150 v1 (nI 1))) C (c_X4_get l D cy ad E X 10 150 sC_10 sC_11 (by decide) v1 (nI 1)) zml_RX5_126 zcv_X4_get (zW_get X sC_10) rfl rfl rfl ⟨Nat.le_of_ble_eq_true rfl, Nat.le_of_ble_eq_true rfl⟩ rfl rfl (Nat.le_of_ble_eq_true rfl) ⟨Nat.zero_le _, Nat.zero_le _⟩ dX5_isPlacedAgain_22 ?_
  refine g_istore (L' := [(4, .int (f_X4_get X 10 150 v1 (nI 1))), (3, .int (f_X4_get X 10 150 v1 (nI 0))), (0, .ref (ad 0)), (1, .int v1), (2, .int v2)]) C dX5_isPlacedAgain_25 (by decide) rfl ?_
  refine g_aload_n (j := 2) C dX5_isPlacedAgain_27 rfl rfl ?_
  refine g_getr (k := 0) (N := 11) C sC_0 rfl zin_RX5 (by decide) rfl zfl_RX5_10 rfl dX5_isPlacedAgain_28 ?_
  refine g_getr (k := 4) (N := 8) C sC_1 rfl zin_RX3 (by decide) rfl zfl_RX5_293 rfl dX5_isPlacedAgain_31 ?_
  refine g_iload_n (j := 3) C dX5_isPlacedAgain_34 rfl rfl ?_
  refine g_iconst (v := (nI 4)) C dX5_isPlacedAgain_35 (by decide) ?_
  refine g_vi (ws' := (zW cy ad shC E X)) (As := [.int v1, .int (nI 4)]) (rest := []) (res := (f_X4_get X 10 150 v1 (nI 4))) C (c_X4_get l D cy ad E X 10 150 sC_10 sC_11 (by decide) v1 (nI 4)) zml_RX5_126 zcv_X4_get (zW_get X sC_10) rfl rfl rfl ⟨Nat.le_of_ble_eq_true rfl, Nat.le_of_ble_eq_true rfl⟩ rfl rfl (Nat.le_of_ble_eq_true rfl) ⟨Nat.zero_le _, Nat.zero_le _⟩ dX5_isPlacedAgain_36 ?_
  refine g_istore (L' := [(5, .int (f_X4_get X 10 150 v1 (nI 4))), (4, .int (f_X4_get X 10 150 v1 (nI 1))), (3, .int (f_X4_get X 10 150 v1 (nI 0))), (0, .ref (ad 0)), (1, .int v1), (2, .int v2)]) C dX5_isPlacedAgain_39 (by decide) rfl ?_
  refine g_aload_n (j := 3) C dX5_isPlacedAgain_41 rfl rfl ?_
  refine g_getr (k := 0) (N := 11) C sC_0 rfl zin_RX5 (by decide) rfl zfl_RX5_10 rfl dX5_isPlacedAgain_42 ?_
  refine g_iload_n (j := 2) C dX5_isPlacedAgain_45 rfl rfl ?_
  refine g_vi (ws' := (zW cy ad shC E X)) (As := [.int (f_X4_get X 10 150 v1 (nI 0))]) (rest := []) (res := (f_X3_minutesOf X (f_X4_get X 10 150 v1 (nI 0)))) C (c_X3_minutesOf l D cy ad E X (f_X4_get X 10 150 v1 (nI 0))) zml_RX5_428 zcv_X3_minutesOf (zW_get X sC_1) rfl rfl rfl ⟨Nat.le_of_ble_eq_true rfl, Nat.le_of_ble_eq_true rfl⟩ rfl rfl (Nat.le_of_ble_eq_true rfl) ⟨Nat.zero_le _, Nat.zero_le _⟩ dX5_isPlacedAgain_46 ?_
  refine g_istore (L' := [(6, .int (f_X3_minutesOf X (f_X4_get X 10 150 v1 (nI 0)))), (5, .int (f_X4_get X 10 150 v1 (nI 4))), (4, .int (f_X4_get X 10 150 v1 (nI 1))), (3, .int (f_X4_get X 10 150 v1 (nI 0))), (0, .ref (ad 0)), (1, .int v1), (2, .int v2)]) C dX5_isPlacedAgain_49 (by decide) rfl ?_
  refine g_aload_n (j := 4) C dX5_isPlacedAgain_51 rfl rfl ?_
  refine g_getr (k := 0) (N := 11) C sC_0 rfl zin_RX5 (by decide) rfl zfl_RX5_10 rfl dX5_isPlacedAgain_52 ?_
  refine g_iconst (v := (nI 4)) C dX5_isPlacedAgain_55 (by decide) ?_
  refine g_vi (ws' := (zW cy ad shC E X)) (As := [.int (nI 4)]) (rest := []) (res := (f_X3_settingOf X (nI 4))) C (c_X3_settingOf l D cy ad E X (nI 4)) zml_RX5_155 zcv_X3_settingOf (zW_get X sC_1) rfl rfl rfl ⟨Nat.le_of_ble_eq_true rfl, Nat.le_of_ble_eq_true rfl⟩ rfl rfl (Nat.le_of_ble_eq_true rfl) ⟨Nat.zero_le _, Nat.zero_le _⟩ dX5_isPlacedAgain_56 ?_
  refine g_istore (L' := [(7, .int (f_X3_settingOf X (nI 4))), (6, .int (f_X3_minutesOf X (f_X4_get X 10 150 v1 (nI 0)))), (5, .int (f_X4_get X 10 150 v1 (nI 4))), (4, .int (f_X4_get X 10 150 v1 (nI 1))), (3, .int (f_X4_get X 10 150 v1 (nI 0))), (0, .ref (ad 0)), (1, .int v1), (2, .int v2)]) C dX5_isPlacedAgain_59 (by decide) rfl ?_
  refine g_aload_n (j := 5) C dX5_isPlacedAgain_61 rfl rfl ?_
  refine g_getr (k := 3) (N := 11) C sC_0 rfl zin_RX5 (by decide) rfl zfl_RX5_29 rfl dX5_isPlacedAgain_62 ?_
  refine g_aload_n (j := 5) C dX5_isPlacedAgain_65 rfl rfl ?_
  refine g_getr (k := 0) (N := 11) C sC_0 rfl zin_RX5 (by decide) rfl zfl_RX5_10 rfl dX5_isPlacedAgain_66 ?_
  refine g_iload_n (j := 4) C dX5_isPlacedAgain_69 rfl rfl ?_
  refine g_aload_n (j := 5) C dX5_isPlacedAgain_70 rfl rfl ?_
  refine g_getr (k := 0) (N := 11) C sC_0 rfl zin_RX5 (by decide) rfl zfl_RX5_10 rfl dX5_isPlacedAgain_71 ?_
  refine g_getr (k := 3) (N := 8) C sC_1 rfl zin_RX3 (by decide) rfl zfl_RX5_210 rfl dX5_isPlacedAgain_74 ?_
  refine g_iload_n (j := 4) C dX5_isPlacedAgain_77 rfl rfl ?_
  refine g_iconst (v := (nI 1)) C dX5_isPlacedAgain_78 (by decide) ?_
  refine g_vi (ws' := (zW cy ad shC E X)) (As := [.int (f_X4_get X 10 150 v1 (nI 0)), .int (nI 1)]) (rest := [.int (f_X4_get X 10 150 v1 (nI 0)), .ref (ad 1), .ref (ad 146)]) (res := (f_X4_get X 8 360 (f_X4_get X 10 150 v1 (nI 0)) (nI 1))) C (c_X4_get l D cy ad E X 8 360 sC_8 sC_9 (by decide) (f_X4_get X 10 150 v1 (nI 0)) (nI 1)) zml_RX5_126 zcv_X4_get (zW_get X sC_8) rfl rfl rfl ⟨Nat.le_of_ble_eq_true rfl, Nat.le_of_ble_eq_true rfl⟩ rfl rfl (Nat.le_of_ble_eq_true rfl) ⟨Nat.zero_le _, Nat.zero_le _⟩ dX5_isPlacedAgain_79 ?_
  refine g_aload_n (j := 5) C dX5_isPlacedAgain_82 rfl rfl ?_
  refine g_getr (k := 0) (N := 11) C sC_0 rfl zin_RX5 (by decide) rfl zfl_RX5_10 rfl dX5_isPlacedAgain_83 ?_
  refine g_getr (k := 3) (N := 8) C sC_1 rfl zin_RX3 (by decide) rfl zfl_RX5_210 rfl dX5_isPlacedAgain_86 ?_
  refine g_iload_n (j := 4) C dX5_isPlacedAgain_89 rfl rfl ?_
  refine g_iconst (v := (nI 2)) C dX5_isPlacedAgain_90 (by decide) ?_
  refine g_vi (ws' := (zW cy ad shC E X)) (As := [.int (f_X4_get X 10 150 v1 (nI 0)), .int (nI 2)]) (rest := [.int (f_X4_get X 8 360 (f_X4_get X 10 150 v1 (nI 0)) (nI 1)), .int (f_X4_get X 10 150 v1 (nI 0)), .ref (ad 1), .ref (ad 146)]) (res := (f_X4_get X 8 360 (f_X4_get X 10 150 v1 (nI 0)) (nI 2))) C (c_X4_get l D cy ad E X 8 360 sC_8 sC_9 (by decide) (f_X4_get X 10 150 v1 (nI 0)) (nI 2)) zml_RX5_126 zcv_X4_get (zW_get X sC_8) rfl rfl rfl ⟨Nat.le_of_ble_eq_true rfl, Nat.le_of_ble_eq_true rfl⟩ rfl rfl (Nat.le_of_ble_eq_true rfl) ⟨Nat.zero_le _, Nat.zero_le _⟩ dX5_isPlacedAgain_91 ?_
  obtain ⟨q_1, hq_2, h⟩ := bind_isome h
  refine g_vv (ws' := (zW cy ad shC E q_1)) (As := [.ref (ad 1), .int (f_X4_get X 10 150 v1 (nI 0)), .int (f_X4_get X 8 360 (f_X4_get X 10 150 v1 (nI 0)) (nI 1)), .int (f_X4_get X 8 360 (f_X4_get X 10 150 v1 (nI 0)) (nI 2))]) (rest := []) C (c_X2_takeUp l D cy ad E X (f_X4_get X 10 150 v1 (nI 0)) (f_X4_get X 8 360 (f_X4_get X 10 150 v1 (nI 0)) (nI 1)) (f_X4_get X 8 360 (f_X4_get X 10 150 v1 (nI 0)) (nI 2)) hq_2) zml_RX5_265 zcv_X2_takeUp (zW_get X sC_146) rfl rfl rfl ⟨Nat.le_of_ble_eq_true rfl, Nat.le_of_ble_eq_true rfl⟩ rfl rfl (Nat.le_of_ble_eq_true rfl) ⟨Nat.zero_le _, Nat.zero_le _⟩ dX5_isPlacedAgain_94 ?_
  refine g_iconst (v := (nI 0)) C dX5_isPlacedAgain_97 (by decide) ?_
  refine g_istore (L' := [(8, .int (nI 0)), (7, .int (f_X3_settingOf X (nI 4))), (6, .int (f_X3_minutesOf X (f_X4_get X 10 150 v1 (nI 0)))), (5, .int (f_X4_get X 10 150 v1 (nI 4))), (4, .int (f_X4_get X 10 150 v1 (nI 1))), (3, .int (f_X4_get X 10 150 v1 (nI 0))), (0, .ref (ad 0)), (1, .int v1), (2, .int v2)]) C dX5_isPlacedAgain_98 (by decide) rfl ?_
  refine zG_sub (L' := [(0, .ref (ad 0)), (1, .int v1), (2, .int v2), (4, .int (f_X4_get X 10 150 v1 (nI 1))), (5, .int (f_X4_get X 10 150 v1 (nI 4))), (6, .int (f_X3_minutesOf X (f_X4_get X 10 150 v1 (nI 0)))), (7, .int (f_X3_settingOf X (nI 4))), (8, .int (nI 0))]) [6, 7, 8, 4, 3, 2, 1, 0] rfl ?_
  refine w_X5_isPlacedAgain_L100 l D cy ad E _ v1 v2 (f_X4_get X 10 150 v1 (nI 1)) (f_X4_get X 10 150 v1 (nI 4)) (f_X3_minutesOf X (f_X4_get X 10 150 v1 (nI 0))) (f_X3_settingOf X (nI 4)) C hr zFuel q_1 (nI 0) h ?_
  intro X_2020 v10_2018 v11_2019 h
  refine g_aload_n (j := 0) C dX5_isPlacedAgain_224 rfl rfl ?_
  refine g_iload_n (j := 1) C dX5_isPlacedAgain_225 rfl rfl ?_
  refine g_iload (j := 3) C dX5_isPlacedAgain_226 rfl ?_
  refine g_iload (j := 2) C dX5_isPlacedAgain_228 rfl ?_
  obtain ⟨X_2021, e_2022, h⟩ := zlet_ex h
  refine g_vv (ws' := (zW cy ad shC E X_2021)) (As := [.int v1, .int v11_2019, .int v10_2018]) (rest := []) C ((by rw [e_2022]; exact c_X5_putBack l D cy ad E X_2020 v1 v11_2019 v10_2018)) zml_RX5_443 zcv_X5_putBack (zW_get X_2020 sC_0) rfl rfl rfl ⟨Nat.le_of_ble_eq_true rfl, Nat.le_of_ble_eq_true rfl⟩ rfl rfl (Nat.le_of_ble_eq_true rfl) ⟨Nat.zero_le _, Nat.zero_le _⟩ dX5_isPlacedAgain_230 ?_
  refine g_iconst (v := (nI 1)) C dX5_isPlacedAgain_233 (by decide) ?_
  obtain rfl := Option.some.inj h
  exact g_iret rfl C hr (z_nb (Or.inr rfl)) dX5_isPlacedAgain_234
def f_X5_takeOutShows_L33 (k : (Nat → Nat → Int32) → Option (Nat → Nat → Int32)) (v1 : Int32) (v3 : Int32) : Nat → (Nat → Nat → Int32) → Int32 → Int32 → Option (Nat → Nat → Int32)
  | 0, _, _, _ => none
  | fu + 1, X, v4, v5 => (if (nI 30) ≤ v5 then k X else (if v4 = (-1 : Int32) then k X else ((f_X4_addRow X 10 150).bind fun q_2008 => (zlet (f_X4_put q_2008.2 10 150 q_2008.1 (nI 0) v4) fun X_2010 => (zlet (f_X4_put X_2010 10 150 q_2008.1 (nI 1) (f_X4_get X 8 360 v4 (nI 3))) fun X_2012 => (zlet (f_X4_put X_2012 10 150 q_2008.1 (nI 2) (-1 : Int32)) fun X_2014 => (zlet (f_X4_put X_2014 10 150 q_2008.1 (nI 3) (-1 : Int32)) fun X_2016 => (zlet (f_X4_put X_2016 10 150 q_2008.1 (nI 4) (f_X4_get X_2016 8 360 v4 (nI 5))) fun X_2018 => (zlet (f_X4_put X_2018 8 360 v4 (nI 8) (nI 1)) fun X_2020 => ((f_X3_showAfter X_2020 v1 v3 (f_X4_get X 8 360 v4 (nI 3))).bind fun q_2022 => f_X5_takeOutShows_L33 k v1 v3 fu X_2020 q_2022 (v5 + 1)))))))))))
set_option maxRecDepth 100000 in
set_option maxHeartbeats 4000000 in
theorem w_X5_takeOutShows_L33 {p : Program} {e : Env} {s : State} {m : MethodId} {args : Array Value} {below : List Frame} {meth : Method} {c : Code} {A : Nat → Prop} (l : Launch) (D : va_G) (cy : Nat → ClassId) (ad : Nat → Nat) (E : va_W) (k : (Nat → Nat → Int32) → Option (Nat → Nat → Int32)) (v1 : Int32) (v3 : Int32) {res : (Nat → Nat → Int32)} (C : zC p s m args meth c cX5_takeOutShows 8 RX5 D (zTy cy) A) (hr : meth.sig.returnType = none) : ∀ (fu : Nat) (X : Nat → Nat → Int32) (v4 v5 : Int32) (h : f_X5_takeOutShows_L33 k v1 v3 fu X v4 v5 = some res) (hk : ∀ (X : Nat → Nat → Int32), k X = some res → zG p l e (zrm 4) s m args below meth c 8 D A 0 0 (MQ below (va_Qv (fun (_ : Unit) => True) (fun _ t => zB D (zTy cy) A (zW cy ad shC E res) t) A) args s 0 0 A) (zW cy ad shC E X) 191 [(0, .ref (ad 0)), (1, .int v1), (3, .int v3)] []), zG p l e (zrm 4) s m args below meth c 8 D A 0 0 (MQ below (va_Qv (fun (_ : Unit) => True) (fun _ t => zB D (zTy cy) A (zW cy ad shC E res) t) A) args s 0 0 A) (zW cy ad shC E X) 33 [(0, .ref (ad 0)), (1, .int v1), (3, .int v3), (4, .int v4), (5, .int v5)] [] := by
  intro fu
  induction fu with
  | zero => intro X v4 v5 h hk; simp [f_X5_takeOutShows_L33] at h
  | succ fu ih =>
    intro X v4 v5 h hk
    rw [f_X5_takeOutShows_L33] at h
    refine g_iload (j := 4) C dX5_takeOutShows_33 rfl ?_
    refine g_bipush (v := (nI 30)) C dX5_takeOutShows_35 (by decide) ?_
    refine g_icmp_ge C dX5_takeOutShows_37 (tgt := 191) (by decide) (fun hc_2006 => ?_) (fun hc_2006 => ?_)
    · replace h := (if_pos hc_2006).symm.trans h
      refine zG_sub (L' := [(0, .ref (ad 0)), (1, .int v1), (3, .int v3)]) [0, 1, 2] rfl ?_
      exact hk X h
    · replace h := (if_neg hc_2006).symm.trans h
      refine g_iload (j := 3) C dX5_takeOutShows_40 rfl ?_
      refine g_iconst (v := (-1 : Int32)) C dX5_takeOutShows_42 (by decide) ?_
      refine g_icmp_eq C dX5_takeOutShows_43 (tgt := 191) (by decide) (fun hc_2007 => ?_) (fun hc_2007 => ?_)
      · replace h := (if_pos hc_2007).symm.trans h
        refine zG_sub (L' := [(0, .ref (ad 0)), (1, .int v1), (3, .int v3)]) [0, 1, 2] rfl ?_
        exact hk X h
      · replace h := (if_neg hc_2007).symm.trans h
        refine g_aload_n (j := 0) C dX5_takeOutShows_46 rfl rfl ?_
        refine g_getr (k := 0) (N := 11) C sC_0 rfl zin_RX5 (by decide) rfl zfl_RX5_10 rfl dX5_takeOutShows_47 ?_
        refine g_getr (k := 3) (N := 8) C sC_1 rfl zin_RX3 (by decide) rfl zfl_RX5_210 rfl dX5_takeOutShows_50 ?_
        refine g_iload (j := 3) C dX5_takeOutShows_53 rfl ?_
        refine g_iconst (v := (nI 3)) C dX5_takeOutShows_55 (by decide) ?_
        refine g_vi (ws' := (zW cy ad shC E X)) (As := [.int v4, .int (nI 3)]) (rest := []) (res := (f_X4_get X 8 360 v4 (nI 3))) C (c_X4_get l D cy ad E X 8 360 sC_8 sC_9 (by decide) v4 (nI 3)) zml_RX5_126 zcv_X4_get (zW_get X sC_8) rfl rfl rfl ⟨Nat.le_of_ble_eq_true rfl, Nat.le_of_ble_eq_true rfl⟩ rfl rfl (Nat.le_of_ble_eq_true rfl) ⟨Nat.zero_le _, Nat.zero_le _⟩ dX5_takeOutShows_56 ?_
        refine g_istore (L' := [(6, .int (f_X4_get X 8 360 v4 (nI 3))), (0, .ref (ad 0)), (1, .int v1), (3, .int v3), (4, .int v4), (5, .int v5)]) C dX5_takeOutShows_59 (by decide) rfl ?_
        refine g_aload_n (j := 1) C dX5_takeOutShows_61 rfl rfl ?_
        refine g_getr (k := 0) (N := 11) C sC_0 rfl zin_RX5 (by decide) rfl zfl_RX5_10 rfl dX5_takeOutShows_62 ?_
        refine g_getr (k := 4) (N := 8) C sC_1 rfl zin_RX3 (by decide) rfl zfl_RX5_293 rfl dX5_takeOutShows_65 ?_
        obtain ⟨q_2008, hq_2009, h⟩ := bind_isome h
        refine g_vi (ws' := (zW cy ad shC E q_2008.2)) (As := []) (rest := []) (res := q_2008.1) C (c_X4_addRow l D cy ad E X 10 150 sC_10 sC_11 (by decide) hq_2009) zml_RX5_94 zcv_X4_addRow (zW_get X sC_10) rfl rfl rfl ⟨Nat.le_of_ble_eq_true rfl, Nat.le_of_ble_eq_true rfl⟩ rfl rfl (Nat.le_of_ble_eq_true rfl) ⟨Nat.zero_le _, Nat.zero_le _⟩ dX5_takeOutShows_68 ?_
        refine g_istore (L' := [(7, .int q_2008.1), (6, .int (f_X4_get X 8 360 v4 (nI 3))), (0, .ref (ad 0)), (1, .int v1), (3, .int v3), (4, .int v4), (5, .int v5)]) C dX5_takeOutShows_71 (by decide) rfl ?_
        refine g_aload_n (j := 2) C dX5_takeOutShows_73 rfl rfl ?_
        refine g_getr (k := 0) (N := 11) C sC_0 rfl zin_RX5 (by decide) rfl zfl_RX5_10 rfl dX5_takeOutShows_74 ?_
        refine g_getr (k := 4) (N := 8) C sC_1 rfl zin_RX3 (by decide) rfl zfl_RX5_293 rfl dX5_takeOutShows_77 ?_
        refine g_iload (j := 0) C dX5_takeOutShows_80 rfl ?_
        refine g_iconst (v := (nI 0)) C dX5_takeOutShows_82 (by decide) ?_
        refine g_iload (j := 5) C dX5_takeOutShows_83 rfl ?_
        obtain ⟨X_2010, e_2011, h⟩ := zlet_ex h
        refine g_vv (ws' := (zW cy ad shC E X_2010)) (As := [.int q_2008.1, .int (nI 0), .int v4]) (rest := []) C ((by rw [e_2011]; exact c_X4_put l D cy ad E q_2008.2 10 150 sC_10 sC_11 (by decide) q_2008.1 (nI 0) v4)) zml_RX5_97 zcv_X4_put (zW_get q_2008.2 sC_10) rfl rfl rfl ⟨Nat.le_of_ble_eq_true rfl, Nat.le_of_ble_eq_true rfl⟩ rfl rfl (Nat.le_of_ble_eq_true rfl) ⟨Nat.zero_le _, Nat.zero_le _⟩ dX5_takeOutShows_85 ?_
        refine g_aload_n (j := 2) C dX5_takeOutShows_88 rfl rfl ?_
        refine g_getr (k := 0) (N := 11) C sC_0 rfl zin_RX5 (by decide) rfl zfl_RX5_10 rfl dX5_takeOutShows_89 ?_
        refine g_getr (k := 4) (N := 8) C sC_1 rfl zin_RX3 (by decide) rfl zfl_RX5_293 rfl dX5_takeOutShows_92 ?_
        refine g_iload (j := 0) C dX5_takeOutShows_95 rfl ?_
        refine g_iconst (v := (nI 1)) C dX5_takeOutShows_97 (by decide) ?_
        refine g_iload (j := 1) C dX5_takeOutShows_98 rfl ?_
        obtain ⟨X_2012, e_2013, h⟩ := zlet_ex h
        refine g_vv (ws' := (zW cy ad shC E X_2012)) (As := [.int q_2008.1, .int (nI 1), .int (f_X4_get X 8 360 v4 (nI 3))]) (rest := []) C ((by rw [e_2013]; exact c_X4_put l D cy ad E X_2010 10 150 sC_10 sC_11 (by decide) q_2008.1 (nI 1) (f_X4_get X 8 360 v4 (nI 3)))) zml_RX5_97 zcv_X4_put (zW_get X_2010 sC_10) rfl rfl rfl ⟨Nat.le_of_ble_eq_true rfl, Nat.le_of_ble_eq_true rfl⟩ rfl rfl (Nat.le_of_ble_eq_true rfl) ⟨Nat.zero_le _, Nat.zero_le _⟩ dX5_takeOutShows_100 ?_
        refine g_aload_n (j := 2) C dX5_takeOutShows_103 rfl rfl ?_
        refine g_getr (k := 0) (N := 11) C sC_0 rfl zin_RX5 (by decide) rfl zfl_RX5_10 rfl dX5_takeOutShows_104 ?_
        refine g_getr (k := 4) (N := 8) C sC_1 rfl zin_RX3 (by decide) rfl zfl_RX5_293 rfl dX5_takeOutShows_107 ?_
        refine g_iload (j := 0) C dX5_takeOutShows_110 rfl ?_
        refine g_iconst (v := (nI 2)) C dX5_takeOutShows_112 (by decide) ?_
        refine g_iconst (v := (-1 : Int32)) C dX5_takeOutShows_113 (by decide) ?_
        obtain ⟨X_2014, e_2015, h⟩ := zlet_ex h
        refine g_vv (ws' := (zW cy ad shC E X_2014)) (As := [.int q_2008.1, .int (nI 2), .int (-1 : Int32)]) (rest := []) C ((by rw [e_2015]; exact c_X4_put l D cy ad E X_2012 10 150 sC_10 sC_11 (by decide) q_2008.1 (nI 2) (-1 : Int32))) zml_RX5_97 zcv_X4_put (zW_get X_2012 sC_10) rfl rfl rfl ⟨Nat.le_of_ble_eq_true rfl, Nat.le_of_ble_eq_true rfl⟩ rfl rfl (Nat.le_of_ble_eq_true rfl) ⟨Nat.zero_le _, Nat.zero_le _⟩ dX5_takeOutShows_114 ?_
        refine g_aload_n (j := 2) C dX5_takeOutShows_117 rfl rfl ?_
        refine g_getr (k := 0) (N := 11) C sC_0 rfl zin_RX5 (by decide) rfl zfl_RX5_10 rfl dX5_takeOutShows_118 ?_
        refine g_getr (k := 4) (N := 8) C sC_1 rfl zin_RX3 (by decide) rfl zfl_RX5_293 rfl dX5_takeOutShows_121 ?_
        refine g_iload (j := 0) C dX5_takeOutShows_124 rfl ?_
        refine g_iconst (v := (nI 3)) C dX5_takeOutShows_126 (by decide) ?_
        refine g_iconst (v := (-1 : Int32)) C dX5_takeOutShows_127 (by decide) ?_
        obtain ⟨X_2016, e_2017, h⟩ := zlet_ex h
        refine g_vv (ws' := (zW cy ad shC E X_2016)) (As := [.int q_2008.1, .int (nI 3), .int (-1 : Int32)]) (rest := []) C ((by rw [e_2017]; exact c_X4_put l D cy ad E X_2014 10 150 sC_10 sC_11 (by decide) q_2008.1 (nI 3) (-1 : Int32))) zml_RX5_97 zcv_X4_put (zW_get X_2014 sC_10) rfl rfl rfl ⟨Nat.le_of_ble_eq_true rfl, Nat.le_of_ble_eq_true rfl⟩ rfl rfl (Nat.le_of_ble_eq_true rfl) ⟨Nat.zero_le _, Nat.zero_le _⟩ dX5_takeOutShows_128 ?_
        refine g_aload_n (j := 2) C dX5_takeOutShows_131 rfl rfl ?_
        refine g_getr (k := 0) (N := 11) C sC_0 rfl zin_RX5 (by decide) rfl zfl_RX5_10 rfl dX5_takeOutShows_132 ?_
        refine g_getr (k := 4) (N := 8) C sC_1 rfl zin_RX3 (by decide) rfl zfl_RX5_293 rfl dX5_takeOutShows_135 ?_
        refine g_iload (j := 0) C dX5_takeOutShows_138 rfl ?_
        refine g_iconst (v := (nI 4)) C dX5_takeOutShows_140 (by decide) ?_
        refine g_aload_n (j := 2) C dX5_takeOutShows_141 rfl rfl ?_
        refine g_getr (k := 0) (N := 11) C sC_0 rfl zin_RX5 (by decide) rfl zfl_RX5_10 rfl dX5_takeOutShows_142 ?_
        refine g_getr (k := 3) (N := 8) C sC_1 rfl zin_RX3 (by decide) rfl zfl_RX5_210 rfl dX5_takeOutShows_145 ?_
        refine g_iload (j := 5) C dX5_takeOutShows_148 rfl ?_
        refine g_iconst (v := (nI 5)) C dX5_takeOutShows_150 (by decide) ?_
        refine g_vi (ws' := (zW cy ad shC E X_2016)) (As := [.int v4, .int (nI 5)]) (rest := [.int (nI 4), .int q_2008.1, .ref (ad 10)]) (res := (f_X4_get X_2016 8 360 v4 (nI 5))) C (c_X4_get l D cy ad E X_2016 8 360 sC_8 sC_9 (by decide) v4 (nI 5)) zml_RX5_126 zcv_X4_get (zW_get X_2016 sC_8) rfl rfl rfl ⟨Nat.le_of_ble_eq_true rfl, Nat.le_of_ble_eq_true rfl⟩ rfl rfl (Nat.le_of_ble_eq_true rfl) ⟨Nat.zero_le _, Nat.zero_le _⟩ dX5_takeOutShows_151 ?_
        obtain ⟨X_2018, e_2019, h⟩ := zlet_ex h
        refine g_vv (ws' := (zW cy ad shC E X_2018)) (As := [.int q_2008.1, .int (nI 4), .int (f_X4_get X_2016 8 360 v4 (nI 5))]) (rest := []) C ((by rw [e_2019]; exact c_X4_put l D cy ad E X_2016 10 150 sC_10 sC_11 (by decide) q_2008.1 (nI 4) (f_X4_get X_2016 8 360 v4 (nI 5)))) zml_RX5_97 zcv_X4_put (zW_get X_2016 sC_10) rfl rfl rfl ⟨Nat.le_of_ble_eq_true rfl, Nat.le_of_ble_eq_true rfl⟩ rfl rfl (Nat.le_of_ble_eq_true rfl) ⟨Nat.zero_le _, Nat.zero_le _⟩ dX5_takeOutShows_154 ?_
        refine g_aload_n (j := 2) C dX5_takeOutShows_157 rfl rfl ?_
        refine g_getr (k := 0) (N := 11) C sC_0 rfl zin_RX5 (by decide) rfl zfl_RX5_10 rfl dX5_takeOutShows_158 ?_
        refine g_getr (k := 3) (N := 8) C sC_1 rfl zin_RX3 (by decide) rfl zfl_RX5_210 rfl dX5_takeOutShows_161 ?_
        refine g_iload (j := 5) C dX5_takeOutShows_164 rfl ?_
        refine g_bipush (v := (nI 8)) C dX5_takeOutShows_166 (by decide) ?_
        refine g_iconst (v := (nI 1)) C dX5_takeOutShows_168 (by decide) ?_
        obtain ⟨X_2020, e_2021, h⟩ := zlet_ex h
        refine g_vv (ws' := (zW cy ad shC E X_2020)) (As := [.int v4, .int (nI 8), .int (nI 1)]) (rest := []) C ((by rw [e_2021]; exact c_X4_put l D cy ad E X_2018 8 360 sC_8 sC_9 (by decide) v4 (nI 8) (nI 1))) zml_RX5_97 zcv_X4_put (zW_get X_2018 sC_8) rfl rfl rfl ⟨Nat.le_of_ble_eq_true rfl, Nat.le_of_ble_eq_true rfl⟩ rfl rfl (Nat.le_of_ble_eq_true rfl) ⟨Nat.zero_le _, Nat.zero_le _⟩ dX5_takeOutShows_169 ?_
        refine g_aload_n (j := 2) C dX5_takeOutShows_172 rfl rfl ?_
        refine g_getr (k := 0) (N := 11) C sC_0 rfl zin_RX5 (by decide) rfl zfl_RX5_10 rfl dX5_takeOutShows_173 ?_
        refine g_iload_n (j := 3) C dX5_takeOutShows_176 rfl rfl ?_
        refine g_iload_n (j := 4) C dX5_takeOutShows_177 rfl rfl ?_
        refine g_iload (j := 1) C dX5_takeOutShows_178 rfl ?_
        obtain ⟨q_2022, hq_2023, h⟩ := bind_isome h
        refine g_vi (ws' := (zW cy ad shC E X_2020)) (As := [.int v1, .int v3, .int (f_X4_get X 8 360 v4 (nI 3))]) (rest := []) (res := q_2022) C (c_X3_showAfter l D cy ad E X_2020 v1 v3 (f_X4_get X 8 360 v4 (nI 3)) hq_2023) zml_RX5_302 zcv_X3_showAfter (zW_get X_2020 sC_1) rfl rfl rfl ⟨Nat.le_of_ble_eq_true rfl, Nat.le_of_ble_eq_true rfl⟩ rfl rfl (Nat.le_of_ble_eq_true rfl) ⟨Nat.zero_le _, Nat.zero_le _⟩ dX5_takeOutShows_180 ?_
        refine g_istore (L' := [(4, .int q_2022), (7, .int q_2008.1), (6, .int (f_X4_get X 8 360 v4 (nI 3))), (0, .ref (ad 0)), (1, .int v1), (3, .int v3), (5, .int v5)]) C dX5_takeOutShows_183 (by decide) rfl ?_
        refine g_iinc (k := 6) (L' := [(5, .int (v5 + 1)), (4, .int q_2022), (7, .int q_2008.1), (6, .int (f_X4_get X 8 360 v4 (nI 3))), (0, .ref (ad 0)), (1, .int v1), (3, .int v3)]) C dX5_takeOutShows_185 rfl (z_iinc (by decide)) (by decide) rfl ?_
        refine g_goto C dX5_takeOutShows_188 (tgt := 33) (by decide) ?_
        refine zG_sub (L' := [(0, .ref (ad 0)), (1, .int v1), (3, .int v3), (4, .int q_2022), (5, .int (v5 + 1))]) [4, 5, 6, 1, 0] rfl ?_
        exact ih X_2020 q_2022 (v5 + 1) h hk
def f_X5_takeOutShows_L12 (v1 : Int32) : Nat → (Nat → Nat → Int32) → Int32 → Option (Nat → Nat → Int32)
  | 0, _, _ => none
  | fu + 1, X, v3 => (if (nI 59) < v3 then some X else ((f_X3_showAfter X v1 v3 (-1 : Int32)).bind fun q_1004 => f_X5_takeOutShows_L33 (fun X_2024 => f_X5_takeOutShows_L12 v1 fu X_2024 (v3 + 1)) v1 v3 zFuel X q_1004 (nI 0)))
set_option maxRecDepth 100000 in
set_option maxHeartbeats 4000000 in
theorem w_X5_takeOutShows_L12 {p : Program} {e : Env} {s : State} {m : MethodId} {args : Array Value} {below : List Frame} {meth : Method} {c : Code} {A : Nat → Prop} (l : Launch) (D : va_G) (cy : Nat → ClassId) (ad : Nat → Nat) (E : va_W) (v1 : Int32) {res : (Nat → Nat → Int32)} (C : zC p s m args meth c cX5_takeOutShows 8 RX5 D (zTy cy) A) (hr : meth.sig.returnType = none) : ∀ (fu : Nat) (X : Nat → Nat → Int32) (v3 : Int32) (h : f_X5_takeOutShows_L12 v1 fu X v3 = some res), zG p l e (zrm 4) s m args below meth c 8 D A 0 0 (MQ below (va_Qv (fun (_ : Unit) => True) (fun _ t => zB D (zTy cy) A (zW cy ad shC E res) t) A) args s 0 0 A) (zW cy ad shC E X) 12 [(0, .ref (ad 0)), (1, .int v1), (3, .int v3)] [] := by
  intro fu
  induction fu with
  | zero => intro X v3 h; simp [f_X5_takeOutShows_L12] at h
  | succ fu ih =>
    intro X v3 h
    rw [f_X5_takeOutShows_L12] at h
    refine g_iload_n (j := 2) C dX5_takeOutShows_12 rfl rfl ?_
    refine g_bipush (v := (nI 59)) C dX5_takeOutShows_13 (by decide) ?_
    refine g_icmp_gt C dX5_takeOutShows_15 (tgt := 197) (by decide) (fun hc_1003 => ?_) (fun hc_1003 => ?_)
    · replace h := (if_pos hc_1003).symm.trans h
      obtain rfl := Option.some.inj h
      exact g_vret rfl C hr dX5_takeOutShows_197
    · replace h := (if_neg hc_1003).symm.trans h
      refine g_aload_n (j := 0) C dX5_takeOutShows_18 rfl rfl ?_
      refine g_getr (k := 0) (N := 11) C sC_0 rfl zin_RX5 (by decide) rfl zfl_RX5_10 rfl dX5_takeOutShows_19 ?_
      refine g_iload_n (j := 1) C dX5_takeOutShows_22 rfl rfl ?_
      refine g_iload_n (j := 2) C dX5_takeOutShows_23 rfl rfl ?_
      refine g_iconst (v := (-1 : Int32)) C dX5_takeOutShows_24 (by decide) ?_
      obtain ⟨q_1004, hq_1005, h⟩ := bind_isome h
      refine g_vi (ws' := (zW cy ad shC E X)) (As := [.int v1, .int v3, .int (-1 : Int32)]) (rest := []) (res := q_1004) C (c_X3_showAfter l D cy ad E X v1 v3 (-1 : Int32) hq_1005) zml_RX5_302 zcv_X3_showAfter (zW_get X sC_1) rfl rfl rfl ⟨Nat.le_of_ble_eq_true rfl, Nat.le_of_ble_eq_true rfl⟩ rfl rfl (Nat.le_of_ble_eq_true rfl) ⟨Nat.zero_le _, Nat.zero_le _⟩ dX5_takeOutShows_25 ?_
      refine g_istore (L' := [(4, .int q_1004), (0, .ref (ad 0)), (1, .int v1), (3, .int v3)]) C dX5_takeOutShows_28 (by decide) rfl ?_
      refine g_iconst (v := (nI 0)) C dX5_takeOutShows_30 (by decide) ?_
      refine g_istore (L' := [(5, .int (nI 0)), (4, .int q_1004), (0, .ref (ad 0)), (1, .int v1), (3, .int v3)]) C dX5_takeOutShows_31 (by decide) rfl ?_
      refine zG_sub (L' := [(0, .ref (ad 0)), (1, .int v1), (3, .int v3), (4, .int q_1004), (5, .int (nI 0))]) [2, 3, 4, 1, 0] rfl ?_
      refine w_X5_takeOutShows_L33 l D cy ad E _ v1 v3 C hr zFuel X q_1004 (nI 0) h ?_
      intro X_2024 h
      refine g_iinc (k := 2) (L' := [(3, .int (v3 + 1)), (0, .ref (ad 0)), (1, .int v1)]) C dX5_takeOutShows_191 rfl (z_iinc (by decide)) (by decide) rfl ?_
      refine g_goto C dX5_takeOutShows_194 (tgt := 12) (by decide) ?_
      refine zG_sub (L' := [(0, .ref (ad 0)), (1, .int v1), (3, .int (v3 + 1))]) [1, 2, 0] rfl ?_
      exact ih X_2024 (v3 + 1) h
def f_X5_takeOutShows (X : Nat → Nat → Int32) (v1 v2 : Int32) : Option (Nat → Nat → Int32) := (zlet (f_X4_clear X 10 150) fun X_1 => f_X5_takeOutShows_L12 v1 zFuel X_1 v2)
set_option maxRecDepth 100000 in
set_option maxHeartbeats 4000000 in
theorem c_X5_takeOutShows (l : Launch) (D : va_G) (cy : Nat → ClassId) (ad : Nat → Nat) (E : va_W) (X : Nat → Nat → Int32) (v1 v2 : Int32) {res : (Nat → Nat → Int32)} (h : f_X5_takeOutShows X v1 v2 = some res) : zMv l yX5_takeOutShows cX5_takeOutShows 8 none (zrm 4) D (zTy cy) (zW cy ad shC E X) [.ref (ad 0), .int v1, .int v2] (zW cy ad shC E res) := by
  refine zMv.of (by decide) (Nat.le_of_ble_eq_true rfl) ?_
  intro p e s m below meth c A C hr
  unfold f_X5_takeOutShows at h
  refine zG_L (L' := [(0, .ref (ad 0)), (1, .int v1), (2, .int v2)]) rfl ?_
  refine g_aload_n (j := 0) C dX5_takeOutShows_0 rfl rfl ?_
  refine g_getr (k := 0) (N := 11) C sC_0 rfl zin_RX5 (by decide) rfl zfl_RX5_10 rfl dX5_takeOutShows_1 ?_
  refine g_getr (k := 4) (N := 8) C sC_1 rfl zin_RX3 (by decide) rfl zfl_RX5_293 rfl dX5_takeOutShows_4 ?_
  obtain ⟨X_1, e_2, h⟩ := zlet_ex h
  refine g_vv (ws' := (zW cy ad shC E X_1)) (As := []) (rest := []) C ((by rw [e_2]; exact c_X4_clear l D cy ad E X 10 150 sC_10 sC_11 (by decide))) zml_RX5_440 zcv_X4_clear (zW_get X sC_10) rfl rfl rfl ⟨Nat.le_of_ble_eq_true rfl, Nat.le_of_ble_eq_true rfl⟩ rfl rfl (Nat.le_of_ble_eq_true rfl) ⟨Nat.zero_le _, Nat.zero_le _⟩ dX5_takeOutShows_7 ?_
  refine g_iload_n (j := 2) C dX5_takeOutShows_10 rfl rfl ?_
  refine g_istore_n (L' := [(3, .int v2), (0, .ref (ad 0)), (1, .int v1), (2, .int v2)]) C dX5_takeOutShows_11 rfl (by decide) rfl ?_
  refine zG_sub (L' := [(0, .ref (ad 0)), (1, .int v1), (3, .int v2)]) [1, 2, 0] rfl ?_
  exact w_X5_takeOutShows_L12 l D cy ad E v1 C hr zFuel X_1 v2 h
def f_X5_closeHall_L24 (v1 : Int32) : Nat → (Nat → Nat → Int32) → Int32 → Int32 → Option (Int32 × (Nat → Nat → Int32))
  | 0, _, _, _ => none
  | fu + 1, X, v3, v4 => (if (f_X4_size X 10 150) ≤ v4 then some (v3, X) else ((f_X5_isPlacedAgain X v4 v1).bind fun q_1006 => (if q_1006.1 = 0 then (zlet (f_X3_dropShow q_1006.2 (f_X4_get q_1006.2 10 150 v4 (nI 0))) fun q_1009 => f_X5_closeHall_L24 v1 fu q_1009.2 (v3 + 1) (v4 + 1)) else f_X5_closeHall_L24 v1 fu q_1006.2 v3 (v4 + 1))))
set_option maxRecDepth 100000 in
set_option maxHeartbeats 4000000 in
theorem w_X5_closeHall_L24 {p : Program} {e : Env} {s : State} {m : MethodId} {args : Array Value} {below : List Frame} {meth : Method} {c : Code} {A : Nat → Prop} (l : Launch) (D : va_G) (cy : Nat → ClassId) (ad : Nat → Nat) (E : va_W) (v1 : Int32) {res : Int32 × (Nat → Nat → Int32)} (C : zC p s m args meth c cX5_closeHall 5 RX5 D (zTy cy) A) (hr : meth.sig.returnType = (some .int)) : ∀ (fu : Nat) (X : Nat → Nat → Int32) (v3 v4 : Int32) (h : f_X5_closeHall_L24 v1 fu X v3 v4 = some res), zG p l e (zrm 5) s m args below meth c 5 D A 0 0 (MQ below (va_Qi (fun (r : Int32) (_ : Unit) => r = res.1) (fun _ t => zB D (zTy cy) A (zW cy ad shC E res.2) t) A) args s 0 0 A) (zW cy ad shC E X) 24 [(0, .ref (ad 0)), (1, .int v1), (3, .int v3), (4, .int v4)] [] := by
  intro fu
  induction fu with
  | zero => intro X v3 v4 h; simp [f_X5_closeHall_L24] at h
  | succ fu ih =>
    intro X v3 v4 h
    rw [f_X5_closeHall_L24] at h
    refine g_iload (j := 3) C dX5_closeHall_24 rfl ?_
    refine g_aload_n (j := 0) C dX5_closeHall_26 rfl rfl ?_
    refine g_getr (k := 0) (N := 11) C sC_0 rfl zin_RX5 (by decide) rfl zfl_RX5_10 rfl dX5_closeHall_27 ?_
    refine g_getr (k := 4) (N := 8) C sC_1 rfl zin_RX3 (by decide) rfl zfl_RX5_293 rfl dX5_closeHall_30 ?_
    refine g_vi (ws' := (zW cy ad shC E X)) (As := []) (rest := [.int v4]) (res := (f_X4_size X 10 150)) C (c_X4_size l D cy ad E X 10 150 sC_10 sC_11 (by decide)) zml_RX5_79 zcv_X4_size (zW_get X sC_10) rfl rfl rfl ⟨Nat.le_of_ble_eq_true rfl, Nat.le_of_ble_eq_true rfl⟩ rfl rfl (Nat.le_of_ble_eq_true rfl) ⟨Nat.zero_le _, Nat.zero_le _⟩ dX5_closeHall_33 ?_
    refine g_icmp_ge C dX5_closeHall_36 (tgt := 79) (by decide) (fun hc_1005 => ?_) (fun hc_1005 => ?_)
    · replace h := (if_pos hc_1005).symm.trans h
      refine g_iload_n (j := 2) C dX5_closeHall_79 rfl rfl ?_
      obtain rfl := Option.some.inj h
      exact g_iret rfl C hr rfl dX5_closeHall_80
    · replace h := (if_neg hc_1005).symm.trans h
      refine g_aload_n (j := 0) C dX5_closeHall_39 rfl rfl ?_
      refine g_iload (j := 3) C dX5_closeHall_40 rfl ?_
      refine g_iload_n (j := 1) C dX5_closeHall_42 rfl rfl ?_
      obtain ⟨q_1006, hq_1007, h⟩ := bind_isome h
      refine g_vi (ws' := (zW cy ad shC E q_1006.2)) (As := [.int v4, .int v1]) (rest := []) (res := q_1006.1) C (c_X5_isPlacedAgain l D cy ad E X v4 v1 hq_1007) zml_RX5_437 zcv_X5_isPlacedAgain (zW_get X sC_0) rfl rfl rfl ⟨Nat.le_of_ble_eq_true rfl, Nat.le_of_ble_eq_true rfl⟩ rfl rfl (Nat.le_of_ble_eq_true rfl) ⟨Nat.zero_le _, Nat.zero_le _⟩ dX5_closeHall_43 ?_
      refine g_if_ne C dX5_closeHall_46 (tgt := 73) (by decide) (fun hc_1008 => ?_) (fun hc_1008 => ?_)
      · replace h := (if_neg hc_1008).symm.trans h
        refine g_iinc (k := 3) (L' := [(4, .int (v4 + 1)), (0, .ref (ad 0)), (1, .int v1), (3, .int v3)]) C dX5_closeHall_73 rfl (z_iinc (by decide)) (by decide) rfl ?_
        refine g_goto C dX5_closeHall_76 (tgt := 24) (by decide) ?_
        refine zG_sub (L' := [(0, .ref (ad 0)), (1, .int v1), (3, .int v3), (4, .int (v4 + 1))]) [1, 2, 3, 0] rfl ?_
        exact ih q_1006.2 v3 (v4 + 1) h
      · replace h := (if_pos hc_1008).symm.trans h
        refine g_aload_n (j := 0) C dX5_closeHall_49 rfl rfl ?_
        refine g_getr (k := 0) (N := 11) C sC_0 rfl zin_RX5 (by decide) rfl zfl_RX5_10 rfl dX5_closeHall_50 ?_
        refine g_aload_n (j := 0) C dX5_closeHall_53 rfl rfl ?_
        refine g_getr (k := 0) (N := 11) C sC_0 rfl zin_RX5 (by decide) rfl zfl_RX5_10 rfl dX5_closeHall_54 ?_
        refine g_getr (k := 4) (N := 8) C sC_1 rfl zin_RX3 (by decide) rfl zfl_RX5_293 rfl dX5_closeHall_57 ?_
        refine g_iload (j := 3) C dX5_closeHall_60 rfl ?_
        refine g_iconst (v := (nI 0)) C dX5_closeHall_62 (by decide) ?_
        refine g_vi (ws' := (zW cy ad shC E q_1006.2)) (As := [.int v4, .int (nI 0)]) (rest := [.ref (ad 1)]) (res := (f_X4_get q_1006.2 10 150 v4 (nI 0))) C (c_X4_get l D cy ad E q_1006.2 10 150 sC_10 sC_11 (by decide) v4 (nI 0)) zml_RX5_126 zcv_X4_get (zW_get q_1006.2 sC_10) rfl rfl rfl ⟨Nat.le_of_ble_eq_true rfl, Nat.le_of_ble_eq_true rfl⟩ rfl rfl (Nat.le_of_ble_eq_true rfl) ⟨Nat.zero_le _, Nat.zero_le _⟩ dX5_closeHall_63 ?_
        obtain ⟨q_1009, e_1010, h⟩ := zlet_ex h
        refine g_vi (ws' := (zW cy ad shC E q_1009.2)) (As := [.int (f_X4_get q_1006.2 10 150 v4 (nI 0))]) (rest := []) (res := q_1009.1) C ((by rw [e_1010]; exact c_X3_dropShow l D cy ad E q_1006.2 (f_X4_get q_1006.2 10 150 v4 (nI 0)))) zml_RX5_243 zcv_X3_dropShow (zW_get q_1006.2 sC_1) rfl rfl rfl ⟨Nat.le_of_ble_eq_true rfl, Nat.le_of_ble_eq_true rfl⟩ rfl rfl (Nat.le_of_ble_eq_true rfl) ⟨Nat.zero_le _, Nat.zero_le _⟩ dX5_closeHall_66 ?_
        refine g_pop C dX5_closeHall_69 rfl ?_
        refine g_iinc (k := 2) (L' := [(3, .int (v3 + 1)), (0, .ref (ad 0)), (1, .int v1), (4, .int v4)]) C dX5_closeHall_70 rfl (z_iinc (by decide)) (by decide) rfl ?_
        refine g_iinc (k := 3) (L' := [(4, .int (v4 + 1)), (3, .int (v3 + 1)), (0, .ref (ad 0)), (1, .int v1)]) C dX5_closeHall_73 rfl (z_iinc (by decide)) (by decide) rfl ?_
        refine g_goto C dX5_closeHall_76 (tgt := 24) (by decide) ?_
        refine zG_sub (L' := [(0, .ref (ad 0)), (1, .int v1), (3, .int (v3 + 1)), (4, .int (v4 + 1))]) [2, 3, 1, 0] rfl ?_
        exact ih q_1009.2 (v3 + 1) (v4 + 1) h
def f_X5_closeHall (X : Nat → Nat → Int32) (v1 v2 : Int32) : Option (Int32 × (Nat → Nat → Int32)) := (zlet (f_X4_put X 2 24 v1 (nI 3) v2) fun X_1 => ((f_X5_takeOutShows X_1 v1 v2).bind fun q_3 => f_X5_closeHall_L24 v1 zFuel q_3 (nI 0) (nI 0)))
set_option maxRecDepth 100000 in
set_option maxHeartbeats 4000000 in
theorem c_X5_closeHall (l : Launch) (D : va_G) (cy : Nat → ClassId) (ad : Nat → Nat) (E : va_W) (X : Nat → Nat → Int32) (v1 v2 : Int32) {res : Int32 × (Nat → Nat → Int32)} (h : f_X5_closeHall X v1 v2 = some res) : zMi l yX5_closeHall cX5_closeHall 5 (some .int) (zrm 5) D (zTy cy) (zW cy ad shC E X) [.ref (ad 0), .int v1, .int v2] res.1 (zW cy ad shC E res.2) := by
  refine zMi.of (by decide) (Nat.le_of_ble_eq_true rfl) ?_
  intro p e s m below meth c A C hr
  unfold f_X5_closeHall at h
  refine zG_L (L' := [(0, .ref (ad 0)), (1, .int v1), (2, .int v2)]) rfl ?_
  refine g_aload_n (j := 0) C dX5_closeHall_0 rfl rfl ?_
  refine g_getr (k := 0) (N := 11) C sC_0 rfl zin_RX5 (by decide) rfl zfl_RX5_10 rfl dX5_closeHall_1 ?_
  refine g_getr (k := 0) (N := 8) C sC_1 rfl zin_RX3 (by decide) rfl zfl_RX5_75 rfl dX5_closeHall_4 ?_
  refine g_iload_n (j := 1) C dX5_closeHall_7 rfl rfl ?_
  refine g_iconst (v := (nI 3)) C dX5_closeHall_8 (by decide) ?_
  refine g_iload_n (j := 2) C dX5_closeHall_9 rfl rfl ?_
  obtain ⟨X_1, e_2, h⟩ := zlet_ex h
  refine g_vv (ws' := (zW cy ad shC E X_1)) (As := [.int v1, .int (nI 3), .int v2]) (rest := []) C ((by rw [e_2]; exact c_X4_put l D cy ad E X 2 24 sC_2 sC_3 (by decide) v1 (nI 3) v2)) zml_RX5_97 zcv_X4_put (zW_get X sC_2) rfl rfl rfl ⟨Nat.le_of_ble_eq_true rfl, Nat.le_of_ble_eq_true rfl⟩ rfl rfl (Nat.le_of_ble_eq_true rfl) ⟨Nat.zero_le _, Nat.zero_le _⟩ dX5_closeHall_10 ?_
  refine g_aload_n (j := 0) C dX5_closeHall_13 rfl rfl ?_
  refine g_iload_n (j := 1) C dX5_closeHall_14 rfl rfl ?_
  refine g_iload_n (j := 2) C dX5_closeHall_15 rfl rfl ?_
  obtain ⟨q_3, hq_4, h⟩ := bind_isome h
  refine g_vv (ws' := (zW cy ad shC E q_3)) (As := [.int v1, .int v2]) (rest := []) C (c_X5_takeOutShows l D cy ad E X_1 v1 v2 hq_4) zml_RX5_434 zcv_X5_takeOutShows (zW_get X_1 sC_0) rfl rfl rfl ⟨Nat.le_of_ble_eq_true rfl, Nat.le_of_ble_eq_true rfl⟩ rfl rfl (Nat.le_of_ble_eq_true rfl) ⟨Nat.zero_le _, Nat.zero_le _⟩ dX5_closeHall_16 ?_
  refine g_iconst (v := (nI 0)) C dX5_closeHall_19 (by decide) ?_
  refine g_istore_n (L' := [(3, .int (nI 0)), (0, .ref (ad 0)), (1, .int v1), (2, .int v2)]) C dX5_closeHall_20 rfl (by decide) rfl ?_
  refine g_iconst (v := (nI 0)) C dX5_closeHall_21 (by decide) ?_
  refine g_istore (L' := [(4, .int (nI 0)), (3, .int (nI 0)), (0, .ref (ad 0)), (1, .int v1), (2, .int v2)]) C dX5_closeHall_22 (by decide) rfl ?_
  refine zG_sub (L' := [(0, .ref (ad 0)), (1, .int v1), (3, .int (nI 0)), (4, .int (nI 0))]) [2, 3, 1, 0] rfl ?_
  exact w_X5_closeHall_L24 l D cy ad E v1 C hr zFuel q_3 (nI 0) (nI 0) h
def f_X5_isCarriedOut (X : Nat → Nat → Int32) (v1 : Int32) : Option (Int32 × (Nat → Nat → Int32)) := (if (f_X4_get X 150 40 v1 (nI 0)) = (nI 0) then ((f_X5_faultOfPlan X (f_X4_get X 150 40 v1 (nI 1)) (f_X4_get X 150 40 v1 (nI 2)) (f_X4_get X 150 40 v1 (nI 3)) (f_X4_get X 150 40 v1 (nI 4))).bind fun q_2 => (if q_2.1 = 0 then ((f_X3_addShow q_2.2 (f_X4_get X 150 40 v1 (nI 1)) (f_X4_get X 150 40 v1 (nI 2)) (f_X4_get X 150 40 v1 (nI 3)) (f_X4_get X 150 40 v1 (nI 4))).bind fun q_5 => some ((nI 1), q_5.2)) else some ((nI 0), q_2.2))) else (if (f_X4_get X 150 40 v1 (nI 0)) = (nI 1) then (zlet (f_X5_faultOfSell X (f_X4_get X 150 40 v1 (nI 1)) (f_X4_get X 150 40 v1 (nI 2))) fun q_8 => (if q_8.1 = 0 then (zlet (f_X3_addTickets q_8.2 (f_X4_get X 150 40 v1 (nI 1)) (f_X4_get X 150 40 v1 (nI 2))) fun q_11 => some ((nI 1), q_11.2)) else some ((nI 0), q_8.2))) else (if (f_X4_get X 150 40 v1 (nI 0)) = (nI 2) then (if (f_X5_faultOfCancel X (f_X4_get X 150 40 v1 (nI 1))) = 0 then (zlet (f_X3_dropShow X (f_X4_get X 150 40 v1 (nI 1))) fun q_15 => some ((nI 1), q_15.2)) else some ((nI 0), X)) else (if (f_X4_get X 150 40 v1 (nI 0)) = (nI 3) then (if (f_X5_faultOfFail X (f_X4_get X 150 40 v1 (nI 1)) (f_X4_get X 150 40 v1 (nI 2))) = 0 then ((f_X5_closeHall X (f_X4_get X 150 40 v1 (nI 1)) (f_X4_get X 150 40 v1 (nI 2))).bind fun q_19 => some ((nI 1), q_19.2)) else some ((nI 0), X)) else (if (f_X4_get X 150 40 v1 (nI 0)) = (nI 4) then (if (f_X5_faultOfAdvance X (f_X4_get X 150 40 v1 (nI 1))) = 0 then (zlet (zU X 1 6 ((X 1 6) + (f_X4_get X 150 40 v1 (nI 1)))) fun X_23 => some ((nI 1), X_23)) else some ((nI 0), X)) else (if (f_X5_faultOfAdvance X (f_X4_get X 150 40 v1 (nI 1))) = 0 then (zlet (zU X 1 6 ((X 1 6) + (f_X4_get X 150 40 v1 (nI 1)))) fun X_26 => some ((nI 1), X_26)) else some ((nI 0), X)))))))
set_option maxRecDepth 100000 in
set_option maxHeartbeats 4000000 in
theorem c_X5_isCarriedOut (l : Launch) (D : va_G) (cy : Nat → ClassId) (ad : Nat → Nat) (E : va_W) (X : Nat → Nat → Int32) (v1 : Int32) {res : Int32 × (Nat → Nat → Int32)} (h : f_X5_isCarriedOut X v1 = some res) : zMi l yX5_isCarriedOut cX5_isCarriedOut 7 (some .boolean) (zrm 6) D (zTy cy) (zW cy ad shC E X) [.ref (ad 0), .int v1] res.1 (zW cy ad shC E res.2) := by
  refine zMi.of (by decide) (Nat.le_of_ble_eq_true rfl) ?_
  intro p e s m below meth c A C hr
  unfold f_X5_isCarriedOut at h
  refine zG_L (L' := [(0, .ref (ad 0)), (1, .int v1)]) rfl ?_
  refine g_aload_n (j := 0) C dX5_isCarriedOut_0 rfl rfl ?_
  refine g_getr (k := 4) (N := 11) C sC_0 rfl zin_RX5 (by decide) rfl zfl_RX5_36 rfl dX5_isCarriedOut_1 ?_
  refine g_getr (k := 0) (N := 2) C sC_149 rfl zin_RX1 (by decide) rfl zfl_RX5_392 rfl dX5_isCarriedOut_4 ?_
  refine g_iload_n (j := 1) C dX5_isCarriedOut_7 rfl rfl ?_
  refine g_iconst (v := (nI 1)) C dX5_isCarriedOut_8 (by decide) ?_
  refine g_vi (ws' := (zW cy ad shC E X)) (As := [.int v1, .int (nI 1)]) (rest := []) (res := (f_X4_get X 150 40 v1 (nI 1))) C (c_X4_get l D cy ad E X 150 40 sC_150 sC_151 (by decide) v1 (nI 1)) zml_RX5_126 zcv_X4_get (zW_get X sC_150) rfl rfl rfl ⟨Nat.le_of_ble_eq_true rfl, Nat.le_of_ble_eq_true rfl⟩ rfl rfl (Nat.le_of_ble_eq_true rfl) ⟨Nat.zero_le _, Nat.zero_le _⟩ dX5_isCarriedOut_9 ?_
  refine g_istore_n (L' := [(2, .int (f_X4_get X 150 40 v1 (nI 1))), (0, .ref (ad 0)), (1, .int v1)]) C dX5_isCarriedOut_12 rfl (by decide) rfl ?_
  refine g_aload_n (j := 1) C dX5_isCarriedOut_13 rfl rfl ?_
  refine g_getr (k := 4) (N := 11) C sC_0 rfl zin_RX5 (by decide) rfl zfl_RX5_36 rfl dX5_isCarriedOut_14 ?_
  refine g_getr (k := 0) (N := 2) C sC_149 rfl zin_RX1 (by decide) rfl zfl_RX5_392 rfl dX5_isCarriedOut_17 ?_
  refine g_iload_n (j := 2) C dX5_isCarriedOut_20 rfl rfl ?_
  refine g_iconst (v := (nI 2)) C dX5_isCarriedOut_21 (by decide) ?_
  refine g_vi (ws' := (zW cy ad shC E X)) (As := [.int v1, .int (nI 2)]) (rest := []) (res := (f_X4_get X 150 40 v1 (nI 2))) C (c_X4_get l D cy ad E X 150 40 sC_150 sC_151 (by decide) v1 (nI 2)) zml_RX5_126 zcv_X4_get (zW_get X sC_150) rfl rfl rfl ⟨Nat.le_of_ble_eq_true rfl, Nat.le_of_ble_eq_true rfl⟩ rfl rfl (Nat.le_of_ble_eq_true rfl) ⟨Nat.zero_le _, Nat.zero_le _⟩ dX5_isCarriedOut_22 ?_
  refine g_istore_n (L' := [(3, .int (f_X4_get X 150 40 v1 (nI 2))), (2, .int (f_X4_get X 150 40 v1 (nI 1))), (0, .ref (ad 0)), (1, .int v1)]) C dX5_isCarriedOut_25 rfl (by decide) rfl ?_
  refine g_aload_n (j := 2) C dX5_isCarriedOut_26 rfl rfl ?_
  refine g_getr (k := 4) (N := 11) C sC_0 rfl zin_RX5 (by decide) rfl zfl_RX5_36 rfl dX5_isCarriedOut_27 ?_
  refine g_getr (k := 0) (N := 2) C sC_149 rfl zin_RX1 (by decide) rfl zfl_RX5_392 rfl dX5_isCarriedOut_30 ?_
  refine g_iload_n (j := 3) C dX5_isCarriedOut_33 rfl rfl ?_
  refine g_iconst (v := (nI 3)) C dX5_isCarriedOut_34 (by decide) ?_
  refine g_vi (ws' := (zW cy ad shC E X)) (As := [.int v1, .int (nI 3)]) (rest := []) (res := (f_X4_get X 150 40 v1 (nI 3))) C (c_X4_get l D cy ad E X 150 40 sC_150 sC_151 (by decide) v1 (nI 3)) zml_RX5_126 zcv_X4_get (zW_get X sC_150) rfl rfl rfl ⟨Nat.le_of_ble_eq_true rfl, Nat.le_of_ble_eq_true rfl⟩ rfl rfl (Nat.le_of_ble_eq_true rfl) ⟨Nat.zero_le _, Nat.zero_le _⟩ dX5_isCarriedOut_35 ?_
  refine g_istore (L' := [(4, .int (f_X4_get X 150 40 v1 (nI 3))), (3, .int (f_X4_get X 150 40 v1 (nI 2))), (2, .int (f_X4_get X 150 40 v1 (nI 1))), (0, .ref (ad 0)), (1, .int v1)]) C dX5_isCarriedOut_38 (by decide) rfl ?_
  refine g_aload_n (j := 3) C dX5_isCarriedOut_40 rfl rfl ?_
  refine g_getr (k := 4) (N := 11) C sC_0 rfl zin_RX5 (by decide) rfl zfl_RX5_36 rfl dX5_isCarriedOut_41 ?_
  refine g_getr (k := 0) (N := 2) C sC_149 rfl zin_RX1 (by decide) rfl zfl_RX5_392 rfl dX5_isCarriedOut_44 ?_
  refine g_iload_n (j := 4) C dX5_isCarriedOut_47 rfl rfl ?_
  refine g_iconst (v := (nI 4)) C dX5_isCarriedOut_48 (by decide) ?_
  refine g_vi (ws' := (zW cy ad shC E X)) (As := [.int v1, .int (nI 4)]) (rest := []) (res := (f_X4_get X 150 40 v1 (nI 4))) C (c_X4_get l D cy ad E X 150 40 sC_150 sC_151 (by decide) v1 (nI 4)) zml_RX5_126 zcv_X4_get (zW_get X sC_150) rfl rfl rfl ⟨Nat.le_of_ble_eq_true rfl, Nat.le_of_ble_eq_true rfl⟩ rfl rfl (Nat.le_of_ble_eq_true rfl) ⟨Nat.zero_le _, Nat.zero_le _⟩ dX5_isCarriedOut_49 ?_
  refine g_istore (L' := [(5, .int (f_X4_get X 150 40 v1 (nI 4))), (4, .int (f_X4_get X 150 40 v1 (nI 3))), (3, .int (f_X4_get X 150 40 v1 (nI 2))), (2, .int (f_X4_get X 150 40 v1 (nI 1))), (0, .ref (ad 0)), (1, .int v1)]) C dX5_isCarriedOut_52 (by decide) rfl ?_
  refine g_aload_n (j := 4) C dX5_isCarriedOut_54 rfl rfl ?_
  refine g_getr (k := 4) (N := 11) C sC_0 rfl zin_RX5 (by decide) rfl zfl_RX5_36 rfl dX5_isCarriedOut_55 ?_
  refine g_getr (k := 0) (N := 2) C sC_149 rfl zin_RX1 (by decide) rfl zfl_RX5_392 rfl dX5_isCarriedOut_58 ?_
  refine g_iload_n (j := 5) C dX5_isCarriedOut_61 rfl rfl ?_
  refine g_iconst (v := (nI 0)) C dX5_isCarriedOut_62 (by decide) ?_
  refine g_vi (ws' := (zW cy ad shC E X)) (As := [.int v1, .int (nI 0)]) (rest := []) (res := (f_X4_get X 150 40 v1 (nI 0))) C (c_X4_get l D cy ad E X 150 40 sC_150 sC_151 (by decide) v1 (nI 0)) zml_RX5_126 zcv_X4_get (zW_get X sC_150) rfl rfl rfl ⟨Nat.le_of_ble_eq_true rfl, Nat.le_of_ble_eq_true rfl⟩ rfl rfl (Nat.le_of_ble_eq_true rfl) ⟨Nat.zero_le _, Nat.zero_le _⟩ dX5_isCarriedOut_63 ?_
  by_cases hc_1 : (f_X4_get X 150 40 v1 (nI 0)) = (nI 0)
  · replace h := (if_pos hc_1).symm.trans h
    refine g_tabEq C dX5_isCarriedOut_66 hc_1 (by decide) (by decide) rfl (tgt := 100) (by decide) ?_
    refine g_aload_n (j := 4) C dX5_isCarriedOut_100 rfl rfl ?_
    refine g_iload_n (j := 3) C dX5_isCarriedOut_101 rfl rfl ?_
    refine g_iload_n (j := 2) C dX5_isCarriedOut_102 rfl rfl ?_
    refine g_iload (j := 1) C dX5_isCarriedOut_103 rfl ?_
    refine g_iload (j := 0) C dX5_isCarriedOut_105 rfl ?_
    obtain ⟨q_2, hq_3, h⟩ := bind_isome h
    refine g_vi (ws' := (zW cy ad shC E q_2.2)) (As := [.int (f_X4_get X 150 40 v1 (nI 1)), .int (f_X4_get X 150 40 v1 (nI 2)), .int (f_X4_get X 150 40 v1 (nI 3)), .int (f_X4_get X 150 40 v1 (nI 4))]) (rest := []) (res := q_2.1) C (c_X5_faultOfPlan l D cy ad E X (f_X4_get X 150 40 v1 (nI 1)) (f_X4_get X 150 40 v1 (nI 2)) (f_X4_get X 150 40 v1 (nI 3)) (f_X4_get X 150 40 v1 (nI 4)) hq_3) zml_RX5_194 zcv_X5_faultOfPlan (zW_get X sC_0) rfl rfl rfl ⟨Nat.le_of_ble_eq_true rfl, Nat.le_of_ble_eq_true rfl⟩ rfl rfl (Nat.le_of_ble_eq_true rfl) ⟨Nat.zero_le _, Nat.zero_le _⟩ dX5_isCarriedOut_107 ?_
    refine g_istore (L' := [(6, .int q_2.1), (5, .int (f_X4_get X 150 40 v1 (nI 4))), (4, .int (f_X4_get X 150 40 v1 (nI 3))), (3, .int (f_X4_get X 150 40 v1 (nI 2))), (2, .int (f_X4_get X 150 40 v1 (nI 1))), (0, .ref (ad 0)), (1, .int v1)]) C dX5_isCarriedOut_110 (by decide) rfl ?_
    refine g_iload (j := 0) C dX5_isCarriedOut_112 rfl ?_
    refine g_if_ne C dX5_isCarriedOut_114 (tgt := 232) (by decide) (fun hc_4 => ?_) (fun hc_4 => ?_)
    · replace h := (if_neg hc_4).symm.trans h
      refine g_iload (j := 0) C dX5_isCarriedOut_232 rfl ?_
      refine g_if_ne C dX5_isCarriedOut_234 (tgt := 241) (by decide) (fun _ => ?_) (fun h9 => absurd h9 hc_4)
      refine g_iconst (v := (nI 0)) C dX5_isCarriedOut_241 (by decide) ?_
      obtain rfl := Option.some.inj h
      exact g_iret rfl C hr (z_nb (Or.inl rfl)) dX5_isCarriedOut_242
    · replace h := (if_pos hc_4).symm.trans h
      refine g_aload_n (j := 5) C dX5_isCarriedOut_117 rfl rfl ?_
      refine g_getr (k := 0) (N := 11) C sC_0 rfl zin_RX5 (by decide) rfl zfl_RX5_10 rfl dX5_isCarriedOut_118 ?_
      refine g_iload_n (j := 4) C dX5_isCarriedOut_121 rfl rfl ?_
      refine g_iload_n (j := 3) C dX5_isCarriedOut_122 rfl rfl ?_
      refine g_iload (j := 2) C dX5_isCarriedOut_123 rfl ?_
      refine g_iload (j := 1) C dX5_isCarriedOut_125 rfl ?_
      obtain ⟨q_5, hq_6, h⟩ := bind_isome h
      refine g_vi (ws' := (zW cy ad shC E q_5.2)) (As := [.int (f_X4_get X 150 40 v1 (nI 1)), .int (f_X4_get X 150 40 v1 (nI 2)), .int (f_X4_get X 150 40 v1 (nI 3)), .int (f_X4_get X 150 40 v1 (nI 4))]) (rest := []) (res := q_5.1) C (c_X3_addShow l D cy ad E q_2.2 (f_X4_get X 150 40 v1 (nI 1)) (f_X4_get X 150 40 v1 (nI 2)) (f_X4_get X 150 40 v1 (nI 3)) (f_X4_get X 150 40 v1 (nI 4)) hq_6) zml_RX5_207 zcv_X3_addShow (zW_get q_2.2 sC_1) rfl rfl rfl ⟨Nat.le_of_ble_eq_true rfl, Nat.le_of_ble_eq_true rfl⟩ rfl rfl (Nat.le_of_ble_eq_true rfl) ⟨Nat.zero_le _, Nat.zero_le _⟩ dX5_isCarriedOut_127 ?_
      refine g_pop C dX5_isCarriedOut_130 rfl ?_
      refine g_goto C dX5_isCarriedOut_131 (tgt := 232) (by decide) ?_
      refine g_iload (j := 0) C dX5_isCarriedOut_232 rfl ?_
      refine g_if_ne C dX5_isCarriedOut_234 (tgt := 241) (by decide) (fun h9 => absurd hc_4 h9) (fun _ => ?_)
      refine g_iconst (v := (nI 1)) C dX5_isCarriedOut_237 (by decide) ?_
      refine g_goto C dX5_isCarriedOut_238 (tgt := 242) (by decide) ?_
      obtain rfl := Option.some.inj h
      exact g_iret rfl C hr (z_nb (Or.inr rfl)) dX5_isCarriedOut_242
  replace h := (if_neg hc_1).symm.trans h
  by_cases hc_7 : (f_X4_get X 150 40 v1 (nI 0)) = (nI 1)
  · replace h := (if_pos hc_7).symm.trans h
    refine g_tabEq C dX5_isCarriedOut_66 hc_7 (by decide) (by decide) rfl (tgt := 134) (by decide) ?_
    refine g_aload_n (j := 4) C dX5_isCarriedOut_134 rfl rfl ?_
    refine g_iload_n (j := 3) C dX5_isCarriedOut_135 rfl rfl ?_
    refine g_iload_n (j := 2) C dX5_isCarriedOut_136 rfl rfl ?_
    obtain ⟨q_8, e_9, h⟩ := zlet_ex h
    refine g_vi (ws' := (zW cy ad shC E q_8.2)) (As := [.int (f_X4_get X 150 40 v1 (nI 1)), .int (f_X4_get X 150 40 v1 (nI 2))]) (rest := []) (res := q_8.1) C ((by rw [e_9]; exact c_X5_faultOfSell l D cy ad E X (f_X4_get X 150 40 v1 (nI 1)) (f_X4_get X 150 40 v1 (nI 2)))) zml_RX5_246 zcv_X5_faultOfSell (zW_get X sC_0) rfl rfl rfl ⟨Nat.le_of_ble_eq_true rfl, Nat.le_of_ble_eq_true rfl⟩ rfl rfl (Nat.le_of_ble_eq_true rfl) ⟨Nat.zero_le _, Nat.zero_le _⟩ dX5_isCarriedOut_137 ?_
    refine g_istore (L' := [(6, .int q_8.1), (5, .int (f_X4_get X 150 40 v1 (nI 4))), (4, .int (f_X4_get X 150 40 v1 (nI 3))), (3, .int (f_X4_get X 150 40 v1 (nI 2))), (2, .int (f_X4_get X 150 40 v1 (nI 1))), (0, .ref (ad 0)), (1, .int v1)]) C dX5_isCarriedOut_140 (by decide) rfl ?_
    refine g_iload (j := 0) C dX5_isCarriedOut_142 rfl ?_
    refine g_if_ne C dX5_isCarriedOut_144 (tgt := 232) (by decide) (fun hc_10 => ?_) (fun hc_10 => ?_)
    · replace h := (if_neg hc_10).symm.trans h
      refine g_iload (j := 0) C dX5_isCarriedOut_232 rfl ?_
      refine g_if_ne C dX5_isCarriedOut_234 (tgt := 241) (by decide) (fun _ => ?_) (fun h9 => absurd h9 hc_10)
      refine g_iconst (v := (nI 0)) C dX5_isCarriedOut_241 (by decide) ?_
      obtain rfl := Option.some.inj h
      exact g_iret rfl C hr (z_nb (Or.inl rfl)) dX5_isCarriedOut_242
    · replace h := (if_pos hc_10).symm.trans h
      refine g_aload_n (j := 5) C dX5_isCarriedOut_147 rfl rfl ?_
      refine g_getr (k := 0) (N := 11) C sC_0 rfl zin_RX5 (by decide) rfl zfl_RX5_10 rfl dX5_isCarriedOut_148 ?_
      refine g_iload_n (j := 4) C dX5_isCarriedOut_151 rfl rfl ?_
      refine g_iload_n (j := 3) C dX5_isCarriedOut_152 rfl rfl ?_
      obtain ⟨q_11, e_12, h⟩ := zlet_ex h
      refine g_vi (ws' := (zW cy ad shC E q_11.2)) (As := [.int (f_X4_get X 150 40 v1 (nI 1)), .int (f_X4_get X 150 40 v1 (nI 2))]) (rest := []) (res := q_11.1) C ((by rw [e_12]; exact c_X3_addTickets l D cy ad E q_8.2 (f_X4_get X 150 40 v1 (nI 1)) (f_X4_get X 150 40 v1 (nI 2)))) zml_RX5_253 zcv_X3_addTickets (zW_get q_8.2 sC_1) rfl rfl rfl ⟨Nat.le_of_ble_eq_true rfl, Nat.le_of_ble_eq_true rfl⟩ rfl rfl (Nat.le_of_ble_eq_true rfl) ⟨Nat.zero_le _, Nat.zero_le _⟩ dX5_isCarriedOut_153 ?_
      refine g_pop C dX5_isCarriedOut_156 rfl ?_
      refine g_goto C dX5_isCarriedOut_157 (tgt := 232) (by decide) ?_
      refine g_iload (j := 0) C dX5_isCarriedOut_232 rfl ?_
      refine g_if_ne C dX5_isCarriedOut_234 (tgt := 241) (by decide) (fun h9 => absurd hc_10 h9) (fun _ => ?_)
      refine g_iconst (v := (nI 1)) C dX5_isCarriedOut_237 (by decide) ?_
      refine g_goto C dX5_isCarriedOut_238 (tgt := 242) (by decide) ?_
      obtain rfl := Option.some.inj h
      exact g_iret rfl C hr (z_nb (Or.inr rfl)) dX5_isCarriedOut_242
  replace h := (if_neg hc_7).symm.trans h
  by_cases hc_13 : (f_X4_get X 150 40 v1 (nI 0)) = (nI 2)
  · replace h := (if_pos hc_13).symm.trans h
    refine g_tabEq C dX5_isCarriedOut_66 hc_13 (by decide) (by decide) rfl (tgt := 160) (by decide) ?_
    refine g_aload_n (j := 4) C dX5_isCarriedOut_160 rfl rfl ?_
    refine g_iload_n (j := 3) C dX5_isCarriedOut_161 rfl rfl ?_
    refine g_vi (ws' := (zW cy ad shC E X)) (As := [.int (f_X4_get X 150 40 v1 (nI 1))]) (rest := []) (res := (f_X5_faultOfCancel X (f_X4_get X 150 40 v1 (nI 1)))) C (c_X5_faultOfCancel l D cy ad E X (f_X4_get X 150 40 v1 (nI 1))) zml_RX5_238 zcv_X5_faultOfCancel (zW_get X sC_0) rfl rfl rfl ⟨Nat.le_of_ble_eq_true rfl, Nat.le_of_ble_eq_true rfl⟩ rfl rfl (Nat.le_of_ble_eq_true rfl) ⟨Nat.zero_le _, Nat.zero_le _⟩ dX5_isCarriedOut_162 ?_
    refine g_istore (L' := [(6, .int (f_X5_faultOfCancel X (f_X4_get X 150 40 v1 (nI 1)))), (5, .int (f_X4_get X 150 40 v1 (nI 4))), (4, .int (f_X4_get X 150 40 v1 (nI 3))), (3, .int (f_X4_get X 150 40 v1 (nI 2))), (2, .int (f_X4_get X 150 40 v1 (nI 1))), (0, .ref (ad 0)), (1, .int v1)]) C dX5_isCarriedOut_165 (by decide) rfl ?_
    refine g_iload (j := 0) C dX5_isCarriedOut_167 rfl ?_
    refine g_if_ne C dX5_isCarriedOut_169 (tgt := 232) (by decide) (fun hc_14 => ?_) (fun hc_14 => ?_)
    · replace h := (if_neg hc_14).symm.trans h
      refine g_iload (j := 0) C dX5_isCarriedOut_232 rfl ?_
      refine g_if_ne C dX5_isCarriedOut_234 (tgt := 241) (by decide) (fun _ => ?_) (fun h9 => absurd h9 hc_14)
      refine g_iconst (v := (nI 0)) C dX5_isCarriedOut_241 (by decide) ?_
      obtain rfl := Option.some.inj h
      exact g_iret rfl C hr (z_nb (Or.inl rfl)) dX5_isCarriedOut_242
    · replace h := (if_pos hc_14).symm.trans h
      refine g_aload_n (j := 5) C dX5_isCarriedOut_172 rfl rfl ?_
      refine g_getr (k := 0) (N := 11) C sC_0 rfl zin_RX5 (by decide) rfl zfl_RX5_10 rfl dX5_isCarriedOut_173 ?_
      refine g_iload_n (j := 4) C dX5_isCarriedOut_176 rfl rfl ?_
      obtain ⟨q_15, e_16, h⟩ := zlet_ex h
      refine g_vi (ws' := (zW cy ad shC E q_15.2)) (As := [.int (f_X4_get X 150 40 v1 (nI 1))]) (rest := []) (res := q_15.1) C ((by rw [e_16]; exact c_X3_dropShow l D cy ad E X (f_X4_get X 150 40 v1 (nI 1)))) zml_RX5_243 zcv_X3_dropShow (zW_get X sC_1) rfl rfl rfl ⟨Nat.le_of_ble_eq_true rfl, Nat.le_of_ble_eq_true rfl⟩ rfl rfl (Nat.le_of_ble_eq_true rfl) ⟨Nat.zero_le _, Nat.zero_le _⟩ dX5_isCarriedOut_177 ?_
      refine g_pop C dX5_isCarriedOut_180 rfl ?_
      refine g_goto C dX5_isCarriedOut_181 (tgt := 232) (by decide) ?_
      refine g_iload (j := 0) C dX5_isCarriedOut_232 rfl ?_
      refine g_if_ne C dX5_isCarriedOut_234 (tgt := 241) (by decide) (fun h9 => absurd hc_14 h9) (fun _ => ?_)
      refine g_iconst (v := (nI 1)) C dX5_isCarriedOut_237 (by decide) ?_
      refine g_goto C dX5_isCarriedOut_238 (tgt := 242) (by decide) ?_
      obtain rfl := Option.some.inj h
      exact g_iret rfl C hr (z_nb (Or.inr rfl)) dX5_isCarriedOut_242
  replace h := (if_neg hc_13).symm.trans h
  by_cases hc_17 : (f_X4_get X 150 40 v1 (nI 0)) = (nI 3)
  · replace h := (if_pos hc_17).symm.trans h
    refine g_tabEq C dX5_isCarriedOut_66 hc_17 (by decide) (by decide) rfl (tgt := 184) (by decide) ?_
    refine g_aload_n (j := 4) C dX5_isCarriedOut_184 rfl rfl ?_
    refine g_iload_n (j := 3) C dX5_isCarriedOut_185 rfl rfl ?_
    refine g_iload_n (j := 2) C dX5_isCarriedOut_186 rfl rfl ?_
    refine g_vi (ws' := (zW cy ad shC E X)) (As := [.int (f_X4_get X 150 40 v1 (nI 1)), .int (f_X4_get X 150 40 v1 (nI 2))]) (rest := []) (res := (f_X5_faultOfFail X (f_X4_get X 150 40 v1 (nI 1)) (f_X4_get X 150 40 v1 (nI 2)))) C (c_X5_faultOfFail l D cy ad E X (f_X4_get X 150 40 v1 (nI 1)) (f_X4_get X 150 40 v1 (nI 2))) zml_RX5_281 zcv_X5_faultOfFail (zW_get X sC_0) rfl rfl rfl ⟨Nat.le_of_ble_eq_true rfl, Nat.le_of_ble_eq_true rfl⟩ rfl rfl (Nat.le_of_ble_eq_true rfl) ⟨Nat.zero_le _, Nat.zero_le _⟩ dX5_isCarriedOut_187 ?_
    refine g_istore (L' := [(6, .int (f_X5_faultOfFail X (f_X4_get X 150 40 v1 (nI 1)) (f_X4_get X 150 40 v1 (nI 2)))), (5, .int (f_X4_get X 150 40 v1 (nI 4))), (4, .int (f_X4_get X 150 40 v1 (nI 3))), (3, .int (f_X4_get X 150 40 v1 (nI 2))), (2, .int (f_X4_get X 150 40 v1 (nI 1))), (0, .ref (ad 0)), (1, .int v1)]) C dX5_isCarriedOut_190 (by decide) rfl ?_
    refine g_iload (j := 0) C dX5_isCarriedOut_192 rfl ?_
    refine g_if_ne C dX5_isCarriedOut_194 (tgt := 232) (by decide) (fun hc_18 => ?_) (fun hc_18 => ?_)
    · replace h := (if_neg hc_18).symm.trans h
      refine g_iload (j := 0) C dX5_isCarriedOut_232 rfl ?_
      refine g_if_ne C dX5_isCarriedOut_234 (tgt := 241) (by decide) (fun _ => ?_) (fun h9 => absurd h9 hc_18)
      refine g_iconst (v := (nI 0)) C dX5_isCarriedOut_241 (by decide) ?_
      obtain rfl := Option.some.inj h
      exact g_iret rfl C hr (z_nb (Or.inl rfl)) dX5_isCarriedOut_242
    · replace h := (if_pos hc_18).symm.trans h
      refine g_aload_n (j := 5) C dX5_isCarriedOut_197 rfl rfl ?_
      refine g_iload_n (j := 4) C dX5_isCarriedOut_198 rfl rfl ?_
      refine g_iload_n (j := 3) C dX5_isCarriedOut_199 rfl rfl ?_
      obtain ⟨q_19, hq_20, h⟩ := bind_isome h
      refine g_vi (ws' := (zW cy ad shC E q_19.2)) (As := [.int (f_X4_get X 150 40 v1 (nI 1)), .int (f_X4_get X 150 40 v1 (nI 2))]) (rest := []) (res := q_19.1) C (c_X5_closeHall l D cy ad E X (f_X4_get X 150 40 v1 (nI 1)) (f_X4_get X 150 40 v1 (nI 2)) hq_20) zml_RX5_288 zcv_X5_closeHall (zW_get X sC_0) rfl rfl rfl ⟨Nat.le_of_ble_eq_true rfl, Nat.le_of_ble_eq_true rfl⟩ rfl rfl (Nat.le_of_ble_eq_true rfl) ⟨Nat.zero_le _, Nat.zero_le _⟩ dX5_isCarriedOut_200 ?_
      refine g_pop C dX5_isCarriedOut_203 rfl ?_
      refine g_goto C dX5_isCarriedOut_204 (tgt := 232) (by decide) ?_
      refine g_iload (j := 0) C dX5_isCarriedOut_232 rfl ?_
      refine g_if_ne C dX5_isCarriedOut_234 (tgt := 241) (by decide) (fun h9 => absurd hc_18 h9) (fun _ => ?_)
      refine g_iconst (v := (nI 1)) C dX5_isCarriedOut_237 (by decide) ?_
      refine g_goto C dX5_isCarriedOut_238 (tgt := 242) (by decide) ?_
      obtain rfl := Option.some.inj h
      exact g_iret rfl C hr (z_nb (Or.inr rfl)) dX5_isCarriedOut_242
  replace h := (if_neg hc_17).symm.trans h
  by_cases hc_21 : (f_X4_get X 150 40 v1 (nI 0)) = (nI 4)
  · replace h := (if_pos hc_21).symm.trans h
    refine g_tabEq C dX5_isCarriedOut_66 hc_21 (by decide) (by decide) rfl (tgt := 207) (by decide) ?_
    refine g_aload_n (j := 4) C dX5_isCarriedOut_207 rfl rfl ?_
    refine g_iload_n (j := 3) C dX5_isCarriedOut_208 rfl rfl ?_
    refine g_vi (ws' := (zW cy ad shC E X)) (As := [.int (f_X4_get X 150 40 v1 (nI 1))]) (rest := []) (res := (f_X5_faultOfAdvance X (f_X4_get X 150 40 v1 (nI 1)))) C (c_X5_faultOfAdvance l D cy ad E X (f_X4_get X 150 40 v1 (nI 1))) zml_RX5_325 zcv_X5_faultOfAdvance (zW_get X sC_0) rfl rfl rfl ⟨Nat.le_of_ble_eq_true rfl, Nat.le_of_ble_eq_true rfl⟩ rfl rfl (Nat.le_of_ble_eq_true rfl) ⟨Nat.zero_le _, Nat.zero_le _⟩ dX5_isCarriedOut_209 ?_
    refine g_istore (L' := [(6, .int (f_X5_faultOfAdvance X (f_X4_get X 150 40 v1 (nI 1)))), (5, .int (f_X4_get X 150 40 v1 (nI 4))), (4, .int (f_X4_get X 150 40 v1 (nI 3))), (3, .int (f_X4_get X 150 40 v1 (nI 2))), (2, .int (f_X4_get X 150 40 v1 (nI 1))), (0, .ref (ad 0)), (1, .int v1)]) C dX5_isCarriedOut_212 (by decide) rfl ?_
    refine g_iload (j := 0) C dX5_isCarriedOut_214 rfl ?_
    refine g_if_ne C dX5_isCarriedOut_216 (tgt := 232) (by decide) (fun hc_22 => ?_) (fun hc_22 => ?_)
    · replace h := (if_neg hc_22).symm.trans h
      refine g_iload (j := 0) C dX5_isCarriedOut_232 rfl ?_
      refine g_if_ne C dX5_isCarriedOut_234 (tgt := 241) (by decide) (fun _ => ?_) (fun h9 => absurd h9 hc_22)
      refine g_iconst (v := (nI 0)) C dX5_isCarriedOut_241 (by decide) ?_
      obtain rfl := Option.some.inj h
      exact g_iret rfl C hr (z_nb (Or.inl rfl)) dX5_isCarriedOut_242
    · replace h := (if_pos hc_22).symm.trans h
      refine g_aload_n (j := 5) C dX5_isCarriedOut_219 rfl rfl ?_
      refine g_getr (k := 0) (N := 11) C sC_0 rfl zin_RX5 (by decide) rfl zfl_RX5_10 rfl dX5_isCarriedOut_220 ?_
      refine g_dup C dX5_isCarriedOut_223 rfl ?_
      refine g_geti (k := 6) (N := 8) C sC_1 rfl zin_RX3 (by decide) rfl zfl_RX5_330 rfl dX5_isCarriedOut_224 ?_
      refine g_iload_n (j := 4) C dX5_isCarriedOut_227 rfl rfl ?_
      refine g_iadd C dX5_isCarriedOut_228 ?_
      refine g_puti (k := 6) (N := 8) (ty := .int) C sC_1 rfl zin_RX3 (by decide) rfl zfl_RX5_330 rfl tyX3_ok nmX3 rfl (by decide +kernel) rfl rfl dX5_isCarriedOut_229 ?_
      obtain ⟨X_23, e_24, h⟩ := zlet_ex h
      rw [← e_24]
      refine g_iload (j := 0) C dX5_isCarriedOut_232 rfl ?_
      refine g_if_ne C dX5_isCarriedOut_234 (tgt := 241) (by decide) (fun h9 => absurd hc_22 h9) (fun _ => ?_)
      refine g_iconst (v := (nI 1)) C dX5_isCarriedOut_237 (by decide) ?_
      refine g_goto C dX5_isCarriedOut_238 (tgt := 242) (by decide) ?_
      obtain rfl := Option.some.inj h
      exact g_iret rfl C hr (z_nb (Or.inr rfl)) dX5_isCarriedOut_242
  replace h := (if_neg hc_21).symm.trans h
  refine g_tabOut C dX5_isCarriedOut_66 (z_tabout_5 (lo := 0) (hi := 4) hc_1 hc_7 hc_13 hc_17 hc_21 (by decide)) (tgt := 207) (by decide) ?_
  refine g_aload_n (j := 4) C dX5_isCarriedOut_207 rfl rfl ?_
  refine g_iload_n (j := 3) C dX5_isCarriedOut_208 rfl rfl ?_
  refine g_vi (ws' := (zW cy ad shC E X)) (As := [.int (f_X4_get X 150 40 v1 (nI 1))]) (rest := []) (res := (f_X5_faultOfAdvance X (f_X4_get X 150 40 v1 (nI 1)))) C (c_X5_faultOfAdvance l D cy ad E X (f_X4_get X 150 40 v1 (nI 1))) zml_RX5_325 zcv_X5_faultOfAdvance (zW_get X sC_0) rfl rfl rfl ⟨Nat.le_of_ble_eq_true rfl, Nat.le_of_ble_eq_true rfl⟩ rfl rfl (Nat.le_of_ble_eq_true rfl) ⟨Nat.zero_le _, Nat.zero_le _⟩ dX5_isCarriedOut_209 ?_
  refine g_istore (L' := [(6, .int (f_X5_faultOfAdvance X (f_X4_get X 150 40 v1 (nI 1)))), (5, .int (f_X4_get X 150 40 v1 (nI 4))), (4, .int (f_X4_get X 150 40 v1 (nI 3))), (3, .int (f_X4_get X 150 40 v1 (nI 2))), (2, .int (f_X4_get X 150 40 v1 (nI 1))), (0, .ref (ad 0)), (1, .int v1)]) C dX5_isCarriedOut_212 (by decide) rfl ?_
  refine g_iload (j := 0) C dX5_isCarriedOut_214 rfl ?_
  refine g_if_ne C dX5_isCarriedOut_216 (tgt := 232) (by decide) (fun hc_25 => ?_) (fun hc_25 => ?_)
  · replace h := (if_neg hc_25).symm.trans h
    refine g_iload (j := 0) C dX5_isCarriedOut_232 rfl ?_
    refine g_if_ne C dX5_isCarriedOut_234 (tgt := 241) (by decide) (fun _ => ?_) (fun h9 => absurd h9 hc_25)
    refine g_iconst (v := (nI 0)) C dX5_isCarriedOut_241 (by decide) ?_
    obtain rfl := Option.some.inj h
    exact g_iret rfl C hr (z_nb (Or.inl rfl)) dX5_isCarriedOut_242
  · replace h := (if_pos hc_25).symm.trans h
    refine g_aload_n (j := 5) C dX5_isCarriedOut_219 rfl rfl ?_
    refine g_getr (k := 0) (N := 11) C sC_0 rfl zin_RX5 (by decide) rfl zfl_RX5_10 rfl dX5_isCarriedOut_220 ?_
    refine g_dup C dX5_isCarriedOut_223 rfl ?_
    refine g_geti (k := 6) (N := 8) C sC_1 rfl zin_RX3 (by decide) rfl zfl_RX5_330 rfl dX5_isCarriedOut_224 ?_
    refine g_iload_n (j := 4) C dX5_isCarriedOut_227 rfl rfl ?_
    refine g_iadd C dX5_isCarriedOut_228 ?_
    refine g_puti (k := 6) (N := 8) (ty := .int) C sC_1 rfl zin_RX3 (by decide) rfl zfl_RX5_330 rfl tyX3_ok nmX3 rfl (by decide +kernel) rfl rfl dX5_isCarriedOut_229 ?_
    obtain ⟨X_26, e_27, h⟩ := zlet_ex h
    rw [← e_27]
    refine g_iload (j := 0) C dX5_isCarriedOut_232 rfl ?_
    refine g_if_ne C dX5_isCarriedOut_234 (tgt := 241) (by decide) (fun h9 => absurd hc_25 h9) (fun _ => ?_)
    refine g_iconst (v := (nI 1)) C dX5_isCarriedOut_237 (by decide) ?_
    refine g_goto C dX5_isCarriedOut_238 (tgt := 242) (by decide) ?_
    obtain rfl := Option.some.inj h
    exact g_iret rfl C hr (z_nb (Or.inr rfl)) dX5_isCarriedOut_242
