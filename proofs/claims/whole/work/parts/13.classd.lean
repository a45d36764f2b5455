/-! laid by wip/whole/mkparts.py -/
theorem in_X5_faultOfPlan_RX2 : ∀ w ∈ u_ws RX2 TX2 4, w ∈ wsX5_faultOfPlan := by decide +kernel
theorem in_X5_faultOfPlan_RX3 : ∀ w ∈ u_ws RX3 TX3 8, w ∈ wsX5_faultOfPlan := by decide +kernel
theorem in_X5_faultOfPlan_RX5 : ∀ w ∈ u_ws RX5 TX5 11, w ∈ wsX5_faultOfPlan := by decide +kernel
theorem fl_X5_faultOfPlan_10 : (Cond.fieldLink RX5 10 RX5 (TX5 0).2.1 (TX5 0).2.2.1) ∈ wsX5_faultOfPlan := by decide +kernel
theorem fl_X5_faultOfPlan_29 : (Cond.fieldLink RX5 29 RX5 (TX5 3).2.1 (TX5 3).2.2.1) ∈ wsX5_faultOfPlan := by decide +kernel
theorem fl_X5_faultOfPlan_75 : (Cond.fieldLink RX5 75 RX3 (TX3 0).2.1 (TX3 0).2.2.1) ∈ wsX5_faultOfPlan := by decide +kernel
theorem fl_X5_faultOfPlan_111 : (Cond.fieldLink RX5 111 RX3 (TX3 1).2.1 (TX3 1).2.2.1) ∈ wsX5_faultOfPlan := by decide +kernel
theorem fl_X5_faultOfPlan_210 : (Cond.fieldLink RX5 210 RX3 (TX3 3).2.1 (TX3 3).2.2.1) ∈ wsX5_faultOfPlan := by decide +kernel
theorem fl_X5_faultOfPlan_276 : (Cond.fieldLink RX5 276 RX2 (TX2 3).2.1 (TX2 3).2.2.1) ∈ wsX5_faultOfPlan := by decide +kernel
theorem hd_X5_faultOfPlan : yX5_faultOfPlan.cls = RX5 ∧ yX5_faultOfPlan.cls ≠ "java/lang/invoke/MethodHandle" ∧ yX5_faultOfPlan.cls ≠ "java/lang/invoke/VarHandle" ∧ (parseMethodDescriptor yX5_faultOfPlan.desc).map (fun d => d.parameters.length) = some 4 := by decide +kernel
def f_X5_faultOfPlan (X : Nat → Nat → Int32) (v1 v2 v3 v4 : Int32) : Option (Int32 × (Nat → Nat → Int32)) := (if (f_X4_isRow X 2 24 v1) = 0 then some ((1 : Int32), X) else (if (f_X4_isRow X 4 96 v2) = 0 then some ((1 : Int32), X) else (if (f_X5_isDay v3) = 0 then some ((2 : Int32), X) else (if (f_X5_isMinute v4) = 0 then some ((2 : Int32), X) else ((f_X2_takeUp X (-1 : Int32) v2 v3).bind fun q_5 => ((f_X3_newMinutes q_5 v2 v3).bind fun q_7 => ((f_X2_firstBroken q_5 v1 v4 (v4 + q_7)).bind fun q_9 => (if q_9.1 = 0 then (if (f_X4_size q_9.2 8 360) < (30 : Int32) then some ((0 : Int32), q_9.2) else (zlet (f_X5_refuse q_9.2 (10 : Int32) (30 : Int32)) fun X_13 => some ((4 : Int32), X_13))) else (zlet (f_X5_refuse q_9.2 q_9.1 (q_9.2 146 3)) fun X_15 => some ((4 : Int32), X_15))))))))))
set_option maxRecDepth 100000 in
set_option maxHeartbeats 4000000 in
theorem c_X5_faultOfPlan (l : Launch) (D : va_G) (cy : Nat → ClassId) (ad : Nat → Nat) (E : va_W) (X : Nat → Nat → Int32) (v1 v2 v3 v4 : Int32) {res : Int32 × (Nat → Nat → Int32)} (h : f_X5_faultOfPlan X v1 v2 v3 v4 = some res) : zMi l yX5_faultOfPlan wsX5_faultOfPlan (zrm 5) D (zTy cy) (zW cy ad shC E X) [.ref (ad 0), .int v1, .int v2, .int v3, .int v4] res.1 (zW cy ad shC E res.2) := by
  refine zMi.of (cc := cX5_faultOfPlan) (maxL := 6) (ret := (some .int)) (by decide) rfl (Nat.le_of_ble_eq_true rfl) ?_
  intro p e s m below meth c A C hr
  unfold f_X5_faultOfPlan at h
  refine zG_L (L' := [(0, .ref (ad 0)), (1, .int v1), (2, .int v2), (3, .int v3), (4, .int v4)]) rfl ?_
  refine g_aload_n (j := 0) C dX5_faultOfPlan_0 rfl rfl ?_
  refine g_getr (k := 0) (N := 11) C sC_0 rfl in_X5_faultOfPlan_RX5 (by decide) rfl fl_X5_faultOfPlan_10 rfl dX5_faultOfPlan_1 ?_
  refine g_getr (k := 0) (N := 8) C sC_1 rfl in_X5_faultOfPlan_RX3 (by decide) rfl fl_X5_faultOfPlan_75 rfl dX5_faultOfPlan_4 ?_
  refine g_iload_n (j := 1) C dX5_faultOfPlan_7 rfl rfl ?_
  refine g_vi (ws' := (zW cy ad shC E X)) (As := [.int v1]) (rest := []) (res := (f_X4_isRow X 2 24 v1)) C (c_X4_isRow l D cy ad E X 2 24 sC_2 sC_3 (by decide) v1) gX5_faultOfPlan_X4_isRow rfl hd_X4_isRow (zW_get X sC_2) rfl rfl rfl ⟨Nat.le_of_ble_eq_true rfl, Nat.le_of_ble_eq_true rfl⟩ rfl rfl (Nat.le_of_ble_eq_true rfl) ⟨Nat.zero_le _, Nat.zero_le _⟩ dX5_faultOfPlan_8 ?_
  refine g_if_eq C dX5_faultOfPlan_11 (tgt := 28) (by decide) (fun hc_1 => ?_) (fun hc_1 => ?_)
  · replace h := (if_pos hc_1).symm.trans h
    refine g_iconst (v := 1) C dX5_faultOfPlan_28 (by decide) ?_
    obtain rfl := Option.some.inj h
    exact g_iret rfl C hr rfl dX5_faultOfPlan_29
  · replace h := (if_neg hc_1).symm.trans h
    refine g_aload_n (j := 0) C dX5_faultOfPlan_14 rfl rfl ?_
    refine g_getr (k := 0) (N := 11) C sC_0 rfl in_X5_faultOfPlan_RX5 (by decide) rfl fl_X5_faultOfPlan_10 rfl dX5_faultOfPlan_15 ?_
    refine g_getr (k := 1) (N := 8) C sC_1 rfl in_X5_faultOfPlan_RX3 (by decide) rfl fl_X5_faultOfPlan_111 rfl dX5_faultOfPlan_18 ?_
    refine g_iload_n (j := 2) C dX5_faultOfPlan_21 rfl rfl ?_
    refine g_vi (ws' := (zW cy ad shC E X)) (As := [.int v2]) (rest := []) (res := (f_X4_isRow X 4 96 v2)) C (c_X4_isRow l D cy ad E X 4 96 sC_4 sC_5 (by decide) v2) gX5_faultOfPlan_X4_isRow rfl hd_X4_isRow (zW_get X sC_4) rfl rfl rfl ⟨Nat.le_of_ble_eq_true rfl, Nat.le_of_ble_eq_true rfl⟩ rfl rfl (Nat.le_of_ble_eq_true rfl) ⟨Nat.zero_le _, Nat.zero_le _⟩ dX5_faultOfPlan_22 ?_
    refine g_if_ne C dX5_faultOfPlan_25 (tgt := 30) (by decide) (fun hc_2 => ?_) (fun hc_2 => ?_)
    · replace h := (if_neg hc_2).symm.trans h
      refine g_iload_n (j := 3) C dX5_faultOfPlan_30 rfl rfl ?_
      refine g_si (ws' := (zW cy ad shC E X)) (As := [.int v3]) (rest := []) (res := (f_X5_isDay v3)) C (c_X5_isDay l D cy (zW cy ad shC E X) v3) gX5_faultOfPlan_X5_isDay rfl hd_X5_isDay rfl rfl ⟨Nat.le_of_ble_eq_true rfl, Nat.le_of_ble_eq_true rfl⟩ rfl rfl (Nat.le_of_ble_eq_true rfl) ⟨Nat.zero_le _, Nat.zero_le _⟩ dX5_faultOfPlan_31 ?_
      refine g_if_eq C dX5_faultOfPlan_34 (tgt := 45) (by decide) (fun hc_3 => ?_) (fun hc_3 => ?_)
      · replace h := (if_pos hc_3).symm.trans h
        refine g_iconst (v := 2) C dX5_faultOfPlan_45 (by decide) ?_
        obtain rfl := Option.some.inj h
        exact g_iret rfl C hr rfl dX5_faultOfPlan_46
      · replace h := (if_neg hc_3).symm.trans h
        refine g_iload (j := 4) C dX5_faultOfPlan_37 rfl ?_
        refine g_si (ws' := (zW cy ad shC E X)) (As := [.int v4]) (rest := []) (res := (f_X5_isMinute v4)) C (c_X5_isMinute l D cy (zW cy ad shC E X) v4) gX5_faultOfPlan_X5_isMinute rfl hd_X5_isMinute rfl rfl ⟨Nat.le_of_ble_eq_true rfl, Nat.le_of_ble_eq_true rfl⟩ rfl rfl (Nat.le_of_ble_eq_true rfl) ⟨Nat.zero_le _, Nat.zero_le _⟩ dX5_faultOfPlan_39 ?_
        refine g_if_ne C dX5_faultOfPlan_42 (tgt := 47) (by decide) (fun hc_4 => ?_) (fun hc_4 => ?_)
        · replace h := (if_neg hc_4).symm.trans h
          refine g_aload_n (j := 0) C dX5_faultOfPlan_47 rfl rfl ?_
          refine g_getr (k := 3) (N := 11) C sC_0 rfl in_X5_faultOfPlan_RX5 (by decide) rfl fl_X5_faultOfPlan_29 rfl dX5_faultOfPlan_48 ?_
          refine g_aload_n (j := 0) C dX5_faultOfPlan_51 rfl rfl ?_
          refine g_getr (k := 0) (N := 11) C sC_0 rfl in_X5_faultOfPlan_RX5 (by decide) rfl fl_X5_faultOfPlan_10 rfl dX5_faultOfPlan_52 ?_
          refine g_iconst (v := -1) C dX5_faultOfPlan_55 (by decide) ?_
          refine g_iload_n (j := 2) C dX5_faultOfPlan_56 rfl rfl ?_
          refine g_iload_n (j := 3) C dX5_faultOfPlan_57 rfl rfl ?_
          obtain ⟨q_5, hq_6, h⟩ := bind_isome h
          refine g_vv (ws' := (zW cy ad shC E q_5)) (As := [.ref (ad 1), .int (-1 : Int32), .int v2, .int v3]) (rest := []) C (c_X2_takeUp l D cy ad E X (-1 : Int32) v2 v3 hq_6) gX5_faultOfPlan_X2_takeUp rfl hd_X2_takeUp (zW_get X sC_146) rfl rfl rfl ⟨Nat.le_of_ble_eq_true rfl, Nat.le_of_ble_eq_true rfl⟩ rfl rfl (Nat.le_of_ble_eq_true rfl) ⟨Nat.zero_le _, Nat.zero_le _⟩ dX5_faultOfPlan_58 ?_
          refine g_aload_n (j := 0) C dX5_faultOfPlan_61 rfl rfl ?_
          refine g_getr (k := 3) (N := 11) C sC_0 rfl in_X5_faultOfPlan_RX5 (by decide) rfl fl_X5_faultOfPlan_29 rfl dX5_faultOfPlan_62 ?_
          refine g_aload_n (j := 0) C dX5_faultOfPlan_65 rfl rfl ?_
          refine g_getr (k := 0) (N := 11) C sC_0 rfl in_X5_faultOfPlan_RX5 (by decide) rfl fl_X5_faultOfPlan_10 rfl dX5_faultOfPlan_66 ?_
          refine g_iload_n (j := 1) C dX5_faultOfPlan_69 rfl rfl ?_
          refine g_iload (j := 4) C dX5_faultOfPlan_70 rfl ?_
          refine g_iload (j := 4) C dX5_faultOfPlan_72 rfl ?_
          refine g_aload_n (j := 0) C dX5_faultOfPlan_74 rfl rfl ?_
          refine g_getr (k := 0) (N := 11) C sC_0 rfl in_X5_faultOfPlan_RX5 (by decide) rfl fl_X5_faultOfPlan_10 rfl dX5_faultOfPlan_75 ?_
          refine g_iload_n (j := 2) C dX5_faultOfPlan_78 rfl rfl ?_
          refine g_iload_n (j := 3) C dX5_faultOfPlan_79 rfl rfl ?_
          obtain ⟨q_7, hq_8, h⟩ := bind_isome h
          refine g_vi (ws' := (zW cy ad shC E q_5)) (As := [.int v2, .int v3]) (rest := [.int v4, .int v4, .int v1, .ref (ad 1), .ref (ad 146)]) (res := q_7) C (c_X3_newMinutes l D cy ad E q_5 v2 v3 hq_8) gX5_faultOfPlan_X3_newMinutes rfl hd_X3_newMinutes (zW_get q_5 sC_1) rfl rfl rfl ⟨Nat.le_of_ble_eq_true rfl, Nat.le_of_ble_eq_true rfl⟩ rfl rfl (Nat.le_of_ble_eq_true rfl) ⟨Nat.zero_le _, Nat.zero_le _⟩ dX5_faultOfPlan_80 ?_
          refine g_iadd C dX5_faultOfPlan_83 ?_
          obtain ⟨q_9, hq_10, h⟩ := bind_isome h
          refine g_vi (ws' := (zW cy ad shC E q_9.2)) (As := [.ref (ad 1), .int v1, .int v4, .int (v4 + q_7)]) (rest := []) (res := q_9.1) C (c_X2_firstBroken l D cy ad E q_5 v1 v4 (v4 + q_7) hq_10) gX5_faultOfPlan_X2_firstBroken rfl hd_X2_firstBroken (zW_get q_5 sC_146) rfl rfl rfl ⟨Nat.le_of_ble_eq_true rfl, Nat.le_of_ble_eq_true rfl⟩ rfl rfl (Nat.le_of_ble_eq_true rfl) ⟨Nat.zero_le _, Nat.zero_le _⟩ dX5_faultOfPlan_84 ?_
          refine g_istore (L' := [(5, .int q_9.1), (0, .ref (ad 0)), (1, .int v1), (2, .int v2), (3, .int v3), (4, .int v4)]) C dX5_faultOfPlan_87 (by decide) rfl ?_
          refine g_iload (j := 0) C dX5_faultOfPlan_89 rfl ?_
          refine g_if_eq C dX5_faultOfPlan_91 (tgt := 109) (by decide) (fun hc_11 => ?_) (fun hc_11 => ?_)
          · replace h := (if_pos hc_11).symm.trans h
            refine g_aload_n (j := 1) C dX5_faultOfPlan_109 rfl rfl ?_
            refine g_getr (k := 0) (N := 11) C sC_0 rfl in_X5_faultOfPlan_RX5 (by decide) rfl fl_X5_faultOfPlan_10 rfl dX5_faultOfPlan_110 ?_
            refine g_getr (k := 3) (N := 8) C sC_1 rfl in_X5_faultOfPlan_RX3 (by decide) rfl fl_X5_faultOfPlan_210 rfl dX5_faultOfPlan_113 ?_
            refine g_vi (ws' := (zW cy ad shC E q_9.2)) (As := []) (rest := []) (res := (f_X4_size q_9.2 8 360)) C (c_X4_size l D cy ad E q_9.2 8 360 sC_8 sC_9 (by decide)) gX5_faultOfPlan_X4_size rfl hd_X4_size (zW_get q_9.2 sC_8) rfl rfl rfl ⟨Nat.le_of_ble_eq_true rfl, Nat.le_of_ble_eq_true rfl⟩ rfl rfl (Nat.le_of_ble_eq_true rfl) ⟨Nat.zero_le _, Nat.zero_le _⟩ dX5_faultOfPlan_116 ?_
            refine g_bipush (v := 30) C dX5_faultOfPlan_119 (by decide) ?_
            refine g_icmp_lt C dX5_faultOfPlan_121 (tgt := 134) (by decide) (fun hc_12 => ?_) (fun hc_12 => ?_)
            · replace h := (if_pos hc_12).symm.trans h
              refine g_iconst (v := 0) C dX5_faultOfPlan_134 (by decide) ?_
              obtain rfl := Option.some.inj h
              exact g_iret rfl C hr rfl dX5_faultOfPlan_135
            · replace h := (if_neg hc_12).symm.trans h
              refine g_aload_n (j := 1) C dX5_faultOfPlan_124 rfl rfl ?_
              refine g_bipush (v := 10) C dX5_faultOfPlan_125 (by decide) ?_
              refine g_bipush (v := 30) C dX5_faultOfPlan_127 (by decide) ?_
              obtain ⟨X_13, e_14, h⟩ := zlet_ex h
              refine g_vv (ws' := (zW cy ad shC E X_13)) (As := [.int (10 : Int32), .int (30 : Int32)]) (rest := []) C ((by rw [e_14]; exact c_X5_refuse l D cy ad E q_9.2 (10 : Int32) (30 : Int32))) gX5_faultOfPlan_X5_refuse rfl hd_X5_refuse (zW_get q_9.2 sC_0) rfl rfl rfl ⟨Nat.le_of_ble_eq_true rfl, Nat.le_of_ble_eq_true rfl⟩ rfl rfl (Nat.le_of_ble_eq_true rfl) ⟨Nat.zero_le _, Nat.zero_le _⟩ dX5_faultOfPlan_129 ?_
              refine g_iconst (v := 4) C dX5_faultOfPlan_132 (by decide) ?_
              obtain rfl := Option.some.inj h
              exact g_iret rfl C hr rfl dX5_faultOfPlan_133
          · replace h := (if_neg hc_11).symm.trans h
            refine g_aload_n (j := 1) C dX5_faultOfPlan_94 rfl rfl ?_
            refine g_iload (j := 0) C dX5_faultOfPlan_95 rfl ?_
            refine g_aload_n (j := 1) C dX5_faultOfPlan_97 rfl rfl ?_
            refine g_getr (k := 3) (N := 11) C sC_0 rfl in_X5_faultOfPlan_RX5 (by decide) rfl fl_X5_faultOfPlan_29 rfl dX5_faultOfPlan_98 ?_
            refine g_geti (k := 3) (N := 4) C sC_146 rfl in_X5_faultOfPlan_RX2 (by decide) rfl fl_X5_faultOfPlan_276 rfl dX5_faultOfPlan_101 ?_
            obtain ⟨X_15, e_16, h⟩ := zlet_ex h
            refine g_vv (ws' := (zW cy ad shC E X_15)) (As := [.int q_9.1, .int (q_9.2 146 3)]) (rest := []) C ((by rw [e_16]; exact c_X5_refuse l D cy ad E q_9.2 q_9.1 (q_9.2 146 3))) gX5_faultOfPlan_X5_refuse rfl hd_X5_refuse (zW_get q_9.2 sC_0) rfl rfl rfl ⟨Nat.le_of_ble_eq_true rfl, Nat.le_of_ble_eq_true rfl⟩ rfl rfl (Nat.le_of_ble_eq_true rfl) ⟨Nat.zero_le _, Nat.zero_le _⟩ dX5_faultOfPlan_104 ?_
            refine g_iconst (v := 4) C dX5_faultOfPlan_107 (by decide) ?_
            obtain rfl := Option.some.inj h
            exact g_iret rfl C hr rfl dX5_faultOfPlan_108
        · replace h := (if_pos hc_4).symm.trans h
          refine g_iconst (v := 2) C dX5_faultOfPlan_45 (by decide) ?_
          obtain rfl := Option.some.inj h
          exact g_iret rfl C hr rfl dX5_faultOfPlan_46
    · replace h := (if_pos hc_2).symm.trans h
      refine g_iconst (v := 1) C dX5_faultOfPlan_28 (by decide) ?_
      obtain rfl := Option.some.inj h
      exact g_iret rfl C hr rfl dX5_faultOfPlan_29
theorem in_X5_isMoveRefused_RX2 : ∀ w ∈ u_ws RX2 TX2 4, w ∈ wsX5_isMoveRefused := by decide +kernel
theorem in_X5_isMoveRefused_RX3 : ∀ w ∈ u_ws RX3 TX3 8, w ∈ wsX5_isMoveRefused := by decide +kernel
theorem in_X5_isMoveRefused_RX5 : ∀ w ∈ u_ws RX5 TX5 11, w ∈ wsX5_isMoveRefused := by decide +kernel
theorem fl_X5_isMoveRefused_10 : (Cond.fieldLink RX5 10 RX5 (TX5 0).2.1 (TX5 0).2.2.1) ∈ wsX5_isMoveRefused := by decide +kernel
theorem fl_X5_isMoveRefused_29 : (Cond.fieldLink RX5 29 RX5 (TX5 3).2.1 (TX5 3).2.2.1) ∈ wsX5_isMoveRefused := by decide +kernel
theorem fl_X5_isMoveRefused_75 : (Cond.fieldLink RX5 75 RX3 (TX3 0).2.1 (TX3 0).2.2.1) ∈ wsX5_isMoveRefused := by decide +kernel
theorem fl_X5_isMoveRefused_210 : (Cond.fieldLink RX5 210 RX3 (TX3 3).2.1 (TX3 3).2.2.1) ∈ wsX5_isMoveRefused := by decide +kernel
theorem fl_X5_isMoveRefused_276 : (Cond.fieldLink RX5 276 RX2 (TX2 3).2.1 (TX2 3).2.2.1) ∈ wsX5_isMoveRefused := by decide +kernel
theorem hd_X5_isMoveRefused : yX5_isMoveRefused.cls = RX5 ∧ yX5_isMoveRefused.cls ≠ "java/lang/invoke/MethodHandle" ∧ yX5_isMoveRefused.cls ≠ "java/lang/invoke/VarHandle" ∧ (parseMethodDescriptor yX5_isMoveRefused.desc).map (fun d => d.parameters.length) = some 3 := by decide +kernel
def f_X5_isMoveRefused (X : Nat → Nat → Int32) (v1 v2 v3 : Int32) : Option (Int32 × (Nat → Nat → Int32)) := (if (f_X4_get X 8 360 v1 (5 : Int32)) ≤ (f_X4_get X 2 24 v2 (0 : Int32)) then ((f_X2_takeUp X v1 (f_X4_get X 8 360 v1 (1 : Int32)) (f_X4_get X 8 360 v1 (2 : Int32))).bind fun q_2 => ((f_X2_firstBroken q_2 v2 v3 (v3 + (f_X3_minutesOf q_2 v1))).bind fun q_4 => (if q_4.1 = 0 then some ((0 : Int32), q_4.2) else (zlet (f_X5_refuse q_4.2 q_4.1 (q_4.2 146 3)) fun X_7 => some ((1 : Int32), X_7))))) else (zlet (f_X5_refuse X (11 : Int32) (f_X4_get X 2 24 v2 (0 : Int32))) fun X_9 => some ((1 : Int32), X_9)))
set_option maxRecDepth 100000 in
set_option maxHeartbeats 4000000 in
theorem c_X5_isMoveRefused (l : Launch) (D : va_G) (cy : Nat → ClassId) (ad : Nat → Nat) (E : va_W) (X : Nat → Nat → Int32) (v1 v2 v3 : Int32) {res : Int32 × (Nat → Nat → Int32)} (h : f_X5_isMoveRefused X v1 v2 v3 = some res) : zMi l yX5_isMoveRefused wsX5_isMoveRefused (zrm 4) D (zTy cy) (zW cy ad shC E X) [.ref (ad 0), .int v1, .int v2, .int v3] res.1 (zW cy ad shC E res.2) := by
  refine zMi.of (cc := cX5_isMoveRefused) (maxL := 6) (ret := (some .boolean)) (by decide) rfl (Nat.le_of_ble_eq_true rfl) ?_
  intro p e s m below meth c A C hr
  unfold f_X5_isMoveRefused at h
  refine zG_L (L' := [(0, .ref (ad 0)), (1, .int v1), (2, .int v2), (3, .int v3)]) rfl ?_
  refine g_aload_n (j := 0) C dX5_isMoveRefused_0 rfl rfl ?_
  refine g_getr (k := 0) (N := 11) C sC_0 rfl in_X5_isMoveRefused_RX5 (by decide) rfl fl_X5_isMoveRefused_10 rfl dX5_isMoveRefused_1 ?_
  refine g_getr (k := 0) (N := 8) C sC_1 rfl in_X5_isMoveRefused_RX3 (by decide) rfl fl_X5_isMoveRefused_75 rfl dX5_isMoveRefused_4 ?_
  refine g_iload_n (j := 2) C dX5_isMoveRefused_7 rfl rfl ?_
  refine g_iconst (v := 0) C dX5_isMoveRefused_8 (by decide) ?_
  refine g_vi (ws' := (zW cy ad shC E X)) (As := [.int v2, .int (0 : Int32)]) (rest := []) (res := (f_X4_get X 2 24 v2 (0 : Int32))) C (c_X4_get l D cy ad E X 2 24 sC_2 sC_3 (by decide) v2 (0 : Int32)) gX5_isMoveRefused_X4_get rfl hd_X4_get (zW_get X sC_2) rfl rfl rfl ⟨Nat.le_of_ble_eq_true rfl, Nat.le_of_ble_eq_true rfl⟩ rfl rfl (Nat.le_of_ble_eq_true rfl) ⟨Nat.zero_le _, Nat.zero_le _⟩ dX5_isMoveRefused_9 ?_
  refine g_istore (L' := [(4, .int (f_X4_get X 2 24 v2 (0 : Int32))), (0, .ref (ad 0)), (1, .int v1), (2, .int v2), (3, .int v3)]) C dX5_isMoveRefused_12 (by decide) rfl ?_
  refine g_iload (j := 0) C dX5_isMoveRefused_14 rfl ?_
  refine g_aload_n (j := 1) C dX5_isMoveRefused_16 rfl rfl ?_
  refine g_getr (k := 0) (N := 11) C sC_0 rfl in_X5_isMoveRefused_RX5 (by decide) rfl fl_X5_isMoveRefused_10 rfl dX5_isMoveRefused_17 ?_
  refine g_getr (k := 3) (N := 8) C sC_1 rfl in_X5_isMoveRefused_RX3 (by decide) rfl fl_X5_isMoveRefused_210 rfl dX5_isMoveRefused_20 ?_
  refine g_iload_n (j := 2) C dX5_isMoveRefused_23 rfl rfl ?_
  refine g_iconst (v := 5) C dX5_isMoveRefused_24 (by decide) ?_
  refine g_vi (ws' := (zW cy ad shC E X)) (As := [.int v1, .int (5 : Int32)]) (rest := [.int (f_X4_get X 2 24 v2 (0 : Int32))]) (res := (f_X4_get X 8 360 v1 (5 : Int32))) C (c_X4_get l D cy ad E X 8 360 sC_8 sC_9 (by decide) v1 (5 : Int32)) gX5_isMoveRefused_X4_get rfl hd_X4_get (zW_get X sC_8) rfl rfl rfl ⟨Nat.le_of_ble_eq_true rfl, Nat.le_of_ble_eq_true rfl⟩ rfl rfl (Nat.le_of_ble_eq_true rfl) ⟨Nat.zero_le _, Nat.zero_le _⟩ dX5_isMoveRefused_25 ?_
  refine g_icmp_ge C dX5_isMoveRefused_28 (tgt := 41) (by decide) (fun hc_1 => ?_) (fun hc_1 => ?_)
  · replace h := (if_pos hc_1).symm.trans h
    refine g_aload_n (j := 1) C dX5_isMoveRefused_41 rfl rfl ?_
    refine g_getr (k := 3) (N := 11) C sC_0 rfl in_X5_isMoveRefused_RX5 (by decide) rfl fl_X5_isMoveRefused_29 rfl dX5_isMoveRefused_42 ?_
    refine g_aload_n (j := 1) C dX5_isMoveRefused_45 rfl rfl ?_
    refine g_getr (k := 0) (N := 11) C sC_0 rfl in_X5_isMoveRefused_RX5 (by decide) rfl fl_X5_isMoveRefused_10 rfl dX5_isMoveRefused_46 ?_
    refine g_iload_n (j := 2) C dX5_isMoveRefused_49 rfl rfl ?_
    refine g_aload_n (j := 1) C dX5_isMoveRefused_50 rfl rfl ?_
    refine g_getr (k := 0) (N := 11) C sC_0 rfl in_X5_isMoveRefused_RX5 (by decide) rfl fl_X5_isMoveRefused_10 rfl dX5_isMoveRefused_51 ?_
    refine g_getr (k := 3) (N := 8) C sC_1 rfl in_X5_isMoveRefused_RX3 (by decide) rfl fl_X5_isMoveRefused_210 rfl dX5_isMoveRefused_54 ?_
    refine g_iload_n (j := 2) C dX5_isMoveRefused_57 rfl rfl ?_
    refine g_iconst (v := 1) C dX5_isMoveRefused_58 (by decide) ?_
    refine g_vi (ws' := (zW cy ad shC E X)) (As := [.int v1, .int (1 : Int32)]) (rest := [.int v1, .ref (ad 1), .ref (ad 146)]) (res := (f_X4_get X 8 360 v1 (1 : Int32))) C (c_X4_get l D cy ad E X 8 360 sC_8 sC_9 (by decide) v1 (1 : Int32)) gX5_isMoveRefused_X4_get rfl hd_X4_get (zW_get X sC_8) rfl rfl rfl ⟨Nat.le_of_ble_eq_true rfl, Nat.le_of_ble_eq_true rfl⟩ rfl rfl (Nat.le_of_ble_eq_true rfl) ⟨Nat.zero_le _, Nat.zero_le _⟩ dX5_isMoveRefused_59 ?_
    refine g_aload_n (j := 1) C dX5_isMoveRefused_62 rfl rfl ?_
    refine g_getr (k := 0) (N := 11) C sC_0 rfl in_X5_isMoveRefused_RX5 (by decide) rfl fl_X5_isMoveRefused_10 rfl dX5_isMoveRefused_63 ?_
    refine g_getr (k := 3) (N := 8) C sC_1 rfl in_X5_isMoveRefused_RX3 (by decide) rfl fl_X5_isMoveRefused_210 rfl dX5_isMoveRefused_66 ?_
    refine g_iload_n (j := 2) C dX5_isMoveRefused_69 rfl rfl ?_
    refine g_iconst (v := 2) C dX5_isMoveRefused_70 (by decide) ?_
    refine g_vi (ws' := (zW cy ad shC E X)) (As := [.int v1, .int (2 : Int32)]) (rest := [.int (f_X4_get X 8 360 v1 (1 : Int32)), .int v1, .ref (ad 1), .ref (ad 146)]) (res := (f_X4_get X 8 360 v1 (2 : Int32))) C (c_X4_get l D cy ad E X 8 360 sC_8 sC_9 (by decide) v1 (2 : Int32)) gX5_isMoveRefused_X4_get rfl hd_X4_get (zW_get X sC_8) rfl rfl rfl ⟨Nat.le_of_ble_eq_true rfl, Nat.le_of_ble_eq_true rfl⟩ rfl rfl (Nat.le_of_ble_eq_true rfl) ⟨Nat.zero_le _, Nat.zero_le _⟩ dX5_isMoveRefused_71 ?_
    obtain ⟨q_2, hq_3, h⟩ := bind_isome h
    refine g_vv (ws' := (zW cy ad shC E q_2)) (As := [.ref (ad 1), .int v1, .int (f_X4_get X 8 360 v1 (1 : Int32)), .int (f_X4_get X 8 360 v1 (2 : Int32))]) (rest := []) C (c_X2_takeUp l D cy ad E X v1 (f_X4_get X 8 360 v1 (1 : Int32)) (f_X4_get X 8 360 v1 (2 : Int32)) hq_3) gX5_isMoveRefused_X2_takeUp rfl hd_X2_takeUp (zW_get X sC_146) rfl rfl rfl ⟨Nat.le_of_ble_eq_true rfl, Nat.le_of_ble_eq_true rfl⟩ rfl rfl (Nat.le_of_ble_eq_true rfl) ⟨Nat.zero_le _, Nat.zero_le _⟩ dX5_isMoveRefused_74 ?_
    refine g_aload_n (j := 1) C dX5_isMoveRefused_77 rfl rfl ?_
    refine g_getr (k := 3) (N := 11) C sC_0 rfl in_X5_isMoveRefused_RX5 (by decide) rfl fl_X5_isMoveRefused_29 rfl dX5_isMoveRefused_78 ?_
    refine g_aload_n (j := 1) C dX5_isMoveRefused_81 rfl rfl ?_
    refine g_getr (k := 0) (N := 11) C sC_0 rfl in_X5_isMoveRefused_RX5 (by decide) rfl fl_X5_isMoveRefused_10 rfl dX5_isMoveRefused_82 ?_
    refine g_iload_n (j := 3) C dX5_isMoveRefused_85 rfl rfl ?_
    refine g_iload_n (j := 4) C dX5_isMoveRefused_86 rfl rfl ?_
    refine g_iload_n (j := 4) C dX5_isMoveRefused_87 rfl rfl ?_
    refine g_aload_n (j := 1) C dX5_isMoveRefused_88 rfl rfl ?_
    refine g_getr (k := 0) (N := 11) C sC_0 rfl in_X5_isMoveRefused_RX5 (by decide) rfl fl_X5_isMoveRefused_10 rfl dX5_isMoveRefused_89 ?_
    refine g_iload_n (j := 2) C dX5_isMoveRefused_92 rfl rfl ?_
    refine g_vi (ws' := (zW cy ad shC E q_2)) (As := [.int v1]) (rest := [.int v3, .int v3, .int v2, .ref (ad 1), .ref (ad 146)]) (res := (f_X3_minutesOf q_2 v1)) C (c_X3_minutesOf l D cy ad E q_2 v1) gX5_isMoveRefused_X3_minutesOf rfl hd_X3_minutesOf (zW_get q_2 sC_1) rfl rfl rfl ⟨Nat.le_of_ble_eq_true rfl, Nat.le_of_ble_eq_true rfl⟩ rfl rfl (Nat.le_of_ble_eq_true rfl) ⟨Nat.zero_le _, Nat.zero_le _⟩ dX5_isMoveRefused_93 ?_
    refine g_iadd C dX5_isMoveRefused_96 ?_
    obtain ⟨q_4, hq_5, h⟩ := bind_isome h
    refine g_vi (ws' := (zW cy ad shC E q_4.2)) (As := [.ref (ad 1), .int v2, .int v3, .int (v3 + (f_X3_minutesOf q_2 v1))]) (rest := []) (res := q_4.1) C (c_X2_firstBroken l D cy ad E q_2 v2 v3 (v3 + (f_X3_minutesOf q_2 v1)) hq_5) gX5_isMoveRefused_X2_firstBroken rfl hd_X2_firstBroken (zW_get q_2 sC_146) rfl rfl rfl ⟨Nat.le_of_ble_eq_true rfl, Nat.le_of_ble_eq_true rfl⟩ rfl rfl (Nat.le_of_ble_eq_true rfl) ⟨Nat.zero_le _, Nat.zero_le _⟩ dX5_isMoveRefused_97 ?_
    refine g_istore (L' := [(5, .int q_4.1), (4, .int (f_X4_get X 2 24 v2 (0 : Int32))), (0, .ref (ad 0)), (1, .int v1), (2, .int v2), (3, .int v3)]) C dX5_isMoveRefused_100 (by decide) rfl ?_
    refine g_iload (j := 0) C dX5_isMoveRefused_102 rfl ?_
    refine g_if_eq C dX5_isMoveRefused_104 (tgt := 120) (by decide) (fun hc_6 => ?_) (fun hc_6 => ?_)
    · replace h := (if_pos hc_6).symm.trans h
      refine g_iload (j := 0) C dX5_isMoveRefused_120 rfl ?_
      refine g_if_eq C dX5_isMoveRefused_122 (tgt := 129) (by decide) (fun _ => ?_) (fun h9 => absurd hc_6 h9)
      refine g_iconst (v := 0) C dX5_isMoveRefused_129 (by decide) ?_
      obtain rfl := Option.some.inj h
      exact g_iret rfl C hr (z_nb (Or.inl rfl)) dX5_isMoveRefused_130
    · replace h := (if_neg hc_6).symm.trans h
      refine g_aload_n (j := 2) C dX5_isMoveRefused_107 rfl rfl ?_
      refine g_iload (j := 0) C dX5_isMoveRefused_108 rfl ?_
      refine g_aload_n (j := 2) C dX5_isMoveRefused_110 rfl rfl ?_
      refine g_getr (k := 3) (N := 11) C sC_0 rfl in_X5_isMoveRefused_RX5 (by decide) rfl fl_X5_isMoveRefused_29 rfl dX5_isMoveRefused_111 ?_
      refine g_geti (k := 3) (N := 4) C sC_146 rfl in_X5_isMoveRefused_RX2 (by decide) rfl fl_X5_isMoveRefused_276 rfl dX5_isMoveRefused_114 ?_
      obtain ⟨X_7, e_8, h⟩ := zlet_ex h
      refine g_vv (ws' := (zW cy ad shC E X_7)) (As := [.int q_4.1, .int (q_4.2 146 3)]) (rest := []) C ((by rw [e_8]; exact c_X5_refuse l D cy ad E q_4.2 q_4.1 (q_4.2 146 3))) gX5_isMoveRefused_X5_refuse rfl hd_X5_refuse (zW_get q_4.2 sC_0) rfl rfl rfl ⟨Nat.le_of_ble_eq_true rfl, Nat.le_of_ble_eq_true rfl⟩ rfl rfl (Nat.le_of_ble_eq_true rfl) ⟨Nat.zero_le _, Nat.zero_le _⟩ dX5_isMoveRefused_117 ?_
      refine g_iload (j := 0) C dX5_isMoveRefused_120 rfl ?_
      refine g_if_eq C dX5_isMoveRefused_122 (tgt := 129) (by decide) (fun h9 => absurd h9 hc_6) (fun _ => ?_)
      refine g_iconst (v := 1) C dX5_isMoveRefused_125 (by decide) ?_
      refine g_goto C dX5_isMoveRefused_126 (tgt := 130) (by decide) ?_
      obtain rfl := Option.some.inj h
      exact g_iret rfl C hr (z_nb (Or.inr rfl)) dX5_isMoveRefused_130
  · replace h := (if_neg hc_1).symm.trans h
    refine g_aload_n (j := 1) C dX5_isMoveRefused_31 rfl rfl ?_
    refine g_bipush (v := 11) C dX5_isMoveRefused_32 (by decide) ?_
    refine g_iload (j := 0) C dX5_isMoveRefused_34 rfl ?_
    obtain ⟨X_9, e_10, h⟩ := zlet_ex h
    refine g_vv (ws' := (zW cy ad shC E X_9)) (As := [.int (11 : Int32), .int (f_X4_get X 2 24 v2 (0 : Int32))]) (rest := []) C ((by rw [e_10]; exact c_X5_refuse l D cy ad E X (11 : Int32) (f_X4_get X 2 24 v2 (0 : Int32)))) gX5_isMoveRefused_X5_refuse rfl hd_X5_refuse (zW_get X sC_0) rfl rfl rfl ⟨Nat.le_of_ble_eq_true rfl, Nat.le_of_ble_eq_true rfl⟩ rfl rfl (Nat.le_of_ble_eq_true rfl) ⟨Nat.zero_le _, Nat.zero_le _⟩ dX5_isMoveRefused_36 ?_
    refine g_iconst (v := 1) C dX5_isMoveRefused_39 (by decide) ?_
    obtain rfl := Option.some.inj h
    exact g_iret rfl C hr (z_nb (Or.inr rfl)) dX5_isMoveRefused_40
theorem in_X5_faultOfSell_RX3 : ∀ w ∈ u_ws RX3 TX3 8, w ∈ wsX5_faultOfSell := by decide +kernel
theorem in_X5_faultOfSell_RX5 : ∀ w ∈ u_ws RX5 TX5 11, w ∈ wsX5_faultOfSell := by decide +kernel
theorem fl_X5_faultOfSell_10 : (Cond.fieldLink RX5 10 RX5 (TX5 0).2.1 (TX5 0).2.2.1) ∈ wsX5_faultOfSell := by decide +kernel
theorem fl_X5_faultOfSell_210 : (Cond.fieldLink RX5 210 RX3 (TX3 3).2.1 (TX3 3).2.2.1) ∈ wsX5_faultOfSell := by decide +kernel
theorem hd_X5_faultOfSell : yX5_faultOfSell.cls = RX5 ∧ yX5_faultOfSell.cls ≠ "java/lang/invoke/MethodHandle" ∧ yX5_faultOfSell.cls ≠ "java/lang/invoke/VarHandle" ∧ (parseMethodDescriptor yX5_faultOfSell.desc).map (fun d => d.parameters.length) = some 2 := by decide +kernel
def f_X5_faultOfSell (X : Nat → Nat → Int32) (v1 v2 : Int32) : Int32 × (Nat → Nat → Int32) := (if (f_X4_isRow X 8 360 v1) = 0 then ((1 : Int32), X) else (if (f_X5_isWithin v2 (1 : Int32) (400 : Int32)) = 0 then ((2 : Int32), X) else (if (f_X3_isOpen X v1) = 0 then ((3 : Int32), X) else (if v2 ≤ ((f_X3_seatsOf X v1) - (f_X4_get X 8 360 v1 (5 : Int32))) then ((0 : Int32), X) else (zlet (f_X5_refuse X (12 : Int32) ((f_X3_seatsOf X v1) - (f_X4_get X 8 360 v1 (5 : Int32)))) fun X_5 => ((4 : Int32), X_5))))))
set_option maxRecDepth 100000 in
set_option maxHeartbeats 4000000 in
theorem c_X5_faultOfSell (l : Launch) (D : va_G) (cy : Nat → ClassId) (ad : Nat → Nat) (E : va_W) (X : Nat → Nat → Int32) (v1 v2 : Int32) : zMi l yX5_faultOfSell wsX5_faultOfSell (zrm 5) D (zTy cy) (zW cy ad shC E X) [.ref (ad 0), .int v1, .int v2] ((f_X5_faultOfSell X v1 v2).1) (zW cy ad shC E (f_X5_faultOfSell X v1 v2).2) := by
  refine zMi.of (cc := cX5_faultOfSell) (maxL := 4) (ret := (some .int)) (by decide) rfl (Nat.le_of_ble_eq_true rfl) ?_
  intro p e s m below meth c A C hr
  generalize h : f_X5_faultOfSell X v1 v2 = res
  unfold f_X5_faultOfSell at h
  refine zG_L (L' := [(0, .ref (ad 0)), (1, .int v1), (2, .int v2)]) rfl ?_
  refine g_aload_n (j := 0) C dX5_faultOfSell_0 rfl rfl ?_
  refine g_getr (k := 0) (N := 11) C sC_0 rfl in_X5_faultOfSell_RX5 (by decide) rfl fl_X5_faultOfSell_10 rfl dX5_faultOfSell_1 ?_
  refine g_getr (k := 3) (N := 8) C sC_1 rfl in_X5_faultOfSell_RX3 (by decide) rfl fl_X5_faultOfSell_210 rfl dX5_faultOfSell_4 ?_
  refine g_iload_n (j := 1) C dX5_faultOfSell_7 rfl rfl ?_
  refine g_vi (ws' := (zW cy ad shC E X)) (As := [.int v1]) (rest := []) (res := (f_X4_isRow X 8 360 v1)) C (c_X4_isRow l D cy ad E X 8 360 sC_8 sC_9 (by decide) v1) gX5_faultOfSell_X4_isRow rfl hd_X4_isRow (zW_get X sC_8) rfl rfl rfl ⟨Nat.le_of_ble_eq_true rfl, Nat.le_of_ble_eq_true rfl⟩ rfl rfl (Nat.le_of_ble_eq_true rfl) ⟨Nat.zero_le _, Nat.zero_le _⟩ dX5_faultOfSell_8 ?_
  refine g_if_ne C dX5_faultOfSell_11 (tgt := 16) (by decide) (fun hc_1 => ?_) (fun hc_1 => ?_)
  · replace h := (if_neg hc_1).symm.trans h
    refine g_iload_n (j := 2) C dX5_faultOfSell_16 rfl rfl ?_
    refine g_iconst (v := 1) C dX5_faultOfSell_17 (by decide) ?_
    refine g_sipush (v := 400) C dX5_faultOfSell_18 (by decide) ?_
    refine g_si (ws' := (zW cy ad shC E X)) (As := [.int v2, .int (1 : Int32), .int (400 : Int32)]) (rest := []) (res := (f_X5_isWithin v2 (1 : Int32) (400 : Int32))) C (c_X5_isWithin l D cy (zW cy ad shC E X) v2 (1 : Int32) (400 : Int32)) gX5_faultOfSell_X5_isWithin rfl hd_X5_isWithin rfl rfl ⟨Nat.le_of_ble_eq_true rfl, Nat.le_of_ble_eq_true rfl⟩ rfl rfl (Nat.le_of_ble_eq_true rfl) ⟨Nat.zero_le _, Nat.zero_le _⟩ dX5_faultOfSell_21 ?_
    refine g_if_ne C dX5_faultOfSell_24 (tgt := 29) (by decide) (fun hc_2 => ?_) (fun hc_2 => ?_)
    · replace h := (if_neg hc_2).symm.trans h
      refine g_aload_n (j := 0) C dX5_faultOfSell_29 rfl rfl ?_
      refine g_getr (k := 0) (N := 11) C sC_0 rfl in_X5_faultOfSell_RX5 (by decide) rfl fl_X5_faultOfSell_10 rfl dX5_faultOfSell_30 ?_
      refine g_iload_n (j := 1) C dX5_faultOfSell_33 rfl rfl ?_
      refine g_vi (ws' := (zW cy ad shC E X)) (As := [.int v1]) (rest := []) (res := (f_X3_isOpen X v1)) C (c_X3_isOpen l D cy ad E X v1) gX5_faultOfSell_X3_isOpen rfl hd_X3_isOpen (zW_get X sC_1) rfl rfl rfl ⟨Nat.le_of_ble_eq_true rfl, Nat.le_of_ble_eq_true rfl⟩ rfl rfl (Nat.le_of_ble_eq_true rfl) ⟨Nat.zero_le _, Nat.zero_le _⟩ dX5_faultOfSell_34 ?_
      refine g_if_ne C dX5_faultOfSell_37 (tgt := 42) (by decide) (fun hc_3 => ?_) (fun hc_3 => ?_)
      · replace h := (if_neg hc_3).symm.trans h
        refine g_aload_n (j := 0) C dX5_faultOfSell_42 rfl rfl ?_
        refine g_getr (k := 0) (N := 11) C sC_0 rfl in_X5_faultOfSell_RX5 (by decide) rfl fl_X5_faultOfSell_10 rfl dX5_faultOfSell_43 ?_
        refine g_iload_n (j := 1) C dX5_faultOfSell_46 rfl rfl ?_
        refine g_vi (ws' := (zW cy ad shC E X)) (As := [.int v1]) (rest := []) (res := (f_X3_seatsOf X v1)) C (c_X3_seatsOf l D cy ad E X v1) gX5_faultOfSell_X3_seatsOf rfl hd_X3_seatsOf (zW_get X sC_1) rfl rfl rfl ⟨Nat.le_of_ble_eq_true rfl, Nat.le_of_ble_eq_true rfl⟩ rfl rfl (Nat.le_of_ble_eq_true rfl) ⟨Nat.zero_le _, Nat.zero_le _⟩ dX5_faultOfSell_47 ?_
        refine g_aload_n (j := 0) C dX5_faultOfSell_50 rfl rfl ?_
        refine g_getr (k := 0) (N := 11) C sC_0 rfl in_X5_faultOfSell_RX5 (by decide) rfl fl_X5_faultOfSell_10 rfl dX5_faultOfSell_51 ?_
        refine g_getr (k := 3) (N := 8) C sC_1 rfl in_X5_faultOfSell_RX3 (by decide) rfl fl_X5_faultOfSell_210 rfl dX5_faultOfSell_54 ?_
        refine g_iload_n (j := 1) C dX5_faultOfSell_57 rfl rfl ?_
        refine g_iconst (v := 5) C dX5_faultOfSell_58 (by decide) ?_
        refine g_vi (ws' := (zW cy ad shC E X)) (As := [.int v1, .int (5 : Int32)]) (rest := [.int (f_X3_seatsOf X v1)]) (res := (f_X4_get X 8 360 v1 (5 : Int32))) C (c_X4_get l D cy ad E X 8 360 sC_8 sC_9 (by decide) v1 (5 : Int32)) gX5_faultOfSell_X4_get rfl hd_X4_get (zW_get X sC_8) rfl rfl rfl ⟨Nat.le_of_ble_eq_true rfl, Nat.le_of_ble_eq_true rfl⟩ rfl rfl (Nat.le_of_ble_eq_true rfl) ⟨Nat.zero_le _, Nat.zero_le _⟩ dX5_faultOfSell_59 ?_
        refine g_isub C dX5_faultOfSell_62 ?_
        refine g_istore_n (L' := [(3, .int ((f_X3_seatsOf X v1) - (f_X4_get X 8 360 v1 (5 : Int32)))), (0, .ref (ad 0)), (1, .int v1), (2, .int v2)]) C dX5_faultOfSell_63 rfl (by decide) rfl ?_
        refine g_iload_n (j := 0) C dX5_faultOfSell_64 rfl rfl ?_
        refine g_iload_n (j := 3) C dX5_faultOfSell_65 rfl rfl ?_
        refine g_icmp_ge C dX5_faultOfSell_66 (tgt := 78) (by decide) (fun hc_4 => ?_) (fun hc_4 => ?_)
        · replace h := (if_pos hc_4).symm.trans h
          refine g_iconst (v := 0) C dX5_faultOfSell_78 (by decide) ?_
          subst h
          exact g_iret rfl C hr rfl dX5_faultOfSell_79
        · replace h := (if_neg hc_4).symm.trans h
          refine g_aload_n (j := 1) C dX5_faultOfSell_69 rfl rfl ?_
          refine g_bipush (v := 12) C dX5_faultOfSell_70 (by decide) ?_
          refine g_iload_n (j := 0) C dX5_faultOfSell_72 rfl rfl ?_
          obtain ⟨X_5, e_6, h⟩ := zlet_ex h
          refine g_vv (ws' := (zW cy ad shC E X_5)) (As := [.int (12 : Int32), .int ((f_X3_seatsOf X v1) - (f_X4_get X 8 360 v1 (5 : Int32)))]) (rest := []) C ((by rw [e_6]; exact c_X5_refuse l D cy ad E X (12 : Int32) ((f_X3_seatsOf X v1) - (f_X4_get X 8 360 v1 (5 : Int32))))) gX5_faultOfSell_X5_refuse rfl hd_X5_refuse (zW_get X sC_0) rfl rfl rfl ⟨Nat.le_of_ble_eq_true rfl, Nat.le_of_ble_eq_true rfl⟩ rfl rfl (Nat.le_of_ble_eq_true rfl) ⟨Nat.zero_le _, Nat.zero_le _⟩ dX5_faultOfSell_73 ?_
          refine g_iconst (v := 4) C dX5_faultOfSell_76 (by decide) ?_
          subst h
          exact g_iret rfl C hr rfl dX5_faultOfSell_77
      · replace h := (if_pos hc_3).symm.trans h
        refine g_iconst (v := 3) C dX5_faultOfSell_40 (by decide) ?_
        subst h
        exact g_iret rfl C hr rfl dX5_faultOfSell_41
    · replace h := (if_pos hc_2).symm.trans h
      refine g_iconst (v := 2) C dX5_faultOfSell_27 (by decide) ?_
      subst h
      exact g_iret rfl C hr rfl dX5_faultOfSell_28
  · replace h := (if_pos hc_1).symm.trans h
    refine g_iconst (v := 1) C dX5_faultOfSell_14 (by decide) ?_
    subst h
    exact g_iret rfl C hr rfl dX5_faultOfSell_15
theorem in_X5_faultOfCancel_RX3 : ∀ w ∈ u_ws RX3 TX3 8, w ∈ wsX5_faultOfCancel := by decide +kernel
theorem in_X5_faultOfCancel_RX5 : ∀ w ∈ u_ws RX5 TX5 11, w ∈ wsX5_faultOfCancel := by decide +kernel
theorem fl_X5_faultOfCancel_10 : (Cond.fieldLink RX5 10 RX5 (TX5 0).2.1 (TX5 0).2.2.1) ∈ wsX5_faultOfCancel := by decide +kernel
theorem fl_X5_faultOfCancel_210 : (Cond.fieldLink RX5 210 RX3 (TX3 3).2.1 (TX3 3).2.2.1) ∈ wsX5_faultOfCancel := by decide +kernel
theorem hd_X5_faultOfCancel : yX5_faultOfCancel.cls = RX5 ∧ yX5_faultOfCancel.cls ≠ "java/lang/invoke/MethodHandle" ∧ yX5_faultOfCancel.cls ≠ "java/lang/invoke/VarHandle" ∧ (parseMethodDescriptor yX5_faultOfCancel.desc).map (fun d => d.parameters.length) = some 1 := by decide +kernel
def f_X5_faultOfCancel (X : Nat → Nat → Int32) (v1 : Int32) : Int32 := (if (f_X4_isRow X 8 360 v1) = 0 then (1 : Int32) else (if (f_X3_isOpen X v1) = 0 then (3 : Int32) else (0 : Int32)))
set_option maxRecDepth 100000 in
set_option maxHeartbeats 4000000 in
theorem c_X5_faultOfCancel (l : Launch) (D : va_G) (cy : Nat → ClassId) (ad : Nat → Nat) (E : va_W) (X : Nat → Nat → Int32) (v1 : Int32) : zMi l yX5_faultOfCancel wsX5_faultOfCancel (zrm 5) D (zTy cy) (zW cy ad shC E X) [.ref (ad 0), .int v1] (f_X5_faultOfCancel X v1) (zW cy ad shC E X) := by
  refine zMi.of (cc := cX5_faultOfCancel) (maxL := 2) (ret := (some .int)) (by decide) rfl (Nat.le_of_ble_eq_true rfl) ?_
  intro p e s m below meth c A C hr
  generalize h : f_X5_faultOfCancel X v1 = res
  unfold f_X5_faultOfCancel at h
  refine zG_L (L' := [(0, .ref (ad 0)), (1, .int v1)]) rfl ?_
  refine g_aload_n (j := 0) C dX5_faultOfCancel_0 rfl rfl ?_
  refine g_getr (k := 0) (N := 11) C sC_0 rfl in_X5_faultOfCancel_RX5 (by decide) rfl fl_X5_faultOfCancel_10 rfl dX5_faultOfCancel_1 ?_
  refine g_getr (k := 3) (N := 8) C sC_1 rfl in_X5_faultOfCancel_RX3 (by decide) rfl fl_X5_faultOfCancel_210 rfl dX5_faultOfCancel_4 ?_
  refine g_iload_n (j := 1) C dX5_faultOfCancel_7 rfl rfl ?_
  refine g_vi (ws' := (zW cy ad shC E X)) (As := [.int v1]) (rest := []) (res := (f_X4_isRow X 8 360 v1)) C (c_X4_isRow l D cy ad E X 8 360 sC_8 sC_9 (by decide) v1) gX5_faultOfCancel_X4_isRow rfl hd_X4_isRow (zW_get X sC_8) rfl rfl rfl ⟨Nat.le_of_ble_eq_true rfl, Nat.le_of_ble_eq_true rfl⟩ rfl rfl (Nat.le_of_ble_eq_true rfl) ⟨Nat.zero_le _, Nat.zero_le _⟩ dX5_faultOfCancel_8 ?_
  refine g_if_ne C dX5_faultOfCancel_11 (tgt := 16) (by decide) (fun hc_1 => ?_) (fun hc_1 => ?_)
  · replace h := (if_neg hc_1).symm.trans h
    refine g_aload_n (j := 0) C dX5_faultOfCancel_16 rfl rfl ?_
    refine g_getr (k := 0) (N := 11) C sC_0 rfl in_X5_faultOfCancel_RX5 (by decide) rfl fl_X5_faultOfCancel_10 rfl dX5_faultOfCancel_17 ?_
    refine g_iload_n (j := 1) C dX5_faultOfCancel_20 rfl rfl ?_
    refine g_vi (ws' := (zW cy ad shC E X)) (As := [.int v1]) (rest := []) (res := (f_X3_isOpen X v1)) C (c_X3_isOpen l D cy ad E X v1) gX5_faultOfCancel_X3_isOpen rfl hd_X3_isOpen (zW_get X sC_1) rfl rfl rfl ⟨Nat.le_of_ble_eq_true rfl, Nat.le_of_ble_eq_true rfl⟩ rfl rfl (Nat.le_of_ble_eq_true rfl) ⟨Nat.zero_le _, Nat.zero_le _⟩ dX5_faultOfCancel_21 ?_
    refine g_if_eq C dX5_faultOfCancel_24 (tgt := 31) (by decide) (fun hc_2 => ?_) (fun hc_2 => ?_)
    · replace h := (if_pos hc_2).symm.trans h
      refine g_iconst (v := 3) C dX5_faultOfCancel_31 (by decide) ?_
      subst h
      exact g_iret rfl C hr rfl dX5_faultOfCancel_32
    · replace h := (if_neg hc_2).symm.trans h
      refine g_iconst (v := 0) C dX5_faultOfCancel_27 (by decide) ?_
      refine g_goto C dX5_faultOfCancel_28 (tgt := 32) (by decide) ?_
      subst h
      exact g_iret rfl C hr rfl dX5_faultOfCancel_32
  · replace h := (if_pos hc_1).symm.trans h
    refine g_iconst (v := 1) C dX5_faultOfCancel_14 (by decide) ?_
    subst h
    exact g_iret rfl C hr rfl dX5_faultOfCancel_15
theorem in_X5_faultOfFail_RX3 : ∀ w ∈ u_ws RX3 TX3 8, w ∈ wsX5_faultOfFail := by decide +kernel
theorem in_X5_faultOfFail_RX5 : ∀ w ∈ u_ws RX5 TX5 11, w ∈ wsX5_faultOfFail := by decide +kernel
theorem fl_X5_faultOfFail_10 : (Cond.fieldLink RX5 10 RX5 (TX5 0).2.1 (TX5 0).2.2.1) ∈ wsX5_faultOfFail := by decide +kernel
theorem fl_X5_faultOfFail_75 : (Cond.fieldLink RX5 75 RX3 (TX3 0).2.1 (TX3 0).2.2.1) ∈ wsX5_faultOfFail := by decide +kernel
theorem fl_X5_faultOfFail_330 : (Cond.fieldLink RX5 330 RX3 (TX3 6).2.1 (TX3 6).2.2.1) ∈ wsX5_faultOfFail := by decide +kernel
theorem hd_X5_faultOfFail : yX5_faultOfFail.cls = RX5 ∧ yX5_faultOfFail.cls ≠ "java/lang/invoke/MethodHandle" ∧ yX5_faultOfFail.cls ≠ "java/lang/invoke/VarHandle" ∧ (parseMethodDescriptor yX5_faultOfFail.desc).map (fun d => d.parameters.length) = some 2 := by decide +kernel
def f_X5_faultOfFail (X : Nat → Nat → Int32) (v1 v2 : Int32) : Int32 := (if (f_X4_isRow X 2 24 v1) = 0 then (1 : Int32) else (if (f_X5_isWithin v2 (X 1 6) (59 : Int32)) = 0 then (2 : Int32) else (if (f_X4_get X 2 24 v1 (3 : Int32)) = (-1 : Int32) then (0 : Int32) else (3 : Int32))))
set_option maxRecDepth 100000 in
set_option maxHeartbeats 4000000 in
theorem c_X5_faultOfFail (l : Launch) (D : va_G) (cy : Nat → ClassId) (ad : Nat → Nat) (E : va_W) (X : Nat → Nat → Int32) (v1 v2 : Int32) : zMi l yX5_faultOfFail wsX5_faultOfFail (zrm 2) D (zTy cy) (zW cy ad shC E X) [.ref (ad 0), .int v1, .int v2] (f_X5_faultOfFail X v1 v2) (zW cy ad shC E X) := by
  refine zMi.of (cc := cX5_faultOfFail) (maxL := 3) (ret := (some .int)) (by decide) rfl (Nat.le_of_ble_eq_true rfl) ?_
  intro p e s m below meth c A C hr
  generalize h : f_X5_faultOfFail X v1 v2 = res
  unfold f_X5_faultOfFail at h
  refine zG_L (L' := [(0, .ref (ad 0)), (1, .int v1), (2, .int v2)]) rfl ?_
  refine g_aload_n (j := 0) C dX5_faultOfFail_0 rfl rfl ?_
  refine g_getr (k := 0) (N := 11) C sC_0 rfl in_X5_faultOfFail_RX5 (by decide) rfl fl_X5_faultOfFail_10 rfl dX5_faultOfFail_1 ?_
  refine g_getr (k := 0) (N := 8) C sC_1 rfl in_X5_faultOfFail_RX3 (by decide) rfl fl_X5_faultOfFail_75 rfl dX5_faultOfFail_4 ?_
  refine g_iload_n (j := 1) C dX5_faultOfFail_7 rfl rfl ?_
  refine g_vi (ws' := (zW cy ad shC E X)) (As := [.int v1]) (rest := []) (res := (f_X4_isRow X 2 24 v1)) C (c_X4_isRow l D cy ad E X 2 24 sC_2 sC_3 (by decide) v1) gX5_faultOfFail_X4_isRow rfl hd_X4_isRow (zW_get X sC_2) rfl rfl rfl ⟨Nat.le_of_ble_eq_true rfl, Nat.le_of_ble_eq_true rfl⟩ rfl rfl (Nat.le_of_ble_eq_true rfl) ⟨Nat.zero_le _, Nat.zero_le _⟩ dX5_faultOfFail_8 ?_
  refine g_if_ne C dX5_faultOfFail_11 (tgt := 16) (by decide) (fun hc_1 => ?_) (fun hc_1 => ?_)
  · replace h := (if_neg hc_1).symm.trans h
    refine g_iload_n (j := 2) C dX5_faultOfFail_16 rfl rfl ?_
    refine g_aload_n (j := 0) C dX5_faultOfFail_17 rfl rfl ?_
    refine g_getr (k := 0) (N := 11) C sC_0 rfl in_X5_faultOfFail_RX5 (by decide) rfl fl_X5_faultOfFail_10 rfl dX5_faultOfFail_18 ?_
    refine g_geti (k := 6) (N := 8) C sC_1 rfl in_X5_faultOfFail_RX3 (by decide) rfl fl_X5_faultOfFail_330 rfl dX5_faultOfFail_21 ?_
    refine g_bipush (v := 59) C dX5_faultOfFail_24 (by decide) ?_
    refine g_si (ws' := (zW cy ad shC E X)) (As := [.int v2, .int (X 1 6), .int (59 : Int32)]) (rest := []) (res := (f_X5_isWithin v2 (X 1 6) (59 : Int32))) C (c_X5_isWithin l D cy (zW cy ad shC E X) v2 (X 1 6) (59 : Int32)) gX5_faultOfFail_X5_isWithin rfl hd_X5_isWithin rfl rfl ⟨Nat.le_of_ble_eq_true rfl, Nat.le_of_ble_eq_true rfl⟩ rfl rfl (Nat.le_of_ble_eq_true rfl) ⟨Nat.zero_le _, Nat.zero_le _⟩ dX5_faultOfFail_26 ?_
    refine g_if_ne C dX5_faultOfFail_29 (tgt := 34) (by decide) (fun hc_2 => ?_) (fun hc_2 => ?_)
    · replace h := (if_neg hc_2).symm.trans h
      refine g_aload_n (j := 0) C dX5_faultOfFail_34 rfl rfl ?_
      refine g_getr (k := 0) (N := 11) C sC_0 rfl in_X5_faultOfFail_RX5 (by decide) rfl fl_X5_faultOfFail_10 rfl dX5_faultOfFail_35 ?_
      refine g_getr (k := 0) (N := 8) C sC_1 rfl in_X5_faultOfFail_RX3 (by decide) rfl fl_X5_faultOfFail_75 rfl dX5_faultOfFail_38 ?_
      refine g_iload_n (j := 1) C dX5_faultOfFail_41 rfl rfl ?_
      refine g_iconst (v := 3) C dX5_faultOfFail_42 (by decide) ?_
      refine g_vi (ws' := (zW cy ad shC E X)) (As := [.int v1, .int (3 : Int32)]) (rest := []) (res := (f_X4_get X 2 24 v1 (3 : Int32))) C (c_X4_get l D cy ad E X 2 24 sC_2 sC_3 (by decide) v1 (3 : Int32)) gX5_faultOfFail_X4_get rfl hd_X4_get (zW_get X sC_2) rfl rfl rfl ⟨Nat.le_of_ble_eq_true rfl, Nat.le_of_ble_eq_true rfl⟩ rfl rfl (Nat.le_of_ble_eq_true rfl) ⟨Nat.zero_le _, Nat.zero_le _⟩ dX5_faultOfFail_43 ?_
      refine g_iconst (v := -1) C dX5_faultOfFail_46 (by decide) ?_
      refine g_icmp_ne C dX5_faultOfFail_47 (tgt := 54) (by decide) (fun hc_3 => ?_) (fun hc_3 => ?_)
      · replace h := (if_neg hc_3).symm.trans h
        refine g_iconst (v := 3) C dX5_faultOfFail_54 (by decide) ?_
        subst h
        exact g_iret rfl C hr rfl dX5_faultOfFail_55
      · replace h := (if_pos hc_3).symm.trans h
        refine g_iconst (v := 0) C dX5_faultOfFail_50 (by decide) ?_
        refine g_goto C dX5_faultOfFail_51 (tgt := 55) (by decide) ?_
        subst h
        exact g_iret rfl C hr rfl dX5_faultOfFail_55
    · replace h := (if_pos hc_2).symm.trans h
      refine g_iconst (v := 2) C dX5_faultOfFail_32 (by decide) ?_
      subst h
      exact g_iret rfl C hr rfl dX5_faultOfFail_33
  · replace h := (if_pos hc_1).symm.trans h
    refine g_iconst (v := 1) C dX5_faultOfFail_14 (by decide) ?_
    subst h
    exact g_iret rfl C hr rfl dX5_faultOfFail_15
theorem in_X5_faultOfAdvance_RX3 : ∀ w ∈ u_ws RX3 TX3 8, w ∈ wsX5_faultOfAdvance := by decide +kernel
theorem in_X5_faultOfAdvance_RX5 : ∀ w ∈ u_ws RX5 TX5 11, w ∈ wsX5_faultOfAdvance := by decide +kernel
theorem fl_X5_faultOfAdvance_10 : (Cond.fieldLink RX5 10 RX5 (TX5 0).2.1 (TX5 0).2.2.1) ∈ wsX5_faultOfAdvance := by decide +kernel
theorem fl_X5_faultOfAdvance_330 : (Cond.fieldLink RX5 330 RX3 (TX3 6).2.1 (TX3 6).2.2.1) ∈ wsX5_faultOfAdvance := by decide +kernel
theorem hd_X5_faultOfAdvance : yX5_faultOfAdvance.cls = RX5 ∧ yX5_faultOfAdvance.cls ≠ "java/lang/invoke/MethodHandle" ∧ yX5_faultOfAdvance.cls ≠ "java/lang/invoke/VarHandle" ∧ (parseMethodDescriptor yX5_faultOfAdvance.desc).map (fun d => d.parameters.length) = some 1 := by decide +kernel
def f_X5_faultOfAdvance (X : Nat → Nat → Int32) (v1 : Int32) : Int32 := (if (f_X5_isWithin v1 (1 : Int32) (30 : Int32)) = 0 then (2 : Int32) else (if (59 : Int32) < ((X 1 6) + v1) then (2 : Int32) else (0 : Int32)))
set_option maxRecDepth 100000 in
set_option maxHeartbeats 4000000 in
theorem c_X5_faultOfAdvance (l : Launch) (D : va_G) (cy : Nat → ClassId) (ad : Nat → Nat) (E : va_W) (X : Nat → Nat → Int32) (v1 : Int32) : zMi l yX5_faultOfAdvance wsX5_faultOfAdvance (zrm 2) D (zTy cy) (zW cy ad shC E X) [.ref (ad 0), .int v1] (f_X5_faultOfAdvance X v1) (zW cy ad shC E X) := by
  refine zMi.of (cc := cX5_faultOfAdvance) (maxL := 3) (ret := (some .int)) (by decide) rfl (Nat.le_of_ble_eq_true rfl) ?_
  intro p e s m below meth c A C hr
  generalize h : f_X5_faultOfAdvance X v1 = res
  unfold f_X5_faultOfAdvance at h
  refine zG_L (L' := [(0, .ref (ad 0)), (1, .int v1)]) rfl ?_
  refine g_iload_n (j := 1) C dX5_faultOfAdvance_0 rfl rfl ?_
  refine g_iconst (v := 1) C dX5_faultOfAdvance_1 (by decide) ?_
  refine g_bipush (v := 30) C dX5_faultOfAdvance_2 (by decide) ?_
  refine g_si (ws' := (zW cy ad shC E X)) (As := [.int v1, .int (1 : Int32), .int (30 : Int32)]) (rest := []) (res := (f_X5_isWithin v1 (1 : Int32) (30 : Int32))) C (c_X5_isWithin l D cy (zW cy ad shC E X) v1 (1 : Int32) (30 : Int32)) gX5_faultOfAdvance_X5_isWithin rfl hd_X5_isWithin rfl rfl ⟨Nat.le_of_ble_eq_true rfl, Nat.le_of_ble_eq_true rfl⟩ rfl rfl (Nat.le_of_ble_eq_true rfl) ⟨Nat.zero_le _, Nat.zero_le _⟩ dX5_faultOfAdvance_4 ?_
  refine g_if_eq C dX5_faultOfAdvance_7 (tgt := 28) (by decide) (fun hc_1 => ?_) (fun hc_1 => ?_)
  · replace h := (if_pos hc_1).symm.trans h
    refine g_iconst (v := 0) C dX5_faultOfAdvance_28 (by decide) ?_
    refine g_istore_n (L' := [(2, .int (0 : Int32)), (0, .ref (ad 0)), (1, .int v1)]) C dX5_faultOfAdvance_29 rfl (by decide) rfl ?_
    refine g_iload_n (j := 0) C dX5_faultOfAdvance_30 rfl rfl ?_
    refine g_if_eq C dX5_faultOfAdvance_31 (tgt := 38) (by decide) (fun _ => ?_) (fun h9 => absurd h9 (by decide))
    refine g_iconst (v := 2) C dX5_faultOfAdvance_38 (by decide) ?_
    subst h
    exact g_iret rfl C hr rfl dX5_faultOfAdvance_39
  · replace h := (if_neg hc_1).symm.trans h
    refine g_aload_n (j := 0) C dX5_faultOfAdvance_10 rfl rfl ?_
    refine g_getr (k := 0) (N := 11) C sC_0 rfl in_X5_faultOfAdvance_RX5 (by decide) rfl fl_X5_faultOfAdvance_10 rfl dX5_faultOfAdvance_11 ?_
    refine g_geti (k := 6) (N := 8) C sC_1 rfl in_X5_faultOfAdvance_RX3 (by decide) rfl fl_X5_faultOfAdvance_330 rfl dX5_faultOfAdvance_14 ?_
    refine g_iload_n (j := 1) C dX5_faultOfAdvance_17 rfl rfl ?_
    refine g_iadd C dX5_faultOfAdvance_18 ?_
    refine g_bipush (v := 59) C dX5_faultOfAdvance_19 (by decide) ?_
    refine g_icmp_gt C dX5_faultOfAdvance_21 (tgt := 28) (by decide) (fun hc_2 => ?_) (fun hc_2 => ?_)
    · replace h := (if_pos hc_2).symm.trans h
      refine g_iconst (v := 0) C dX5_faultOfAdvance_28 (by decide) ?_
      refine g_istore_n (L' := [(2, .int (0 : Int32)), (0, .ref (ad 0)), (1, .int v1)]) C dX5_faultOfAdvance_29 rfl (by decide) rfl ?_
      refine g_iload_n (j := 0) C dX5_faultOfAdvance_30 rfl rfl ?_
      refine g_if_eq C dX5_faultOfAdvance_31 (tgt := 38) (by decide) (fun _ => ?_) (fun h9 => absurd h9 (by decide))
      refine g_iconst (v := 2) C dX5_faultOfAdvance_38 (by decide) ?_
      subst h
      exact g_iret rfl C hr rfl dX5_faultOfAdvance_39
    · replace h := (if_neg hc_2).symm.trans h
      refine g_iconst (v := 1) C dX5_faultOfAdvance_24 (by decide) ?_
      refine g_goto C dX5_faultOfAdvance_25 (tgt := 29) (by decide) ?_
      refine g_istore_n (L' := [(2, .int (1 : Int32)), (0, .ref (ad 0)), (1, .int v1)]) C dX5_faultOfAdvance_29 rfl (by decide) rfl ?_
      refine g_iload_n (j := 0) C dX5_faultOfAdvance_30 rfl rfl ?_
      refine g_if_eq C dX5_faultOfAdvance_31 (tgt := 38) (by decide) (fun h9 => absurd h9 (by decide)) (fun _ => ?_)
      refine g_iconst (v := 0) C dX5_faultOfAdvance_34 (by decide) ?_
      refine g_goto C dX5_faultOfAdvance_35 (tgt := 39) (by decide) ?_
      subst h
      exact g_iret rfl C hr rfl dX5_faultOfAdvance_39
theorem in_X5_putBack_RX3 : ∀ w ∈ u_ws RX3 TX3 8, w ∈ wsX5_putBack := by decide +kernel
theorem in_X5_putBack_RX5 : ∀ w ∈ u_ws RX5 TX5 11, w ∈ wsX5_putBack := by decide +kernel
theorem fl_X5_putBack_10 : (Cond.fieldLink RX5 10 RX5 (TX5 0).2.1 (TX5 0).2.2.1) ∈ wsX5_putBack := by decide +kernel
theorem fl_X5_putBack_210 : (Cond.fieldLink RX5 210 RX3 (TX3 3).2.1 (TX3 3).2.2.1) ∈ wsX5_putBack := by decide +kernel
theorem fl_X5_putBack_293 : (Cond.fieldLink RX5 293 RX3 (TX3 4).2.1 (TX3 4).2.2.1) ∈ wsX5_putBack := by decide +kernel
theorem hd_X5_putBack : yX5_putBack.cls = RX5 ∧ yX5_putBack.cls ≠ "java/lang/invoke/MethodHandle" ∧ yX5_putBack.cls ≠ "java/lang/invoke/VarHandle" ∧ (parseMethodDescriptor yX5_putBack.desc).map (fun d => d.parameters.length) = some 3 := by decide +kernel
def f_X5_putBack (X : Nat → Nat → Int32) (v1 v2 v3 : Int32) : (Nat → Nat → Int32) := (zlet (f_X3_putShow X (f_X4_get X 10 150 v1 (0 : Int32)) v2 v3) fun X_1 => (zlet (f_X4_put X_1 8 360 (f_X4_get X 10 150 v1 (0 : Int32)) (8 : Int32) (0 : Int32)) fun X_3 => (zlet (f_X4_put X_3 10 150 v1 (2 : Int32) v2) fun X_5 => (zlet (f_X4_put X_5 10 150 v1 (3 : Int32) v3) fun X_7 => X_7))))
set_option maxRecDepth 100000 in
set_option maxHeartbeats 4000000 in
theorem c_X5_putBack (l : Launch) (D : va_G) (cy : Nat → ClassId) (ad : Nat → Nat) (E : va_W) (X : Nat → Nat → Int32) (v1 v2 v3 : Int32) : zMv l yX5_putBack wsX5_putBack (zrm 3) D (zTy cy) (zW cy ad shC E X) [.ref (ad 0), .int v1, .int v2, .int v3] (zW cy ad shC E (f_X5_putBack X v1 v2 v3)) := by
  refine zMv.of (cc := cX5_putBack) (maxL := 5) (ret := none) (by decide) rfl (Nat.le_of_ble_eq_true rfl) ?_
  intro p e s m below meth c A C hr
  generalize h : f_X5_putBack X v1 v2 v3 = res
  unfold f_X5_putBack at h
  refine zG_L (L' := [(0, .ref (ad 0)), (1, .int v1), (2, .int v2), (3, .int v3)]) rfl ?_
  refine g_aload_n (j := 0) C dX5_putBack_0 rfl rfl ?_
  refine g_getr (k := 0) (N := 11) C sC_0 rfl in_X5_putBack_RX5 (by decide) rfl fl_X5_putBack_10 rfl dX5_putBack_1 ?_
  refine g_getr (k := 4) (N := 8) C sC_1 rfl in_X5_putBack_RX3 (by decide) rfl fl_X5_putBack_293 rfl dX5_putBack_4 ?_
  refine g_iload_n (j := 1) C dX5_putBack_7 rfl rfl ?_
  refine g_iconst (v := 0) C dX5_putBack_8 (by decide) ?_
  refine g_vi (ws' := (zW cy ad shC E X)) (As := [.int v1, .int (0 : Int32)]) (rest := []) (res := (f_X4_get X 10 150 v1 (0 : Int32))) C (c_X4_get l D cy ad E X 10 150 sC_10 sC_11 (by decide) v1 (0 : Int32)) gX5_putBack_X4_get rfl hd_X4_get (zW_get X sC_10) rfl rfl rfl ⟨Nat.le_of_ble_eq_true rfl, Nat.le_of_ble_eq_true rfl⟩ rfl rfl (Nat.le_of_ble_eq_true rfl) ⟨Nat.zero_le _, Nat.zero_le _⟩ dX5_putBack_9 ?_
  refine g_istore (L' := [(4, .int (f_X4_get X 10 150 v1 (0 : Int32))), (0, .ref (ad 0)), (1, .int v1), (2, .int v2), (3, .int v3)]) C dX5_putBack_12 (by decide) rfl ?_
  refine g_aload_n (j := 1) C dX5_putBack_14 rfl rfl ?_
  refine g_getr (k := 0) (N := 11) C sC_0 rfl in_X5_putBack_RX5 (by decide) rfl fl_X5_putBack_10 rfl dX5_putBack_15 ?_
  refine g_iload (j := 0) C dX5_putBack_18 rfl ?_
  refine g_iload_n (j := 3) C dX5_putBack_20 rfl rfl ?_
  refine g_iload_n (j := 4) C dX5_putBack_21 rfl rfl ?_
  obtain ⟨X_1, e_2, h⟩ := zlet_ex h
  refine g_vv (ws' := (zW cy ad shC E X_1)) (As := [.int (f_X4_get X 10 150 v1 (0 : Int32)), .int v2, .int v3]) (rest := []) C ((by rw [e_2]; exact c_X3_putShow l D cy ad E X (f_X4_get X 10 150 v1 (0 : Int32)) v2 v3)) gX5_putBack_X3_putShow rfl hd_X3_putShow (zW_get X sC_1) rfl rfl rfl ⟨Nat.le_of_ble_eq_true rfl, Nat.le_of_ble_eq_true rfl⟩ rfl rfl (Nat.le_of_ble_eq_true rfl) ⟨Nat.zero_le _, Nat.zero_le _⟩ dX5_putBack_22 ?_
  refine g_aload_n (j := 1) C dX5_putBack_25 rfl rfl ?_
  refine g_getr (k := 0) (N := 11) C sC_0 rfl in_X5_putBack_RX5 (by decide) rfl fl_X5_putBack_10 rfl dX5_putBack_26 ?_
  refine g_getr (k := 3) (N := 8) C sC_1 rfl in_X5_putBack_RX3 (by decide) rfl fl_X5_putBack_210 rfl dX5_putBack_29 ?_
  refine g_iload (j := 0) C dX5_putBack_32 rfl ?_
  refine g_bipush (v := 8) C dX5_putBack_34 (by decide) ?_
  refine g_iconst (v := 0) C dX5_putBack_36 (by decide) ?_
  obtain ⟨X_3, e_4, h⟩ := zlet_ex h
  refine g_vv (ws' := (zW cy ad shC E X_3)) (As := [.int (f_X4_get X 10 150 v1 (0 : Int32)), .int (8 : Int32), .int (0 : Int32)]) (rest := []) C ((by rw [e_4]; exact c_X4_put l D cy ad E X_1 8 360 sC_8 sC_9 (by decide) (f_X4_get X 10 150 v1 (0 : Int32)) (8 : Int32) (0 : Int32))) gX5_putBack_X4_put rfl hd_X4_put (zW_get X_1 sC_8) rfl rfl rfl ⟨Nat.le_of_ble_eq_true rfl, Nat.le_of_ble_eq_true rfl⟩ rfl rfl (Nat.le_of_ble_eq_true rfl) ⟨Nat.zero_le _, Nat.zero_le _⟩ dX5_putBack_37 ?_
  refine g_aload_n (j := 1) C dX5_putBack_40 rfl rfl ?_
  refine g_getr (k := 0) (N := 11) C sC_0 rfl in_X5_putBack_RX5 (by decide) rfl fl_X5_putBack_10 rfl dX5_putBack_41 ?_
  refine g_getr (k := 4) (N := 8) C sC_1 rfl in_X5_putBack_RX3 (by decide) rfl fl_X5_putBack_293 rfl dX5_putBack_44 ?_
  refine g_iload_n (j := 2) C dX5_putBack_47 rfl rfl ?_
  refine g_iconst (v := 2) C dX5_putBack_48 (by decide) ?_
  refine g_iload_n (j := 3) C dX5_putBack_49 rfl rfl ?_
  obtain ⟨X_5, e_6, h⟩ := zlet_ex h
  refine g_vv (ws' := (zW cy ad shC E X_5)) (As := [.int v1, .int (2 : Int32), .int v2]) (rest := []) C ((by rw [e_6]; exact c_X4_put l D cy ad E X_3 10 150 sC_10 sC_11 (by decide) v1 (2 : Int32) v2)) gX5_putBack_X4_put rfl hd_X4_put (zW_get X_3 sC_10) rfl rfl rfl ⟨Nat.le_of_ble_eq_true rfl, Nat.le_of_ble_eq_true rfl⟩ rfl rfl (Nat.le_of_ble_eq_true rfl) ⟨Nat.zero_le _, Nat.zero_le _⟩ dX5_putBack_50 ?_
  refine g_aload_n (j := 1) C dX5_putBack_53 rfl rfl ?_
  refine g_getr (k := 0) (N := 11) C sC_0 rfl in_X5_putBack_RX5 (by decide) rfl fl_X5_putBack_10 rfl dX5_putBack_54 ?_
  refine g_getr (k := 4) (N := 8) C sC_1 rfl in_X5_putBack_RX3 (by decide) rfl fl_X5_putBack_293 rfl dX5_putBack_57 ?_
  refine g_iload_n (j := 2) C dX5_putBack_60 rfl rfl ?_
  refine g_iconst (v := 3) C dX5_putBack_61 (by decide) ?_
  refine g_iload_n (j := 4) C dX5_putBack_62 rfl rfl ?_
  obtain ⟨X_7, e_8, h⟩ := zlet_ex h
  refine g_vv (ws' := (zW cy ad shC E X_7)) (As := [.int v1, .int (3 : Int32), .int v3]) (rest := []) C ((by rw [e_8]; exact c_X4_put l D cy ad E X_5 10 150 sC_10 sC_11 (by decide) v1 (3 : Int32) v3)) gX5_putBack_X4_put rfl hd_X4_put (zW_get X_5 sC_10) rfl rfl rfl ⟨Nat.le_of_ble_eq_true rfl, Nat.le_of_ble_eq_true rfl⟩ rfl rfl (Nat.le_of_ble_eq_true rfl) ⟨Nat.zero_le _, Nat.zero_le _⟩ dX5_putBack_63 ?_
  subst h
  exact g_vret rfl C hr dX5_putBack_66
theorem in_X5_isPlacedAgain_RX3 : ∀ w ∈ u_ws RX3 TX3 8, w ∈ wsX5_isPlacedAgain := by decide +kernel
theorem in_X5_isPlacedAgain_RX5 : ∀ w ∈ u_ws RX5 TX5 11, w ∈ wsX5_isPlacedAgain := by decide +kernel
theorem fl_X5_isPlacedAgain_10 : (Cond.fieldLink RX5 10 RX5 (TX5 0).2.1 (TX5 0).2.2.1) ∈ wsX5_isPlacedAgain := by decide +kernel
theorem fl_X5_isPlacedAgain_29 : (Cond.fieldLink RX5 29 RX5 (TX5 3).2.1 (TX5 3).2.2.1) ∈ wsX5_isPlacedAgain := by decide +kernel
theorem fl_X5_isPlacedAgain_75 : (Cond.fieldLink RX5 75 RX3 (TX3 0).2.1 (TX3 0).2.2.1) ∈ wsX5_isPlacedAgain := by decide +kernel
theorem fl_X5_isPlacedAgain_210 : (Cond.fieldLink RX5 210 RX3 (TX3 3).2.1 (TX3 3).2.2.1) ∈ wsX5_isPlacedAgain := by decide +kernel
theorem fl_X5_isPlacedAgain_293 : (Cond.fieldLink RX5 293 RX3 (TX3 4).2.1 (TX3 4).2.2.1) ∈ wsX5_isPlacedAgain := by decide +kernel
theorem hd_X5_isPlacedAgain : yX5_isPlacedAgain.cls = RX5 ∧ yX5_isPlacedAgain.cls ≠ "java/lang/invoke/MethodHandle" ∧ yX5_isPlacedAgain.cls ≠ "java/lang/invoke/VarHandle" ∧ (parseMethodDescriptor yX5_isPlacedAgain.desc).map (fun d => d.parameters.length) = some 2 := by decide +kernel
def f_X5_isPlacedAgain_L142 (k : (Nat → Nat → Int32) → Int32 → Option (Int32 × (Nat → Nat → Int32))) (k1 : (Nat → Nat → Int32) → Option (Int32 × (Nat → Nat → Int32))) (v1 : Int32) (v2 : Int32) (v4 : Int32) (v5 : Int32) (v6 : Int32) (v7 : Int32) (v8 : Int32) (v10 : Int32) : Nat → (Nat → Nat → Int32) → Int32 → Option (Int32 × (Nat → Nat → Int32))
  | 0, _, _ => none
  | fu + 1, X, v11 => (if (f_X4_size X 2 24) ≤ v11 then k1 X else (if (f_X5_isMinute v10) = 0 then k1 X else (if v11 = v2 then f_X5_isPlacedAgain_L142 k k1 v1 v2 v4 v5 v6 v7 v8 v10 fu X (v11 + 1) else (if (f_X4_get X 2 24 v11 (0 : Int32)) < v5 then f_X5_isPlacedAgain_L142 k k1 v1 v2 v4 v5 v6 v7 v8 v10 fu X (v11 + 1) else ((f_X2_firstBroken X v11 v10 (v10 + v6)).bind fun q_2009 => (if q_2009.1 = 0 then k q_2009.2 v11 else f_X5_isPlacedAgain_L142 k k1 v1 v2 v4 v5 v6 v7 v8 v10 fu q_2009.2 (v11 + 1)))))))
set_option maxRecDepth 100000 in
set_option maxHeartbeats 4000000 in
theorem w_X5_isPlacedAgain_L142 {p : Program} {e : Env} {s : State} {m : MethodId} {args : Array Value} {below : List Frame} {meth : Method} {c : Code} {A : Nat → Prop} (l : Launch) (D : va_G) (cy : Nat → ClassId) (ad : Nat → Nat) (E : va_W) (k : (Nat → Nat → Int32) → Int32 → Option (Int32 × (Nat → Nat → Int32))) (k1 : (Nat → Nat → Int32) → Option (Int32 × (Nat → Nat → Int32))) (v1 : Int32) (v2 : Int32) (v4 : Int32) (v5 : Int32) (v6 : Int32) (v7 : Int32) (v8 : Int32) (v10 : Int32) {res : Int32 × (Nat → Nat → Int32)} (C : zC p s m args meth c cX5_isPlacedAgain 13 RX5 wsX5_isPlacedAgain D (zTy cy) A) (hr : meth.sig.returnType = (some .boolean)) : ∀ (fu : Nat) (X : Nat → Nat → Int32) (v11 : Int32) (h : f_X5_isPlacedAgain_L142 k k1 v1 v2 v4 v5 v6 v7 v8 v10 fu X v11 = some res) (hk : ∀ (X : Nat → Nat → Int32) (v11 : Int32), k X v11 = some res → zG p l e (headSpec wsX5_isPlacedAgain (zrm 4)).room s m args below meth c 13 D A 0 0 (MQ below (va_Qi (fun (r : Int32) (_ : Unit) => r = res.1) (fun _ t => zB D (zTy cy) A (zW cy ad shC E res.2) t) A) args s 0 0 A) (zW cy ad shC E X) 224 [(0, .ref (ad 0)), (1, .int v1), (10, .int v10), (11, .int v11)] []) (hk1 : ∀ (X : Nat → Nat → Int32), k1 X = some res → zG p l e (headSpec wsX5_isPlacedAgain (zrm 4)).room s m args below meth c 13 D A 0 0 (MQ below (va_Qi (fun (r : Int32) (_ : Unit) => r = res.1) (fun _ t => zB D (zTy cy) A (zW cy ad shC E res.2) t) A) args s 0 0 A) (zW cy ad shC E X) 241 [(0, .ref (ad 0)), (1, .int v1), (2, .int v2), (4, .int v4), (5, .int v5), (6, .int v6), (7, .int v7), (8, .int v8)] []), zG p l e (headSpec wsX5_isPlacedAgain (zrm 4)).room s m args below meth c 13 D A 0 0 (MQ below (va_Qi (fun (r : Int32) (_ : Unit) => r = res.1) (fun _ t => zB D (zTy cy) A (zW cy ad shC E res.2) t) A) args s 0 0 A) (zW cy ad shC E X) 142 [(0, .ref (ad 0)), (1, .int v1), (2, .int v2), (4, .int v4), (5, .int v5), (6, .int v6), (7, .int v7), (8, .int v8), (10, .int v10), (11, .int v11)] [] := by
  intro fu
  induction fu with
  | zero => intro X v11 h hk hk1; simp [f_X5_isPlacedAgain_L142] at h
  | succ fu ih =>
    intro X v11 h hk hk1
    rw [f_X5_isPlacedAgain_L142] at h
    refine g_iload (j := 9) C dX5_isPlacedAgain_142 rfl ?_
    refine g_aload_n (j := 0) C dX5_isPlacedAgain_144 rfl rfl ?_
    refine g_getr (k := 0) (N := 11) C sC_0 rfl in_X5_isPlacedAgain_RX5 (by decide) rfl fl_X5_isPlacedAgain_10 rfl dX5_isPlacedAgain_145 ?_
    refine g_getr (k := 0) (N := 8) C sC_1 rfl in_X5_isPlacedAgain_RX3 (by decide) rfl fl_X5_isPlacedAgain_75 rfl dX5_isPlacedAgain_148 ?_
    refine g_vi (ws' := (zW cy ad shC E X)) (As := []) (rest := [.int v11]) (res := (f_X4_size X 2 24)) C (c_X4_size l D cy ad E X 2 24 sC_2 sC_3 (by decide)) gX5_isPlacedAgain_X4_size rfl hd_X4_size (zW_get X sC_2) rfl rfl rfl ⟨Nat.le_of_ble_eq_true rfl, Nat.le_of_ble_eq_true rfl⟩ rfl rfl (Nat.le_of_ble_eq_true rfl) ⟨Nat.zero_le _, Nat.zero_le _⟩ dX5_isPlacedAgain_151 ?_
    refine g_icmp_ge C dX5_isPlacedAgain_154 (tgt := 241) (by decide) (fun hc_2005 => ?_) (fun hc_2005 => ?_)
    · replace h := (if_pos hc_2005).symm.trans h
      refine zG_sub (L' := [(0, .ref (ad 0)), (1, .int v1), (2, .int v2), (4, .int v4), (5, .int v5), (6, .int v6), (7, .int v7), (8, .int v8)]) [0, 1, 2, 3, 4, 5, 6, 7] rfl ?_
      exact hk1 X h
    · replace h := (if_neg hc_2005).symm.trans h
      refine g_iload (j := 8) C dX5_isPlacedAgain_157 rfl ?_
      refine g_si (ws' := (zW cy ad shC E X)) (As := [.int v10]) (rest := []) (res := (f_X5_isMinute v10)) C (c_X5_isMinute l D cy (zW cy ad shC E X) v10) gX5_isPlacedAgain_X5_isMinute rfl hd_X5_isMinute rfl rfl ⟨Nat.le_of_ble_eq_true rfl, Nat.le_of_ble_eq_true rfl⟩ rfl rfl (Nat.le_of_ble_eq_true rfl) ⟨Nat.zero_le _, Nat.zero_le _⟩ dX5_isPlacedAgain_159 ?_
      refine g_if_eq C dX5_isPlacedAgain_162 (tgt := 241) (by decide) (fun hc_2006 => ?_) (fun hc_2006 => ?_)
      · replace h := (if_pos hc_2006).symm.trans h
        refine zG_sub (L' := [(0, .ref (ad 0)), (1, .int v1), (2, .int v2), (4, .int v4), (5, .int v5), (6, .int v6), (7, .int v7), (8, .int v8)]) [0, 1, 2, 3, 4, 5, 6, 7] rfl ?_
        exact hk1 X h
      · replace h := (if_neg hc_2006).symm.trans h
        refine g_iload (j := 9) C dX5_isPlacedAgain_165 rfl ?_
        refine g_iload_n (j := 2) C dX5_isPlacedAgain_167 rfl rfl ?_
        refine g_icmp_eq C dX5_isPlacedAgain_168 (tgt := 193) (by decide) (fun hc_2007 => ?_) (fun hc_2007 => ?_)
        · replace h := (if_pos hc_2007).symm.trans h
          refine g_iconst (v := 0) C dX5_isPlacedAgain_193 (by decide) ?_
          refine g_istore (L' := [(12, .int (0 : Int32)), (0, .ref (ad 0)), (1, .int v1), (2, .int v2), (4, .int v4), (5, .int v5), (6, .int v6), (7, .int v7), (8, .int v8), (10, .int v10), (11, .int v11)]) C dX5_isPlacedAgain_194 (by decide) rfl ?_
          refine g_iload (j := 0) C dX5_isPlacedAgain_196 rfl ?_
          refine g_if_eq C dX5_isPlacedAgain_198 (tgt := 235) (by decide) (fun _ => ?_) (fun h9 => absurd h9 (by decide))
          refine g_iinc (k := 10) (L' := [(11, .int (v11 + 1)), (12, .int (0 : Int32)), (0, .ref (ad 0)), (1, .int v1), (2, .int v2), (4, .int v4), (5, .int v5), (6, .int v6), (7, .int v7), (8, .int v8), (10, .int v10)]) C dX5_isPlacedAgain_235 rfl (z_iinc (by decide)) (by decide) rfl ?_
          refine g_goto C dX5_isPlacedAgain_238 (tgt := 142) (by decide) ?_
          refine zG_sub (L' := [(0, .ref (ad 0)), (1, .int v1), (2, .int v2), (4, .int v4), (5, .int v5), (6, .int v6), (7, .int v7), (8, .int v8), (10, .int v10), (11, .int (v11 + 1))]) [2, 3, 4, 5, 6, 7, 8, 9, 10, 0] rfl ?_
          exact ih X (v11 + 1) h hk hk1
        · replace h := (if_neg hc_2007).symm.trans h
          refine g_aload_n (j := 0) C dX5_isPlacedAgain_171 rfl rfl ?_
          refine g_getr (k := 0) (N := 11) C sC_0 rfl in_X5_isPlacedAgain_RX5 (by decide) rfl fl_X5_isPlacedAgain_10 rfl dX5_isPlacedAgain_172 ?_
          refine g_getr (k := 0) (N := 8) C sC_1 rfl in_X5_isPlacedAgain_RX3 (by decide) rfl fl_X5_isPlacedAgain_75 rfl dX5_isPlacedAgain_175 ?_
          refine g_iload (j := 9) C dX5_isPlacedAgain_178 rfl ?_
          refine g_iconst (v := 0) C dX5_isPlacedAgain_180 (by decide) ?_
          refine g_vi (ws' := (zW cy ad shC E X)) (As := [.int v11, .int (0 : Int32)]) (rest := []) (res := (f_X4_get X 2 24 v11 (0 : Int32))) C (c_X4_get l D cy ad E X 2 24 sC_2 sC_3 (by decide) v11 (0 : Int32)) gX5_isPlacedAgain_X4_get rfl hd_X4_get (zW_get X sC_2) rfl rfl rfl ⟨Nat.le_of_ble_eq_true rfl, Nat.le_of_ble_eq_true rfl⟩ rfl rfl (Nat.le_of_ble_eq_true rfl) ⟨Nat.zero_le _, Nat.zero_le _⟩ dX5_isPlacedAgain_181 ?_
          refine g_iload (j := 4) C dX5_isPlacedAgain_184 rfl ?_
          refine g_icmp_lt C dX5_isPlacedAgain_186 (tgt := 193) (by decide) (fun hc_2008 => ?_) (fun hc_2008 => ?_)
          · replace h := (if_pos hc_2008).symm.trans h
            refine g_iconst (v := 0) C dX5_isPlacedAgain_193 (by decide) ?_
            refine g_istore (L' := [(12, .int (0 : Int32)), (0, .ref (ad 0)), (1, .int v1), (2, .int v2), (4, .int v4), (5, .int v5), (6, .int v6), (7, .int v7), (8, .int v8), (10, .int v10), (11, .int v11)]) C dX5_isPlacedAgain_194 (by decide) rfl ?_
            refine g_iload (j := 0) C dX5_isPlacedAgain_196 rfl ?_
            refine g_if_eq C dX5_isPlacedAgain_198 (tgt := 235) (by decide) (fun _ => ?_) (fun h9 => absurd h9 (by decide))
            refine g_iinc (k := 10) (L' := [(11, .int (v11 + 1)), (12, .int (0 : Int32)), (0, .ref (ad 0)), (1, .int v1), (2, .int v2), (4, .int v4), (5, .int v5), (6, .int v6), (7, .int v7), (8, .int v8), (10, .int v10)]) C dX5_isPlacedAgain_235 rfl (z_iinc (by decide)) (by decide) rfl ?_
            refine g_goto C dX5_isPlacedAgain_238 (tgt := 142) (by decide) ?_
            refine zG_sub (L' := [(0, .ref (ad 0)), (1, .int v1), (2, .int v2), (4, .int v4), (5, .int v5), (6, .int v6), (7, .int v7), (8, .int v8), (10, .int v10), (11, .int (v11 + 1))]) [2, 3, 4, 5, 6, 7, 8, 9, 10, 0] rfl ?_
            exact ih X (v11 + 1) h hk hk1
          · replace h := (if_neg hc_2008).symm.trans h
            refine g_iconst (v := 1) C dX5_isPlacedAgain_189 (by decide) ?_
            refine g_goto C dX5_isPlacedAgain_190 (tgt := 194) (by decide) ?_
            refine g_istore (L' := [(12, .int (1 : Int32)), (0, .ref (ad 0)), (1, .int v1), (2, .int v2), (4, .int v4), (5, .int v5), (6, .int v6), (7, .int v7), (8, .int v8), (10, .int v10), (11, .int v11)]) C dX5_isPlacedAgain_194 (by decide) rfl ?_
            refine g_iload (j := 0) C dX5_isPlacedAgain_196 rfl ?_
            refine g_if_eq C dX5_isPlacedAgain_198 (tgt := 235) (by decide) (fun h9 => absurd h9 (by decide)) (fun _ => ?_)
            refine g_aload_n (j := 1) C dX5_isPlacedAgain_201 rfl rfl ?_
            refine g_getr (k := 3) (N := 11) C sC_0 rfl in_X5_isPlacedAgain_RX5 (by decide) rfl fl_X5_isPlacedAgain_29 rfl dX5_isPlacedAgain_202 ?_
            refine g_aload_n (j := 1) C dX5_isPlacedAgain_205 rfl rfl ?_
            refine g_getr (k := 0) (N := 11) C sC_0 rfl in_X5_isPlacedAgain_RX5 (by decide) rfl fl_X5_isPlacedAgain_10 rfl dX5_isPlacedAgain_206 ?_
            refine g_iload (j := 10) C dX5_isPlacedAgain_209 rfl ?_
            refine g_iload (j := 9) C dX5_isPlacedAgain_211 rfl ?_
            refine g_iload (j := 9) C dX5_isPlacedAgain_213 rfl ?_
            refine g_iload (j := 6) C dX5_isPlacedAgain_215 rfl ?_
            refine g_iadd C dX5_isPlacedAgain_217 ?_
            obtain ⟨q_2009, hq_2010, h⟩ := bind_isome h
            refine g_vi (ws' := (zW cy ad shC E q_2009.2)) (As := [.ref (ad 1), .int v11, .int v10, .int (v10 + v6)]) (rest := []) (res := q_2009.1) C (c_X2_firstBroken l D cy ad E X v11 v10 (v10 + v6) hq_2010) gX5_isPlacedAgain_X2_firstBroken rfl hd_X2_firstBroken (zW_get X sC_146) rfl rfl rfl ⟨Nat.le_of_ble_eq_true rfl, Nat.le_of_ble_eq_true rfl⟩ rfl rfl (Nat.le_of_ble_eq_true rfl) ⟨Nat.zero_le _, Nat.zero_le _⟩ dX5_isPlacedAgain_218 ?_
            refine g_if_ne C dX5_isPlacedAgain_221 (tgt := 235) (by decide) (fun hc_2011 => ?_) (fun hc_2011 => ?_)
            · replace h := (if_neg hc_2011).symm.trans h
              refine g_iinc (k := 10) (L' := [(11, .int (v11 + 1)), (12, .int (1 : Int32)), (0, .ref (ad 0)), (1, .int v1), (2, .int v2), (4, .int v4), (5, .int v5), (6, .int v6), (7, .int v7), (8, .int v8), (10, .int v10)]) C dX5_isPlacedAgain_235 rfl (z_iinc (by decide)) (by decide) rfl ?_
              refine g_goto C dX5_isPlacedAgain_238 (tgt := 142) (by decide) ?_
              refine zG_sub (L' := [(0, .ref (ad 0)), (1, .int v1), (2, .int v2), (4, .int v4), (5, .int v5), (6, .int v6), (7, .int v7), (8, .int v8), (10, .int v10), (11, .int (v11 + 1))]) [2, 3, 4, 5, 6, 7, 8, 9, 10, 0] rfl ?_
              exact ih q_2009.2 (v11 + 1) h hk hk1
            · replace h := (if_pos hc_2011).symm.trans h
              refine zG_sub (L' := [(0, .ref (ad 0)), (1, .int v1), (10, .int v10), (11, .int v11)]) [1, 2, 9, 10] rfl ?_
              exact hk q_2009.2 v11 h
def f_X5_isPlacedAgain_L100 (k : (Nat → Nat → Int32) → Int32 → Int32 → Option (Int32 × (Nat → Nat → Int32))) (v1 : Int32) (v2 : Int32) (v4 : Int32) (v5 : Int32) (v6 : Int32) (v7 : Int32) : Nat → (Nat → Nat → Int32) → Int32 → Option (Int32 × (Nat → Nat → Int32))
  | 0, _, _ => none
  | fu + 1, X, v8 => (if ((2 : Int32) * v7) < v8 then some ((0 : Int32), X) else (if (v8 - v8 / (2 : Int32) * (2 : Int32)) = 0 then f_X5_isPlacedAgain_L142 (fun X_2016 v11_2015 => k X_2016 (v4 + ((v8 + (1 : Int32)) / (2 : Int32))) v11_2015) (fun X_2017 => f_X5_isPlacedAgain_L100 k v1 v2 v4 v5 v6 v7 fu X_2017 (v8 + 1)) v1 v2 v4 v5 v6 v7 v8 (v4 + ((v8 + (1 : Int32)) / (2 : Int32))) zFuel X (0 : Int32) else f_X5_isPlacedAgain_L142 (fun X_2013 v11_2012 => k X_2013 (v4 - ((v8 + (1 : Int32)) / (2 : Int32))) v11_2012) (fun X_2014 => f_X5_isPlacedAgain_L100 k v1 v2 v4 v5 v6 v7 fu X_2014 (v8 + 1)) v1 v2 v4 v5 v6 v7 v8 (v4 - ((v8 + (1 : Int32)) / (2 : Int32))) zFuel X (0 : Int32)))
set_option maxRecDepth 100000 in
set_option maxHeartbeats 4000000 in
theorem w_X5_isPlacedAgain_L100 {p : Program} {e : Env} {s : State} {m : MethodId} {args : Array Value} {below : List Frame} {meth : Method} {c : Code} {A : Nat → Prop} (l : Launch) (D : va_G) (cy : Nat → ClassId) (ad : Nat → Nat) (E : va_W) (k : (Nat → Nat → Int32) → Int32 → Int32 → Option (Int32 × (Nat → Nat → Int32))) (v1 : Int32) (v2 : Int32) (v4 : Int32) (v5 : Int32) (v6 : Int32) (v7 : Int32) {res : Int32 × (Nat → Nat → Int32)} (C : zC p s m args meth c cX5_isPlacedAgain 13 RX5 wsX5_isPlacedAgain D (zTy cy) A) (hr : meth.sig.returnType = (some .boolean)) : ∀ (fu : Nat) (X : Nat → Nat → Int32) (v8 : Int32) (h : f_X5_isPlacedAgain_L100 k v1 v2 v4 v5 v6 v7 fu X v8 = some res) (hk : ∀ (X : Nat → Nat → Int32) (v10 v11 : Int32), k X v10 v11 = some res → zG p l e (headSpec wsX5_isPlacedAgain (zrm 4)).room s m args below meth c 13 D A 0 0 (MQ below (va_Qi (fun (r : Int32) (_ : Unit) => r = res.1) (fun _ t => zB D (zTy cy) A (zW cy ad shC E res.2) t) A) args s 0 0 A) (zW cy ad shC E X) 224 [(0, .ref (ad 0)), (1, .int v1), (10, .int v10), (11, .int v11)] []), zG p l e (headSpec wsX5_isPlacedAgain (zrm 4)).room s m args below meth c 13 D A 0 0 (MQ below (va_Qi (fun (r : Int32) (_ : Unit) => r = res.1) (fun _ t => zB D (zTy cy) A (zW cy ad shC E res.2) t) A) args s 0 0 A) (zW cy ad shC E X) 100 [(0, .ref (ad 0)), (1, .int v1), (2, .int v2), (4, .int v4), (5, .int v5), (6, .int v6), (7, .int v7), (8, .int v8)] [] := by
  intro fu
  induction fu with
  | zero => intro X v8 h hk; simp [f_X5_isPlacedAgain_L100] at h
  | succ fu ih =>
    intro X v8 h hk
    rw [f_X5_isPlacedAgain_L100] at h
    refine g_iload (j := 7) C dX5_isPlacedAgain_100 rfl ?_
    refine g_iconst (v := 2) C dX5_isPlacedAgain_102 (by decide) ?_
    refine g_iload (j := 6) C dX5_isPlacedAgain_103 rfl ?_
    refine g_imul C dX5_isPlacedAgain_105 ?_
    refine g_icmp_gt C dX5_isPlacedAgain_106 (tgt := 247) (by decide) (fun hc_1003 => ?_) (fun hc_1003 => ?_)
    · replace h := (if_pos hc_1003).symm.trans h
      refine g_iconst (v := 0) C dX5_isPlacedAgain_247 (by decide) ?_
      obtain rfl := Option.some.inj h
      exact g_iret rfl C hr (z_nb (Or.inl rfl)) dX5_isPlacedAgain_248
    · replace h := (if_neg hc_1003).symm.trans h
      refine g_iload (j := 7) C dX5_isPlacedAgain_109 rfl ?_
      refine g_iconst (v := 1) C dX5_isPlacedAgain_111 (by decide) ?_
      refine g_iadd C dX5_isPlacedAgain_112 ?_
      refine g_iconst (v := 2) C dX5_isPlacedAgain_113 (by decide) ?_
      refine g_idiv C dX5_isPlacedAgain_114 (by decide) ?_
      refine g_istore (L' := [(9, .int ((v8 + (1 : Int32)) / (2 : Int32))), (0, .ref (ad 0)), (1, .int v1), (2, .int v2), (4, .int v4), (5, .int v5), (6, .int v6), (7, .int v7), (8, .int v8)]) C dX5_isPlacedAgain_115 (by decide) rfl ?_
      refine g_iload (j := 8) C dX5_isPlacedAgain_117 rfl ?_
      refine g_iconst (v := 2) C dX5_isPlacedAgain_119 (by decide) ?_
      refine g_irem C dX5_isPlacedAgain_120 (by decide) ?_
      refine g_if_ne C dX5_isPlacedAgain_121 (tgt := 132) (by decide) (fun hc_1004 => ?_) (fun hc_1004 => ?_)
      · replace h := (if_neg hc_1004).symm.trans h
        refine g_iload (j := 4) C dX5_isPlacedAgain_132 rfl ?_
        refine g_iload (j := 0) C dX5_isPlacedAgain_134 rfl ?_
        refine g_isub C dX5_isPlacedAgain_136 ?_
        refine g_istore (L' := [(10, .int (v4 - ((v8 + (1 : Int32)) / (2 : Int32)))), (9, .int ((v8 + (1 : Int32)) / (2 : Int32))), (0, .ref (ad 0)), (1, .int v1), (2, .int v2), (4, .int v4), (5, .int v5), (6, .int v6), (7, .int v7), (8, .int v8)]) C dX5_isPlacedAgain_137 (by decide) rfl ?_
        refine g_iconst (v := 0) C dX5_isPlacedAgain_139 (by decide) ?_
        refine g_istore (L' := [(11, .int (0 : Int32)), (10, .int (v4 - ((v8 + (1 : Int32)) / (2 : Int32)))), (9, .int ((v8 + (1 : Int32)) / (2 : Int32))), (0, .ref (ad 0)), (1, .int v1), (2, .int v2), (4, .int v4), (5, .int v5), (6, .int v6), (7, .int v7), (8, .int v8)]) C dX5_isPlacedAgain_140 (by decide) rfl ?_
        refine zG_sub (L' := [(0, .ref (ad 0)), (1, .int v1), (2, .int v2), (4, .int v4), (5, .int v5), (6, .int v6), (7, .int v7), (8, .int v8), (10, .int (v4 - ((v8 + (1 : Int32)) / (2 : Int32)))), (11, .int (0 : Int32))]) [3, 4, 5, 6, 7, 8, 9, 10, 1, 0] rfl ?_
        refine w_X5_isPlacedAgain_L142 l D cy ad E _ _ v1 v2 v4 v5 v6 v7 v8 (v4 - ((v8 + (1 : Int32)) / (2 : Int32))) C hr zFuel X (0 : Int32) h ?_ ?_
        · intro X_2013 v11_2012 h
          refine zG_sub (L' := [(0, .ref (ad 0)), (1, .int v1), (10, .int (v4 - ((v8 + (1 : Int32)) / (2 : Int32)))), (11, .int v11_2012)]) [0, 1, 2, 3] rfl ?_
          exact hk X_2013 (v4 - ((v8 + (1 : Int32)) / (2 : Int32))) v11_2012 h
        · intro X_2014 h
          refine g_iinc (k := 7) (L' := [(8, .int (v8 + 1)), (0, .ref (ad 0)), (1, .int v1), (2, .int v2), (4, .int v4), (5, .int v5), (6, .int v6), (7, .int v7)]) C dX5_isPlacedAgain_241 rfl (z_iinc (by decide)) (by decide) rfl ?_
          refine g_goto C dX5_isPlacedAgain_244 (tgt := 100) (by decide) ?_
          refine zG_sub (L' := [(0, .ref (ad 0)), (1, .int v1), (2, .int v2), (4, .int v4), (5, .int v5), (6, .int v6), (7, .int v7), (8, .int (v8 + 1))]) [1, 2, 3, 4, 5, 6, 7, 0] rfl ?_
          exact ih X_2014 (v8 + 1) h hk
      · replace h := (if_pos hc_1004).symm.trans h
        refine g_iload (j := 4) C dX5_isPlacedAgain_124 rfl ?_
        refine g_iload (j := 0) C dX5_isPlacedAgain_126 rfl ?_
        refine g_iadd C dX5_isPlacedAgain_128 ?_
        refine g_goto C dX5_isPlacedAgain_129 (tgt := 137) (by decide) ?_
        refine g_istore (L' := [(10, .int (v4 + ((v8 + (1 : Int32)) / (2 : Int32)))), (9, .int ((v8 + (1 : Int32)) / (2 : Int32))), (0, .ref (ad 0)), (1, .int v1), (2, .int v2), (4, .int v4), (5, .int v5), (6, .int v6), (7, .int v7), (8, .int v8)]) C dX5_isPlacedAgain_137 (by decide) rfl ?_
        refine g_iconst (v := 0) C dX5_isPlacedAgain_139 (by decide) ?_
        refine g_istore (L' := [(11, .int (0 : Int32)), (10, .int (v4 + ((v8 + (1 : Int32)) / (2 : Int32)))), (9, .int ((v8 + (1 : Int32)) / (2 : Int32))), (0, .ref (ad 0)), (1, .int v1), (2, .int v2), (4, .int v4), (5, .int v5), (6, .int v6), (7, .int v7), (8, .int v8)]) C dX5_isPlacedAgain_140 (by decide) rfl ?_
        refine zG_sub (L' := [(0, .ref (ad 0)), (1, .int v1), (2, .int v2), (4, .int v4), (5, .int v5), (6, .int v6), (7, .int v7), (8, .int v8), (10, .int (v4 + ((v8 + (1 : Int32)) / (2 : Int32)))), (11, .int (0 : Int32))]) [3, 4, 5, 6, 7, 8, 9, 10, 1, 0] rfl ?_
        refine w_X5_isPlacedAgain_L142 l D cy ad E _ _ v1 v2 v4 v5 v6 v7 v8 (v4 + ((v8 + (1 : Int32)) / (2 : Int32))) C hr zFuel X (0 : Int32) h ?_ ?_
        · intro X_2016 v11_2015 h
          refine zG_sub (L' := [(0, .ref (ad 0)), (1, .int v1), (10, .int (v4 + ((v8 + (1 : Int32)) / (2 : Int32)))), (11, .int v11_2015)]) [0, 1, 2, 3] rfl ?_
          exact hk X_2016 (v4 + ((v8 + (1 : Int32)) / (2 : Int32))) v11_2015 h
        · intro X_2017 h
          refine g_iinc (k := 7) (L' := [(8, .int (v8 + 1)), (0, .ref (ad 0)), (1, .int v1), (2, .int v2), (4, .int v4), (5, .int v5), (6, .int v6), (7, .int v7)]) C dX5_isPlacedAgain_241 rfl (z_iinc (by decide)) (by decide) rfl ?_
          refine g_goto C dX5_isPlacedAgain_244 (tgt := 100) (by decide) ?_
          refine zG_sub (L' := [(0, .ref (ad 0)), (1, .int v1), (2, .int v2), (4, .int v4), (5, .int v5), (6, .int v6), (7, .int v7), (8, .int (v8 + 1))]) [1, 2, 3, 4, 5, 6, 7, 0] rfl ?_
          exact ih X_2017 (v8 + 1) h hk
def f_X5_isPlacedAgain (X : Nat → Nat → Int32) (v1 v2 : Int32) : Option (Int32 × (Nat → Nat → Int32)) := ((f_X2_takeUp X (f_X4_get X 10 150 v1 (0 : Int32)) (f_X4_get X 8 360 (f_X4_get X 10 150 v1 (0 : Int32)) (1 : Int32)) (f_X4_get X 8 360 (f_X4_get X 10 150 v1 (0 : Int32)) (2 : Int32))).bind fun q_1 => f_X5_isPlacedAgain_L100 (fun X_2020 v10_2018 v11_2019 => (zlet (f_X5_putBack X_2020 v1 v11_2019 v10_2018) fun X_2021 => some ((1 : Int32), X_2021))) v1 v2 (f_X4_get X 10 150 v1 (1 : Int32)) (f_X4_get X 10 150 v1 (4 : Int32)) (f_X3_minutesOf X (f_X4_get X 10 150 v1 (0 : Int32))) (f_X3_settingOf X (4 : Int32)) zFuel q_1 (0 : Int32))
set_option maxRecDepth 100000 in
set_option maxHeartbeats 4000000 in
theorem c_X5_isPlacedAgain (l : Launch) (D : va_G) (cy : Nat → ClassId) (ad : Nat → Nat) (E : va_W) (X : Nat → Nat → Int32) (v1 v2 : Int32) {res : Int32 × (Nat → Nat → Int32)} (h : f_X5_isPlacedAgain X v1 v2 = some res) : zMi l yX5_isPlacedAgain wsX5_isPlacedAgain (zrm 4) D (zTy cy) (zW cy ad shC E X) [.ref (ad 0), .int v1, .int v2] res.1 (zW cy ad shC E res.2) := by
  refine zMi.of (cc := cX5_isPlacedAgain) (maxL := 13) (ret := (some .boolean)) (by decide) rfl (Nat.le_of_ble_eq_true rfl) ?_
  intro p e s m below meth c A C hr
  unfold f_X5_isPlacedAgain at h
  refine zG_L (L' := [(0, .ref (ad 0)), (1, .int v1), (2, .int v2)]) rfl ?_
  refine g_aload_n (j := 0) C dX5_isPlacedAgain_0 rfl rfl ?_
  refine g_getr (k := 0) (N := 11) C sC_0 rfl in_X5_isPlacedAgain_RX5 (by decide) rfl fl_X5_isPlacedAgain_10 rfl dX5_isPlacedAgain_1 ?_
  refine g_getr (k := 4) (N := 8) C sC_1 rfl in_X5_isPlacedAgain_RX3 (by decide) rfl fl_X5_isPlacedAgain_293 rfl dX5_isPlacedAgain_4 ?_
  refine g_iload_n (j := 1) C dX5_isPlacedAgain_7 rfl rfl ?_
  refine g_iconst (v := 0) C dX5_isPlacedAgain_8 (by decide) ?_
  refine g_vi (ws' := (zW cy ad shC E X)) (As := [.int v1, .int (0 : Int32)]) (rest := []) (res := (f_X4_get X 10 150 v1 (0 : Int32))) C (c_X4_get l D cy ad E X 10 150 sC_10 sC_11 (by decide) v1 (0 : Int32)) gX5_isPlacedAgain_X4_get rfl hd_X4_get (zW_get X sC_10) rfl rfl rfl ⟨Nat.le_of_ble_eq_true rfl, Nat.le_of_ble_eq_true rfl⟩ rfl rfl (Nat.le_of_ble_eq_true rfl) ⟨Nat.zero_le _, Nat.zero_le _⟩ dX5_isPlacedAgain_9 ?_
  refine g_istore_n (L' := [(3, .int (f_X4_get X 10 150 v1 (0 : Int32))), (0, .ref (ad 0)), (1, .int v1), (2, .int v2)]) C dX5_isPlacedAgain_12 rfl (by decide) rfl ?_
  refine g_aload_n (j := 1) C dX5_isPlacedAgain_13 rfl rfl ?_
  refine g_getr (k := 0) (N := 11) C sC_0 rfl in_X5_isPlacedAgain_RX5 (by decide) rfl fl_X5_isPlacedAgain_10 rfl dX5_isPlacedAgain_14 ?_
  refine g_getr (k := 4) (N := 8) C sC_1 rfl in_X5_isPlacedAgain_RX3 (by decide) rfl fl_X5_isPlacedAgain_293 rfl dX5_isPlacedAgain_17 ?_
  refine g_iload_n (j := 2) C dX5_isPlacedAgain_20 rfl rfl ?_
  refine g_iconst (v := 1) C dX5_isPlacedAgain_21 (by decide) ?_
  refine g_vi (ws' := (zW cy ad shC E X)) (As := [.int v1, .int (1 : Int32)]) (rest := []) (res := (f_X4_get X 10 150 v1 (1 : Int32))) C (c_X4_get l D cy ad E X 10 150 sC_10 sC_11 (by decide) v1 (1 : Int32)) gX5_isPlacedAgain_X4_get rfl hd_X4_get (zW_get X sC_10) rfl rfl rfl ⟨Nat.le_of_ble_eq_true rfl, Nat.le_of_ble_eq_true rfl⟩ rfl rfl (Nat.le_of_ble_eq_true rfl) ⟨Nat.zero_le _, Nat.zero_le _⟩ dX5_isPlacedAgain_22 ?_
  refine g_istore (L' := [(4, .int (f_X4_get X 10 150 v1 (1 : Int32))), (3, .int (f_X4_get X 10 150 v1 (0 : Int32))), (0, .ref (ad 0)), (1, .int v1), (2, .int v2)]) C dX5_isPlacedAgain_25 (by decide) rfl ?_
  refine g_aload_n (j := 2) C dX5_isPlacedAgain_27 rfl rfl ?_
  refine g_getr (k := 0) (N := 11) C sC_0 rfl in_X5_isPlacedAgain_RX5 (by decide) rfl fl_X5_isPlacedAgain_10 rfl dX5_isPlacedAgain_28 ?_
  refine g_getr (k := 4) (N := 8) C sC_1 rfl in_X5_isPlacedAgain_RX3 (by decide) rfl fl_X5_isPlacedAgain_293 rfl dX5_isPlacedAgain_31 ?_
  refine g_iload_n (j := 3) C dX5_isPlacedAgain_34 rfl rfl ?_
  refine g_iconst (v := 4) C dX5_isPlacedAgain_35 (by decide) ?_
  refine g_vi (ws' := (zW cy ad shC E X)) (As := [.int v1, .int (4 : Int32)]) (rest := []) (res := (f_X4_get X 10 150 v1 (4 : Int32))) C (c_X4_get l D cy ad E X 10 150 sC_10 sC_11 (by decide) v1 (4 : Int32)) gX5_isPlacedAgain_X4_get rfl hd_X4_get (zW_get X sC_10) rfl rfl rfl ⟨Nat.le_of_ble_eq_true rfl, Nat.le_of_ble_eq_true rfl⟩ rfl rfl (Nat.le_of_ble_eq_true rfl) ⟨Nat.zero_le _, Nat.zero_le _⟩ dX5_isPlacedAgain_36 ?_
  refine g_istore (L' := [(5, .int (f_X4_get X 10 150 v1 (4 : Int32))), (4, .int (f_X4_get X 10 150 v1 (1 : Int32))), (3, .int (f_X4_get X 10 150 v1 (0 : Int32))), (0, .ref (ad 0)), (1, .int v1), (2, .int v2)]) C dX5_isPlacedAgain_39 (by decide) rfl ?_
  refine g_aload_n (j := 3) C dX5_isPlacedAgain_41 rfl rfl ?_
  refine g_getr (k := 0) (N := 11) C sC_0 rfl in_X5_isPlacedAgain_RX5 (by decide) rfl fl_X5_isPlacedAgain_10 rfl dX5_isPlacedAgain_42 ?_
  refine g_iload_n (j := 2) C dX5_isPlacedAgain_45 rfl rfl ?_
  refine g_vi (ws' := (zW cy ad shC E X)) (As := [.int (f_X4_get X 10 150 v1 (0 : Int32))]) (rest := []) (res := (f_X3_minutesOf X (f_X4_get X 10 150 v1 (0 : Int32)))) C (c_X3_minutesOf l D cy ad E X (f_X4_get X 10 150 v1 (0 : Int32))) gX5_isPlacedAgain_X3_minutesOf rfl hd_X3_minutesOf (zW_get X sC_1) rfl rfl rfl ⟨Nat.le_of_ble_eq_true rfl, Nat.le_of_ble_eq_true rfl⟩ rfl rfl (Nat.le_of_ble_eq_true rfl) ⟨Nat.zero_le _, Nat.zero_le _⟩ dX5_isPlacedAgain_46 ?_
  refine g_istore (L' := [(6, .int (f_X3_minutesOf X (f_X4_get X 10 150 v1 (0 : Int32)))), (5, .int (f_X4_get X 10 150 v1 (4 : Int32))), (4, .int (f_X4_get X 10 150 v1 (1 : Int32))), (3, .int (f_X4_get X 10 150 v1 (0 : Int32))), (0, .ref (ad 0)), (1, .int v1), (2, .int v2)]) C dX5_isPlacedAgain_49 (by decide) rfl ?_
  refine g_aload_n (j := 4) C dX5_isPlacedAgain_51 rfl rfl ?_
  refine g_getr (k := 0) (N := 11) C sC_0 rfl in_X5_isPlacedAgain_RX5 (by decide) rfl fl_X5_isPlacedAgain_10 rfl dX5_isPlacedAgain_52 ?_
  refine g_iconst (v := 4) C dX5_isPlacedAgain_55 (by decide) ?_
  refine g_vi (ws' := (zW cy ad shC E X)) (As := [.int (4 : Int32)]) (rest := []) (res := (f_X3_settingOf X (4 : Int32))) C (c_X3_settingOf l D cy ad E X (4 : Int32)) gX5_isPlacedAgain_X3_settingOf rfl hd_X3_settingOf (zW_get X sC_1) rfl rfl rfl ⟨Nat.le_of_ble_eq_true rfl, Nat.le_of_ble_eq_true rfl⟩ rfl rfl (Nat.le_of_ble_eq_true rfl) ⟨Nat.zero_le _, Nat.zero_le _⟩ dX5_isPlacedAgain_56 ?_
  refine g_istore (L' := [(7, .int (f_X3_settingOf X (4 : Int32))), (6, .int (f_X3_minutesOf X (f_X4_get X 10 150 v1 (0 : Int32)))), (5, .int (f_X4_get X 10 150 v1 (4 : Int32))), (4, .int (f_X4_get X 10 150 v1 (1 : Int32))), (3, .int (f_X4_get X 10 150 v1 (0 : Int32))), (0, .ref (ad 0)), (1, .int v1), (2, .int v2)]) C dX5_isPlacedAgain_59 (by decide) rfl ?_
  refine g_aload_n (j := 5) C dX5_isPlacedAgain_61 rfl rfl ?_
  refine g_getr (k := 3) (N := 11) C sC_0 rfl in_X5_isPlacedAgain_RX5 (by decide) rfl fl_X5_isPlacedAgain_29 rfl dX5_isPlacedAgain_62 ?_
  refine g_aload_n (j := 5) C dX5_isPlacedAgain_65 rfl rfl ?_
  refine g_getr (k := 0) (N := 11) C sC_0 rfl in_X5_isPlacedAgain_RX5 (by decide) rfl fl_X5_isPlacedAgain_10 rfl dX5_isPlacedAgain_66 ?_
  refine g_iload_n (j := 4) C dX5_isPlacedAgain_69 rfl rfl ?_
  refine g_aload_n (j := 5) C dX5_isPlacedAgain_70 rfl rfl ?_
  refine g_getr (k := 0) (N := 11) C sC_0 rfl in_X5_isPlacedAgain_RX5 (by decide) rfl fl_X5_isPlacedAgain_10 rfl dX5_isPlacedAgain_71 ?_
  refine g_getr (k := 3) (N := 8) C sC_1 rfl in_X5_isPlacedAgain_RX3 (by decide) rfl fl_X5_isPlacedAgain_210 rfl dX5_isPlacedAgain_74 ?_
  refine g_iload_n (j := 4) C dX5_isPlacedAgain_77 rfl rfl ?_
  refine g_iconst (v := 1) C dX5_isPlacedAgain_78 (by decide) ?_
  refine g_vi (ws' := (zW cy ad shC E X)) (As := [.int (f_X4_get X 10 150 v1 (0 : Int32)), .int (1 : Int32)]) (rest := [.int (f_X4_get X 10 150 v1 (0 : Int32)), .ref (ad 1), .ref (ad 146)]) (res := (f_X4_get X 8 360 (f_X4_get X 10 150 v1 (0 : Int32)) (1 : Int32))) C (c_X4_get l D cy ad E X 8 360 sC_8 sC_9 (by decide) (f_X4_get X 10 150 v1 (0 : Int32)) (1 : Int32)) gX5_isPlacedAgain_X4_get rfl hd_X4_get (zW_get X sC_8) rfl rfl rfl ⟨Nat.le_of_ble_eq_true rfl, Nat.le_of_ble_eq_true rfl⟩ rfl rfl (Nat.le_of_ble_eq_true rfl) ⟨Nat.zero_le _, Nat.zero_le _⟩ dX5_isPlacedAgain_79 ?_
  refine g_aload_n (j := 5) C dX5_isPlacedAgain_82 rfl rfl ?_
  refine g_getr (k := 0) (N := 11) C sC_0 rfl in_X5_isPlacedAgain_RX5 (by decide) rfl fl_X5_isPlacedAgain_10 rfl dX5_isPlacedAgain_83 ?_
  refine g_getr (k := 3) (N := 8) C sC_1 rfl in_X5_isPlacedAgain_RX3 (by decide) rfl fl_X5_isPlacedAgain_210 rfl dX5_isPlacedAgain_86 ?_
  refine g_iload_n (j := 4) C dX5_isPlacedAgain_89 rfl rfl ?_
  refine g_iconst (v := 2) C dX5_isPlacedAgain_90 (by decide) ?_
  refine g_vi (ws' := (zW cy ad shC E X)) (As := [.int (f_X4_get X 10 150 v1 (0 : Int32)), .int (2 : Int32)]) (rest := [.int (f_X4_get X 8 360 (f_X4_get X 10 150 v1 (0 : Int32)) (1 : Int32)), .int (f_X4_get X 10 150 v1 (0 : Int32)), .ref (ad 1), .ref (ad 146)]) (res := (f_X4_get X 8 360 (f_X4_get X 10 150 v1 (0 : Int32)) (2 : Int32))) C (c_X4_get l D cy ad E X 8 360 sC_8 sC_9 (by decide) (f_X4_get X 10 150 v1 (0 : Int32)) (2 : Int32)) gX5_isPlacedAgain_X4_get rfl hd_X4_get (zW_get X sC_8) rfl rfl rfl ⟨Nat.le_of_ble_eq_true rfl, Nat.le_of_ble_eq_true rfl⟩ rfl rfl (Nat.le_of_ble_eq_true rfl) ⟨Nat.zero_le _, Nat.zero_le _⟩ dX5_isPlacedAgain_91 ?_
  obtain ⟨q_1, hq_2, h⟩ := bind_isome h
  refine g_vv (ws' := (zW cy ad shC E q_1)) (As := [.ref (ad 1), .int (f_X4_get X 10 150 v1 (0 : Int32)), .int (f_X4_get X 8 360 (f_X4_get X 10 150 v1 (0 : Int32)) (1 : Int32)), .int (f_X4_get X 8 360 (f_X4_get X 10 150 v1 (0 : Int32)) (2 : Int32))]) (rest := []) C (c_X2_takeUp l D cy ad E X (f_X4_get X 10 150 v1 (0 : Int32)) (f_X4_get X 8 360 (f_X4_get X 10 150 v1 (0 : Int32)) (1 : Int32)) (f_X4_get X 8 360 (f_X4_get X 10 150 v1 (0 : Int32)) (2 : Int32)) hq_2) gX5_isPlacedAgain_X2_takeUp rfl hd_X2_takeUp (zW_get X sC_146) rfl rfl rfl ⟨Nat.le_of_ble_eq_true rfl, Nat.le_of_ble_eq_true rfl⟩ rfl rfl (Nat.le_of_ble_eq_true rfl) ⟨Nat.zero_le _, Nat.zero_le _⟩ dX5_isPlacedAgain_94 ?_
  refine g_iconst (v := 0) C dX5_isPlacedAgain_97 (by decide) ?_
  refine g_istore (L' := [(8, .int (0 : Int32)), (7, .int (f_X3_settingOf X (4 : Int32))), (6, .int (f_X3_minutesOf X (f_X4_get X 10 150 v1 (0 : Int32)))), (5, .int (f_X4_get X 10 150 v1 (4 : Int32))), (4, .int (f_X4_get X 10 150 v1 (1 : Int32))), (3, .int (f_X4_get X 10 150 v1 (0 : Int32))), (0, .ref (ad 0)), (1, .int v1), (2, .int v2)]) C dX5_isPlacedAgain_98 (by decide) rfl ?_
  refine zG_sub (L' := [(0, .ref (ad 0)), (1, .int v1), (2, .int v2), (4, .int (f_X4_get X 10 150 v1 (1 : Int32))), (5, .int (f_X4_get X 10 150 v1 (4 : Int32))), (6, .int (f_X3_minutesOf X (f_X4_get X 10 150 v1 (0 : Int32)))), (7, .int (f_X3_settingOf X (4 : Int32))), (8, .int (0 : Int32))]) [6, 7, 8, 4, 3, 2, 1, 0] rfl ?_
  refine w_X5_isPlacedAgain_L100 l D cy ad E _ v1 v2 (f_X4_get X 10 150 v1 (1 : Int32)) (f_X4_get X 10 150 v1 (4 : Int32)) (f_X3_minutesOf X (f_X4_get X 10 150 v1 (0 : Int32))) (f_X3_settingOf X (4 : Int32)) C hr zFuel q_1 (0 : Int32) h ?_
  intro X_2020 v10_2018 v11_2019 h
  refine g_aload_n (j := 0) C dX5_isPlacedAgain_224 rfl rfl ?_
  refine g_iload_n (j := 1) C dX5_isPlacedAgain_225 rfl rfl ?_
  refine g_iload (j := 3) C dX5_isPlacedAgain_226 rfl ?_
  refine g_iload (j := 2) C dX5_isPlacedAgain_228 rfl ?_
  obtain ⟨X_2021, e_2022, h⟩ := zlet_ex h
  refine g_vv (ws' := (zW cy ad shC E X_2021)) (As := [.int v1, .int v11_2019, .int v10_2018]) (rest := []) C ((by rw [e_2022]; exact c_X5_putBack l D cy ad E X_2020 v1 v11_2019 v10_2018)) gX5_isPlacedAgain_X5_putBack rfl hd_X5_putBack (zW_get X_2020 sC_0) rfl rfl rfl ⟨Nat.le_of_ble_eq_true rfl, Nat.le_of_ble_eq_true rfl⟩ rfl rfl (Nat.le_of_ble_eq_true rfl) ⟨Nat.zero_le _, Nat.zero_le _⟩ dX5_isPlacedAgain_230 ?_
  refine g_iconst (v := 1) C dX5_isPlacedAgain_233 (by decide) ?_
  obtain rfl := Option.some.inj h
  exact g_iret rfl C hr (z_nb (Or.inr rfl)) dX5_isPlacedAgain_234
theorem in_X5_takeOutShows_RX3 : ∀ w ∈ u_ws RX3 TX3 8, w ∈ wsX5_takeOutShows := by decide +kernel
theorem in_X5_takeOutShows_RX5 : ∀ w ∈ u_ws RX5 TX5 11, w ∈ wsX5_takeOutShows := by decide +kernel
theorem fl_X5_takeOutShows_10 : (Cond.fieldLink RX5 10 RX5 (TX5 0).2.1 (TX5 0).2.2.1) ∈ wsX5_takeOutShows := by decide +kernel
theorem fl_X5_takeOutShows_210 : (Cond.fieldLink RX5 210 RX3 (TX3 3).2.1 (TX3 3).2.2.1) ∈ wsX5_takeOutShows := by decide +kernel
theorem fl_X5_takeOutShows_293 : (Cond.fieldLink RX5 293 RX3 (TX3 4).2.1 (TX3 4).2.2.1) ∈ wsX5_takeOutShows := by decide +kernel
theorem hd_X5_takeOutShows : yX5_takeOutShows.cls = RX5 ∧ yX5_takeOutShows.cls ≠ "java/lang/invoke/MethodHandle" ∧ yX5_takeOutShows.cls ≠ "java/lang/invoke/VarHandle" ∧ (parseMethodDescriptor yX5_takeOutShows.desc).map (fun d => d.parameters.length) = some 2 := by decide +kernel
def f_X5_takeOutShows_L33 (k : (Nat → Nat → Int32) → Option (Nat → Nat → Int32)) (v1 : Int32) (v3 : Int32) : Nat → (Nat → Nat → Int32) → Int32 → Int32 → Option (Nat → Nat → Int32)
  | 0, _, _, _ => none
  | fu + 1, X, v4, v5 => (if (30 : Int32) ≤ v5 then k X else (if v4 = (-1 : Int32) then k X else ((f_X4_addRow X 10 150).bind fun q_2008 => (zlet (f_X4_put q_2008.2 10 150 q_2008.1 (0 : Int32) v4) fun X_2010 => (zlet (f_X4_put X_2010 10 150 q_2008.1 (1 : Int32) (f_X4_get X 8 360 v4 (3 : Int32))) fun X_2012 => (zlet (f_X4_put X_2012 10 150 q_2008.1 (2 : Int32) (-1 : Int32)) fun X_2014 => (zlet (f_X4_put X_2014 10 150 q_2008.1 (3 : Int32) (-1 : Int32)) fun X_2016 => (zlet (f_X4_put X_2016 10 150 q_2008.1 (4 : Int32) (f_X4_get X_2016 8 360 v4 (5 : Int32))) fun X_2018 => (zlet (f_X4_put X_2018 8 360 v4 (8 : Int32) (1 : Int32)) fun X_2020 => ((f_X3_showAfter X_2020 v1 v3 (f_X4_get X 8 360 v4 (3 : Int32))).bind fun q_2022 => f_X5_takeOutShows_L33 k v1 v3 fu X_2020 q_2022 (v5 + 1)))))))))))
set_option maxRecDepth 100000 in
set_option maxHeartbeats 4000000 in
theorem w_X5_takeOutShows_L33 {p : Program} {e : Env} {s : State} {m : MethodId} {args : Array Value} {below : List Frame} {meth : Method} {c : Code} {A : Nat → Prop} (l : Launch) (D : va_G) (cy : Nat → ClassId) (ad : Nat → Nat) (E : va_W) (k : (Nat → Nat → Int32) → Option (Nat → Nat → Int32)) (v1 : Int32) (v3 : Int32) {res : (Nat → Nat → Int32)} (C : zC p s m args meth c cX5_takeOutShows 8 RX5 wsX5_takeOutShows D (zTy cy) A) (hr : meth.sig.returnType = none) : ∀ (fu : Nat) (X : Nat → Nat → Int32) (v4 v5 : Int32) (h : f_X5_takeOutShows_L33 k v1 v3 fu X v4 v5 = some res) (hk : ∀ (X : Nat → Nat → Int32), k X = some res → zG p l e (headSpec wsX5_takeOutShows (zrm 4)).room s m args below meth c 8 D A 0 0 (MQ below (va_Qv (fun (_ : Unit) => True) (fun _ t => zB D (zTy cy) A (zW cy ad shC E res) t) A) args s 0 0 A) (zW cy ad shC E X) 191 [(0, .ref (ad 0)), (1, .int v1), (3, .int v3)] []), zG p l e (headSpec wsX5_takeOutShows (zrm 4)).room s m args below meth c 8 D A 0 0 (MQ below (va_Qv (fun (_ : Unit) => True) (fun _ t => zB D (zTy cy) A (zW cy ad shC E res) t) A) args s 0 0 A) (zW cy ad shC E X) 33 [(0, .ref (ad 0)), (1, .int v1), (3, .int v3), (4, .int v4), (5, .int v5)] [] := by
  intro fu
  induction fu with
  | zero => intro X v4 v5 h hk; simp [f_X5_takeOutShows_L33] at h
  | succ fu ih =>
    intro X v4 v5 h hk
    rw [f_X5_takeOutShows_L33] at h
    refine g_iload (j := 4) C dX5_takeOutShows_33 rfl ?_
    refine g_bipush (v := 30) C dX5_takeOutShows_35 (by decide) ?_
    refine g_icmp_ge C dX5_takeOutShows_37 (tgt := 191) (by decide) (fun hc_2006 => ?_) (fun hc_2006 => ?_)
    · replace h := (if_pos hc_2006).symm.trans h
      refine zG_sub (L' := [(0, .ref (ad 0)), (1, .int v1), (3, .int v3)]) [0, 1, 2] rfl ?_
      exact hk X h
    · replace h := (if_neg hc_2006).symm.trans h
      refine g_iload (j := 3) C dX5_takeOutShows_40 rfl ?_
      refine g_iconst (v := -1) C dX5_takeOutShows_42 (by decide) ?_
      refine g_icmp_eq C dX5_takeOutShows_43 (tgt := 191) (by decide) (fun hc_2007 => ?_) (fun hc_2007 => ?_)
      · replace h := (if_pos hc_2007).symm.trans h
        refine zG_sub (L' := [(0, .ref (ad 0)), (1, .int v1), (3, .int v3)]) [0, 1, 2] rfl ?_
        exact hk X h
      · replace h := (if_neg hc_2007).symm.trans h
        refine g_aload_n (j := 0) C dX5_takeOutShows_46 rfl rfl ?_
        refine g_getr (k := 0) (N := 11) C sC_0 rfl in_X5_takeOutShows_RX5 (by decide) rfl fl_X5_takeOutShows_10 rfl dX5_takeOutShows_47 ?_
        refine g_getr (k := 3) (N := 8) C sC_1 rfl in_X5_takeOutShows_RX3 (by decide) rfl fl_X5_takeOutShows_210 rfl dX5_takeOutShows_50 ?_
        refine g_iload (j := 3) C dX5_takeOutShows_53 rfl ?_
        refine g_iconst (v := 3) C dX5_takeOutShows_55 (by decide) ?_
        refine g_vi (ws' := (zW cy ad shC E X)) (As := [.int v4, .int (3 : Int32)]) (rest := []) (res := (f_X4_get X 8 360 v4 (3 : Int32))) C (c_X4_get l D cy ad E X 8 360 sC_8 sC_9 (by decide) v4 (3 : Int32)) gX5_takeOutShows_X4_get rfl hd_X4_get (zW_get X sC_8) rfl rfl rfl ⟨Nat.le_of_ble_eq_true rfl, Nat.le_of_ble_eq_true rfl⟩ rfl rfl (Nat.le_of_ble_eq_true rfl) ⟨Nat.zero_le _, Nat.zero_le _⟩ dX5_takeOutShows_56 ?_
        refine g_istore (L' := [(6, .int (f_X4_get X 8 360 v4 (3 : Int32))), (0, .ref (ad 0)), (1, .int v1), (3, .int v3), (4, .int v4), (5, .int v5)]) C dX5_takeOutShows_59 (by decide) rfl ?_
        refine g_aload_n (j := 1) C dX5_takeOutShows_61 rfl rfl ?_
        refine g_getr (k := 0) (N := 11) C sC_0 rfl in_X5_takeOutShows_RX5 (by decide) rfl fl_X5_takeOutShows_10 rfl dX5_takeOutShows_62 ?_
        refine g_getr (k := 4) (N := 8) C sC_1 rfl in_X5_takeOutShows_RX3 (by decide) rfl fl_X5_takeOutShows_293 rfl dX5_takeOutShows_65 ?_
        obtain ⟨q_2008, hq_2009, h⟩ := bind_isome h
        refine g_vi (ws' := (zW cy ad shC E q_2008.2)) (As := []) (rest := []) (res := q_2008.1) C (c_X4_addRow l D cy ad E X 10 150 sC_10 sC_11 (by decide) hq_2009) gX5_takeOutShows_X4_addRow rfl hd_X4_addRow (zW_get X sC_10) rfl rfl rfl ⟨Nat.le_of_ble_eq_true rfl, Nat.le_of_ble_eq_true rfl⟩ rfl rfl (Nat.le_of_ble_eq_true rfl) ⟨Nat.zero_le _, Nat.zero_le _⟩ dX5_takeOutShows_68 ?_
        refine g_istore (L' := [(7, .int q_2008.1), (6, .int (f_X4_get X 8 360 v4 (3 : Int32))), (0, .ref (ad 0)), (1, .int v1), (3, .int v3), (4, .int v4), (5, .int v5)]) C dX5_takeOutShows_71 (by decide) rfl ?_
        refine g_aload_n (j := 2) C dX5_takeOutShows_73 rfl rfl ?_
        refine g_getr (k := 0) (N := 11) C sC_0 rfl in_X5_takeOutShows_RX5 (by decide) rfl fl_X5_takeOutShows_10 rfl dX5_takeOutShows_74 ?_
        refine g_getr (k := 4) (N := 8) C sC_1 rfl in_X5_takeOutShows_RX3 (by decide) rfl fl_X5_takeOutShows_293 rfl dX5_takeOutShows_77 ?_
        refine g_iload (j := 0) C dX5_takeOutShows_80 rfl ?_
        refine g_iconst (v := 0) C dX5_takeOutShows_82 (by decide) ?_
        refine g_iload (j := 5) C dX5_takeOutShows_83 rfl ?_
        obtain ⟨X_2010, e_2011, h⟩ := zlet_ex h
        refine g_vv (ws' := (zW cy ad shC E X_2010)) (As := [.int q_2008.1, .int (0 : Int32), .int v4]) (rest := []) C ((by rw [e_2011]; exact c_X4_put l D cy ad E q_2008.2 10 150 sC_10 sC_11 (by decide) q_2008.1 (0 : Int32) v4)) gX5_takeOutShows_X4_put rfl hd_X4_put (zW_get q_2008.2 sC_10) rfl rfl rfl ⟨Nat.le_of_ble_eq_true rfl, Nat.le_of_ble_eq_true rfl⟩ rfl rfl (Nat.le_of_ble_eq_true rfl) ⟨Nat.zero_le _, Nat.zero_le _⟩ dX5_takeOutShows_85 ?_
        refine g_aload_n (j := 2) C dX5_takeOutShows_88 rfl rfl ?_
        refine g_getr (k := 0) (N := 11) C sC_0 rfl in_X5_takeOutShows_RX5 (by decide) rfl fl_X5_takeOutShows_10 rfl dX5_takeOutShows_89 ?_
        refine g_getr (k := 4) (N := 8) C sC_1 rfl in_X5_takeOutShows_RX3 (by decide) rfl fl_X5_takeOutShows_293 rfl dX5_takeOutShows_92 ?_
        refine g_iload (j := 0) C dX5_takeOutShows_95 rfl ?_
        refine g_iconst (v := 1) C dX5_takeOutShows_97 (by decide) ?_
        refine g_iload (j := 1) C dX5_takeOutShows_98 rfl ?_
        obtain ⟨X_2012, e_2013, h⟩ := zlet_ex h
        refine g_vv (ws' := (zW cy ad shC E X_2012)) (As := [.int q_2008.1, .int (1 : Int32), .int (f_X4_get X 8 360 v4 (3 : Int32))]) (rest := []) C ((by rw [e_2013]; exact c_X4_put l D cy ad E X_2010 10 150 sC_10 sC_11 (by decide) q_2008.1 (1 : Int32) (f_X4_get X 8 360 v4 (3 : Int32)))) gX5_takeOutShows_X4_put rfl hd_X4_put (zW_get X_2010 sC_10) rfl rfl rfl ⟨Nat.le_of_ble_eq_true rfl, Nat.le_of_ble_eq_true rfl⟩ rfl rfl (Nat.le_of_ble_eq_true rfl) ⟨Nat.zero_le _, Nat.zero_le _⟩ dX5_takeOutShows_100 ?_
        refine g_aload_n (j := 2) C dX5_takeOutShows_103 rfl rfl ?_
        refine g_getr (k := 0) (N := 11) C sC_0 rfl in_X5_takeOutShows_RX5 (by decide) rfl fl_X5_takeOutShows_10 rfl dX5_takeOutShows_104 ?_
        refine g_getr (k := 4) (N := 8) C sC_1 rfl in_X5_takeOutShows_RX3 (by decide) rfl fl_X5_takeOutShows_293 rfl dX5_takeOutShows_107 ?_
        refine g_iload (j := 0) C dX5_takeOutShows_110 rfl ?_
        refine g_iconst (v := 2) C dX5_takeOutShows_112 (by decide) ?_
        refine g_iconst (v := -1) C dX5_takeOutShows_113 (by decide) ?_
        obtain ⟨X_2014, e_2015, h⟩ := zlet_ex h
        refine g_vv (ws' := (zW cy ad shC E X_2014)) (As := [.int q_2008.1, .int (2 : Int32), .int (-1 : Int32)]) (rest := []) C ((by rw [e_2015]; exact c_X4_put l D cy ad E X_2012 10 150 sC_10 sC_11 (by decide) q_2008.1 (2 : Int32) (-1 : Int32))) gX5_takeOutShows_X4_put rfl hd_X4_put (zW_get X_2012 sC_10) rfl rfl rfl ⟨Nat.le_of_ble_eq_true rfl, Nat.le_of_ble_eq_true rfl⟩ rfl rfl (Nat.le_of_ble_eq_true rfl) ⟨Nat.zero_le _, Nat.zero_le _⟩ dX5_takeOutShows_114 ?_
        refine g_aload_n (j := 2) C dX5_takeOutShows_117 rfl rfl ?_
        refine g_getr (k := 0) (N := 11) C sC_0 rfl in_X5_takeOutShows_RX5 (by decide) rfl fl_X5_takeOutShows_10 rfl dX5_takeOutShows_118 ?_
        refine g_getr (k := 4) (N := 8) C sC_1 rfl in_X5_takeOutShows_RX3 (by decide) rfl fl_X5_takeOutShows_293 rfl dX5_takeOutShows_121 ?_
        refine g_iload (j := 0) C dX5_takeOutShows_124 rfl ?_
        refine g_iconst (v := 3) C dX5_takeOutShows_126 (by decide) ?_
        refine g_iconst (v := -1) C dX5_takeOutShows_127 (by decide) ?_
        obtain ⟨X_2016, e_2017, h⟩ := zlet_ex h
        refine g_vv (ws' := (zW cy ad shC E X_2016)) (As := [.int q_2008.1, .int (3 : Int32), .int (-1 : Int32)]) (rest := []) C ((by rw [e_2017]; exact c_X4_put l D cy ad E X_2014 10 150 sC_10 sC_11 (by decide) q_2008.1 (3 : Int32) (-1 : Int32))) gX5_takeOutShows_X4_put rfl hd_X4_put (zW_get X_2014 sC_10) rfl rfl rfl ⟨Nat.le_of_ble_eq_true rfl, Nat.le_of_ble_eq_true rfl⟩ rfl rfl (Nat.le_of_ble_eq_true rfl) ⟨Nat.zero_le _, Nat.zero_le _⟩ dX5_takeOutShows_128 ?_
        refine g_aload_n (j := 2) C dX5_takeOutShows_131 rfl rfl ?_
        refine g_getr (k := 0) (N := 11) C sC_0 rfl in_X5_takeOutShows_RX5 (by decide) rfl fl_X5_takeOutShows_10 rfl dX5_takeOutShows_132 ?_
        refine g_getr (k := 4) (N := 8) C sC_1 rfl in_X5_takeOutShows_RX3 (by decide) rfl fl_X5_takeOutShows_293 rfl dX5_takeOutShows_135 ?_
        refine g_iload (j := 0) C dX5_takeOutShows_138 rfl ?_
        refine g_iconst (v := 4) C dX5_takeOutShows_140 (by decide) ?_
        refine g_aload_n (j := 2) C dX5_takeOutShows_141 rfl rfl ?_
        refine g_getr (k := 0) (N := 11) C sC_0 rfl in_X5_takeOutShows_RX5 (by decide) rfl fl_X5_takeOutShows_10 rfl dX5_takeOutShows_142 ?_
        refine g_getr (k := 3) (N := 8) C sC_1 rfl in_X5_takeOutShows_RX3 (by decide) rfl fl_X5_takeOutShows_210 rfl dX5_takeOutShows_145 ?_
        refine g_iload (j := 5) C dX5_takeOutShows_148 rfl ?_
        refine g_iconst (v := 5) C dX5_takeOutShows_150 (by decide) ?_
        refine g_vi (ws' := (zW cy ad shC E X_2016)) (As := [.int v4, .int (5 : Int32)]) (rest := [.int (4 : Int32), .int q_2008.1, .ref (ad 10)]) (res := (f_X4_get X_2016 8 360 v4 (5 : Int32))) C (c_X4_get l D cy ad E X_2016 8 360 sC_8 sC_9 (by decide) v4 (5 : Int32)) gX5_takeOutShows_X4_get rfl hd_X4_get (zW_get X_2016 sC_8) rfl rfl rfl ⟨Nat.le_of_ble_eq_true rfl, Nat.le_of_ble_eq_true rfl⟩ rfl rfl (Nat.le_of_ble_eq_true rfl) ⟨Nat.zero_le _, Nat.zero_le _⟩ dX5_takeOutShows_151 ?_
        obtain ⟨X_2018, e_2019, h⟩ := zlet_ex h
        refine g_vv (ws' := (zW cy ad shC E X_2018)) (As := [.int q_2008.1, .int (4 : Int32), .int (f_X4_get X_2016 8 360 v4 (5 : Int32))]) (rest := []) C ((by rw [e_2019]; exact c_X4_put l D cy ad E X_2016 10 150 sC_10 sC_11 (by decide) q_2008.1 (4 : Int32) (f_X4_get X_2016 8 360 v4 (5 : Int32)))) gX5_takeOutShows_X4_put rfl hd_X4_put (zW_get X_2016 sC_10) rfl rfl rfl ⟨Nat.le_of_ble_eq_true rfl, Nat.le_of_ble_eq_true rfl⟩ rfl rfl (Nat.le_of_ble_eq_true rfl) ⟨Nat.zero_le _, Nat.zero_le _⟩ dX5_takeOutShows_154 ?_
        refine g_aload_n (j := 2) C dX5_takeOutShows_157 rfl rfl ?_
        refine g_getr (k := 0) (N := 11) C sC_0 rfl in_X5_takeOutShows_RX5 (by decide) rfl fl_X5_takeOutShows_10 rfl dX5_takeOutShows_158 ?_
        refine g_getr (k := 3) (N := 8) C sC_1 rfl in_X5_takeOutShows_RX3 (by decide) rfl fl_X5_takeOutShows_210 rfl dX5_takeOutShows_161 ?_
        refine g_iload (j := 5) C dX5_takeOutShows_164 rfl ?_
        refine g_bipush (v := 8) C dX5_takeOutShows_166 (by decide) ?_
        refine g_iconst (v := 1) C dX5_takeOutShows_168 (by decide) ?_
        obtain ⟨X_2020, e_2021, h⟩ := zlet_ex h
        refine g_vv (ws' := (zW cy ad shC E X_2020)) (As := [.int v4, .int (8 : Int32), .int (1 : Int32)]) (rest := []) C ((by rw [e_2021]; exact c_X4_put l D cy ad E X_2018 8 360 sC_8 sC_9 (by decide) v4 (8 : Int32) (1 : Int32))) gX5_takeOutShows_X4_put rfl hd_X4_put (zW_get X_2018 sC_8) rfl rfl rfl ⟨Nat.le_of_ble_eq_true rfl, Nat.le_of_ble_eq_true rfl⟩ rfl rfl (Nat.le_of_ble_eq_true rfl) ⟨Nat.zero_le _, Nat.zero_le _⟩ dX5_takeOutShows_169 ?_
        refine g_aload_n (j := 2) C dX5_takeOutShows_172 rfl rfl ?_
        refine g_getr (k := 0) (N := 11) C sC_0 rfl in_X5_takeOutShows_RX5 (by decide) rfl fl_X5_takeOutShows_10 rfl dX5_takeOutShows_173 ?_
        refine g_iload_n (j := 3) C dX5_takeOutShows_176 rfl rfl ?_
        refine g_iload_n (j := 4) C dX5_takeOutShows_177 rfl rfl ?_
        refine g_iload (j := 1) C dX5_takeOutShows_178 rfl ?_
        obtain ⟨q_2022, hq_2023, h⟩ := bind_isome h
        refine g_vi (ws' := (zW cy ad shC E X_2020)) (As := [.int v1, .int v3, .int (f_X4_get X 8 360 v4 (3 : Int32))]) (rest := []) (res := q_2022) C (c_X3_showAfter l D cy ad E X_2020 v1 v3 (f_X4_get X 8 360 v4 (3 : Int32)) hq_2023) gX5_takeOutShows_X3_showAfter rfl hd_X3_showAfter (zW_get X_2020 sC_1) rfl rfl rfl ⟨Nat.le_of_ble_eq_true rfl, Nat.le_of_ble_eq_true rfl⟩ rfl rfl (Nat.le_of_ble_eq_true rfl) ⟨Nat.zero_le _, Nat.zero_le _⟩ dX5_takeOutShows_180 ?_
        refine g_istore (L' := [(4, .int q_2022), (7, .int q_2008.1), (6, .int (f_X4_get X 8 360 v4 (3 : Int32))), (0, .ref (ad 0)), (1, .int v1), (3, .int v3), (5, .int v5)]) C dX5_takeOutShows_183 (by decide) rfl ?_
        refine g_iinc (k := 6) (L' := [(5, .int (v5 + 1)), (4, .int q_2022), (7, .int q_2008.1), (6, .int (f_X4_get X 8 360 v4 (3 : Int32))), (0, .ref (ad 0)), (1, .int v1), (3, .int v3)]) C dX5_takeOutShows_185 rfl (z_iinc (by decide)) (by decide) rfl ?_
        refine g_goto C dX5_takeOutShows_188 (tgt := 33) (by decide) ?_
        refine zG_sub (L' := [(0, .ref (ad 0)), (1, .int v1), (3, .int v3), (4, .int q_2022), (5, .int (v5 + 1))]) [4, 5, 6, 1, 0] rfl ?_
        exact ih X_2020 q_2022 (v5 + 1) h hk
def f_X5_takeOutShows_L12 (v1 : Int32) : Nat → (Nat → Nat → Int32) → Int32 → Option (Nat → Nat → Int32)
  | 0, _, _ => none
  | fu + 1, X, v3 => (if (59 : Int32) < v3 then some X else ((f_X3_showAfter X v1 v3 (-1 : Int32)).bind fun q_1004 => f_X5_takeOutShows_L33 (fun X_2024 => f_X5_takeOutShows_L12 v1 fu X_2024 (v3 + 1)) v1 v3 zFuel X q_1004 (0 : Int32)))
set_option maxRecDepth 100000 in
set_option maxHeartbeats 4000000 in
theorem w_X5_takeOutShows_L12 {p : Program} {e : Env} {s : State} {m : MethodId} {args : Array Value} {below : List Frame} {meth : Method} {c : Code} {A : Nat → Prop} (l : Launch) (D : va_G) (cy : Nat → ClassId) (ad : Nat → Nat) (E : va_W) (v1 : Int32) {res : (Nat → Nat → Int32)} (C : zC p s m args meth c cX5_takeOutShows 8 RX5 wsX5_takeOutShows D (zTy cy) A) (hr : meth.sig.returnType = none) : ∀ (fu : Nat) (X : Nat → Nat → Int32) (v3 : Int32) (h : f_X5_takeOutShows_L12 v1 fu X v3 = some res), zG p l e (headSpec wsX5_takeOutShows (zrm 4)).room s m args below meth c 8 D A 0 0 (MQ below (va_Qv (fun (_ : Unit) => True) (fun _ t => zB D (zTy cy) A (zW cy ad shC E res) t) A) args s 0 0 A) (zW cy ad shC E X) 12 [(0, .ref (ad 0)), (1, .int v1), (3, .int v3)] [] := by
  intro fu
  induction fu with
  | zero => intro X v3 h; simp [f_X5_takeOutShows_L12] at h
  | succ fu ih =>
    intro X v3 h
    rw [f_X5_takeOutShows_L12] at h
    refine g_iload_n (j := 2) C dX5_takeOutShows_12 rfl rfl ?_
    refine g_bipush (v := 59) C dX5_takeOutShows_13 (by decide) ?_
    refine g_icmp_gt C dX5_takeOutShows_15 (tgt := 197) (by decide) (fun hc_1003 => ?_) (fun hc_1003 => ?_)
    · replace h := (if_pos hc_1003).symm.trans h
      obtain rfl := Option.some.inj h
      exact g_vret rfl C hr dX5_takeOutShows_197
    · replace h := (if_neg hc_1003).symm.trans h
      refine g_aload_n (j := 0) C dX5_takeOutShows_18 rfl rfl ?_
      refine g_getr (k := 0) (N := 11) C sC_0 rfl in_X5_takeOutShows_RX5 (by decide) rfl fl_X5_takeOutShows_10 rfl dX5_takeOutShows_19 ?_
      refine g_iload_n (j := 1) C dX5_takeOutShows_22 rfl rfl ?_
      refine g_iload_n (j := 2) C dX5_takeOutShows_23 rfl rfl ?_
      refine g_iconst (v := -1) C dX5_takeOutShows_24 (by decide) ?_
      obtain ⟨q_1004, hq_1005, h⟩ := bind_isome h
      refine g_vi (ws' := (zW cy ad shC E X)) (As := [.int v1, .int v3, .int (-1 : Int32)]) (rest := []) (res := q_1004) C (c_X3_showAfter l D cy ad E X v1 v3 (-1 : Int32) hq_1005) gX5_takeOutShows_X3_showAfter rfl hd_X3_showAfter (zW_get X sC_1) rfl rfl rfl ⟨Nat.le_of_ble_eq_true rfl, Nat.le_of_ble_eq_true rfl⟩ rfl rfl (Nat.le_of_ble_eq_true rfl) ⟨Nat.zero_le _, Nat.zero_le _⟩ dX5_takeOutShows_25 ?_
      refine g_istore (L' := [(4, .int q_1004), (0, .ref (ad 0)), (1, .int v1), (3, .int v3)]) C dX5_takeOutShows_28 (by decide) rfl ?_
      refine g_iconst (v := 0) C dX5_takeOutShows_30 (by decide) ?_
      refine g_istore (L' := [(5, .int (0 : Int32)), (4, .int q_1004), (0, .ref (ad 0)), (1, .int v1), (3, .int v3)]) C dX5_takeOutShows_31 (by decide) rfl ?_
      refine zG_sub (L' := [(0, .ref (ad 0)), (1, .int v1), (3, .int v3), (4, .int q_1004), (5, .int (0 : Int32))]) [2, 3, 4, 1, 0] rfl ?_
      refine w_X5_takeOutShows_L33 l D cy ad E _ v1 v3 C hr zFuel X q_1004 (0 : Int32) h ?_
      intro X_2024 h
      refine g_iinc (k := 2) (L' := [(3, .int (v3 + 1)), (0, .ref (ad 0)), (1, .int v1)]) C dX5_takeOutShows_191 rfl (z_iinc (by decide)) (by decide) rfl ?_
      refine g_goto C dX5_takeOutShows_194 (tgt := 12) (by decide) ?_
      refine zG_sub (L' := [(0, .ref (ad 0)), (1, .int v1), (3, .int (v3 + 1))]) [1, 2, 0] rfl ?_
      exact ih X_2024 (v3 + 1) h
def f_X5_takeOutShows (X : Nat → Nat → Int32) (v1 v2 : Int32) : Option (Nat → Nat → Int32) := (zlet (f_X4_clear X 10 150) fun X_1 => f_X5_takeOutShows_L12 v1 zFuel X_1 v2)
set_option maxRecDepth 100000 in
set_option maxHeartbeats 4000000 in
theorem c_X5_takeOutShows (l : Launch) (D : va_G) (cy : Nat → ClassId) (ad : Nat → Nat) (E : va_W) (X : Nat → Nat → Int32) (v1 v2 : Int32) {res : (Nat → Nat → Int32)} (h : f_X5_takeOutShows X v1 v2 = some res) : zMv l yX5_takeOutShows wsX5_takeOutShows (zrm 4) D (zTy cy) (zW cy ad shC E X) [.ref (ad 0), .int v1, .int v2] (zW cy ad shC E res) := by
  refine zMv.of (cc := cX5_takeOutShows) (maxL := 8) (ret := none) (by decide) rfl (Nat.le_of_ble_eq_true rfl) ?_
  intro p e s m below meth c A C hr
  unfold f_X5_takeOutShows at h
  refine zG_L (L' := [(0, .ref (ad 0)), (1, .int v1), (2, .int v2)]) rfl ?_
  refine g_aload_n (j := 0) C dX5_takeOutShows_0 rfl rfl ?_
  refine g_getr (k := 0) (N := 11) C sC_0 rfl in_X5_takeOutShows_RX5 (by decide) rfl fl_X5_takeOutShows_10 rfl dX5_takeOutShows_1 ?_
  refine g_getr (k := 4) (N := 8) C sC_1 rfl in_X5_takeOutShows_RX3 (by decide) rfl fl_X5_takeOutShows_293 rfl dX5_takeOutShows_4 ?_
  obtain ⟨X_1, e_2, h⟩ := zlet_ex h
  refine g_vv (ws' := (zW cy ad shC E X_1)) (As := []) (rest := []) C ((by rw [e_2]; exact c_X4_clear l D cy ad E X 10 150 sC_10 sC_11 (by decide))) gX5_takeOutShows_X4_clear rfl hd_X4_clear (zW_get X sC_10) rfl rfl rfl ⟨Nat.le_of_ble_eq_true rfl, Nat.le_of_ble_eq_true rfl⟩ rfl rfl (Nat.le_of_ble_eq_true rfl) ⟨Nat.zero_le _, Nat.zero_le _⟩ dX5_takeOutShows_7 ?_
  refine g_iload_n (j := 2) C dX5_takeOutShows_10 rfl rfl ?_
  refine g_istore_n (L' := [(3, .int v2), (0, .ref (ad 0)), (1, .int v1), (2, .int v2)]) C dX5_takeOutShows_11 rfl (by decide) rfl ?_
  refine zG_sub (L' := [(0, .ref (ad 0)), (1, .int v1), (3, .int v2)]) [1, 2, 0] rfl ?_
  exact w_X5_takeOutShows_L12 l D cy ad E v1 C hr zFuel X_1 v2 h
theorem in_X5_closeHall_RX3 : ∀ w ∈ u_ws RX3 TX3 8, w ∈ wsX5_closeHall := by decide +kernel
theorem in_X5_closeHall_RX5 : ∀ w ∈ u_ws RX5 TX5 11, w ∈ wsX5_closeHall := by decide +kernel
theorem fl_X5_closeHall_10 : (Cond.fieldLink RX5 10 RX5 (TX5 0).2.1 (TX5 0).2.2.1) ∈ wsX5_closeHall := by decide +kernel
theorem fl_X5_closeHall_75 : (Cond.fieldLink RX5 75 RX3 (TX3 0).2.1 (TX3 0).2.2.1) ∈ wsX5_closeHall := by decide +kernel
theorem fl_X5_closeHall_293 : (Cond.fieldLink RX5 293 RX3 (TX3 4).2.1 (TX3 4).2.2.1) ∈ wsX5_closeHall := by decide +kernel
theorem hd_X5_closeHall : yX5_closeHall.cls = RX5 ∧ yX5_closeHall.cls ≠ "java/lang/invoke/MethodHandle" ∧ yX5_closeHall.cls ≠ "java/lang/invoke/VarHandle" ∧ (parseMethodDescriptor yX5_closeHall.desc).map (fun d => d.parameters.length) = some 2 := by decide +kernel
def f_X5_closeHall_L24 (v1 : Int32) : Nat → (Nat → Nat → Int32) → Int32 → Int32 → Option (Int32 × (Nat → Nat → Int32))
  | 0, _, _, _ => none
  | fu + 1, X, v3, v4 => (if (f_X4_size X 10 150) ≤ v4 then some (v3, X) else ((f_X5_isPlacedAgain X v4 v1).bind fun q_1006 => (if q_1006.1 = 0 then (zlet (f_X3_dropShow q_1006.2 (f_X4_get q_1006.2 10 150 v4 (0 : Int32))) fun q_1009 => f_X5_closeHall_L24 v1 fu q_1009.2 (v3 + 1) (v4 + 1)) else f_X5_closeHall_L24 v1 fu q_1006.2 v3 (v4 + 1))))
set_option maxRecDepth 100000 in
set_option maxHeartbeats 4000000 in
theorem w_X5_closeHall_L24 {p : Program} {e : Env} {s : State} {m : MethodId} {args : Array Value} {below : List Frame} {meth : Method} {c : Code} {A : Nat → Prop} (l : Launch) (D : va_G) (cy : Nat → ClassId) (ad : Nat → Nat) (E : va_W) (v1 : Int32) {res : Int32 × (Nat → Nat → Int32)} (C : zC p s m args meth c cX5_closeHall 5 RX5 wsX5_closeHall D (zTy cy) A) (hr : meth.sig.returnType = (some .int)) : ∀ (fu : Nat) (X : Nat → Nat → Int32) (v3 v4 : Int32) (h : f_X5_closeHall_L24 v1 fu X v3 v4 = some res), zG p l e (headSpec wsX5_closeHall (zrm 5)).room s m args below meth c 5 D A 0 0 (MQ below (va_Qi (fun (r : Int32) (_ : Unit) => r = res.1) (fun _ t => zB D (zTy cy) A (zW cy ad shC E res.2) t) A) args s 0 0 A) (zW cy ad shC E X) 24 [(0, .ref (ad 0)), (1, .int v1), (3, .int v3), (4, .int v4)] [] := by
  intro fu
  induction fu with
  | zero => intro X v3 v4 h; simp [f_X5_closeHall_L24] at h
  | succ fu ih =>
    intro X v3 v4 h
    rw [f_X5_closeHall_L24] at h
    refine g_iload (j := 3) C dX5_closeHall_24 rfl ?_
    refine g_aload_n (j := 0) C dX5_closeHall_26 rfl rfl ?_
    refine g_getr (k := 0) (N := 11) C sC_0 rfl in_X5_closeHall_RX5 (by decide) rfl fl_X5_closeHall_10 rfl dX5_closeHall_27 ?_
    refine g_getr (k := 4) (N := 8) C sC_1 rfl in_X5_closeHall_RX3 (by decide) rfl fl_X5_closeHall_293 rfl dX5_closeHall_30 ?_
    refine g_vi (ws' := (zW cy ad shC E X)) (As := []) (rest := [.int v4]) (res := (f_X4_size X 10 150)) C (c_X4_size l D cy ad E X 10 150 sC_10 sC_11 (by decide)) gX5_closeHall_X4_size rfl hd_X4_size (zW_get X sC_10) rfl rfl rfl ⟨Nat.le_of_ble_eq_true rfl, Nat.le_of_ble_eq_true rfl⟩ rfl rfl (Nat.le_of_ble_eq_true rfl) ⟨Nat.zero_le _, Nat.zero_le _⟩ dX5_closeHall_33 ?_
    refine g_icmp_ge C dX5_closeHall_36 (tgt := 79) (by decide) (fun hc_1005 => ?_) (fun hc_1005 => ?_)
    · replace h := (if_pos hc_1005).symm.trans h
      refine g_iload_n (j := 2) C dX5_closeHall_79 rfl rfl ?_
      obtain rfl := Option.some.inj h
      exact g_iret rfl C hr rfl dX5_closeHall_80
    · replace h := (if_neg hc_1005).symm.trans h
      refine g_aload_n (j := 0) C dX5_closeHall_39 rfl rfl ?_
      refine g_iload (j := 3) C dX5_closeHall_40 rfl ?_
      refine g_iload_n (j := 1) C dX5_closeHall_42 rfl rfl ?_
      obtain ⟨q_1006, hq_1007, h⟩ := bind_isome h
      refine g_vi (ws' := (zW cy ad shC E q_1006.2)) (As := [.int v4, .int v1]) (rest := []) (res := q_1006.1) C (c_X5_isPlacedAgain l D cy ad E X v4 v1 hq_1007) gX5_closeHall_X5_isPlacedAgain rfl hd_X5_isPlacedAgain (zW_get X sC_0) rfl rfl rfl ⟨Nat.le_of_ble_eq_true rfl, Nat.le_of_ble_eq_true rfl⟩ rfl rfl (Nat.le_of_ble_eq_true rfl) ⟨Nat.zero_le _, Nat.zero_le _⟩ dX5_closeHall_43 ?_
      refine g_if_ne C dX5_closeHall_46 (tgt := 73) (by decide) (fun hc_1008 => ?_) (fun hc_1008 => ?_)
      · replace h := (if_neg hc_1008).symm.trans h
        refine g_iinc (k := 3) (L' := [(4, .int (v4 + 1)), (0, .ref (ad 0)), (1, .int v1), (3, .int v3)]) C dX5_closeHall_73 rfl (z_iinc (by decide)) (by decide) rfl ?_
        refine g_goto C dX5_closeHall_76 (tgt := 24) (by decide) ?_
        refine zG_sub (L' := [(0, .ref (ad 0)), (1, .int v1), (3, .int v3), (4, .int (v4 + 1))]) [1, 2, 3, 0] rfl ?_
        exact ih q_1006.2 v3 (v4 + 1) h
      · replace h := (if_pos hc_1008).symm.trans h
        refine g_aload_n (j := 0) C dX5_closeHall_49 rfl rfl ?_
        refine g_getr (k := 0) (N := 11) C sC_0 rfl in_X5_closeHall_RX5 (by decide) rfl fl_X5_closeHall_10 rfl dX5_closeHall_50 ?_
        refine g_aload_n (j := 0) C dX5_closeHall_53 rfl rfl ?_
        refine g_getr (k := 0) (N := 11) C sC_0 rfl in_X5_closeHall_RX5 (by decide) rfl fl_X5_closeHall_10 rfl dX5_closeHall_54 ?_
        refine g_getr (k := 4) (N := 8) C sC_1 rfl in_X5_closeHall_RX3 (by decide) rfl fl_X5_closeHall_293 rfl dX5_closeHall_57 ?_
        refine g_iload (j := 3) C dX5_closeHall_60 rfl ?_
        refine g_iconst (v := 0) C dX5_closeHall_62 (by decide) ?_
        refine g_vi (ws' := (zW cy ad shC E q_1006.2)) (As := [.int v4, .int (0 : Int32)]) (rest := [.ref (ad 1)]) (res := (f_X4_get q_1006.2 10 150 v4 (0 : Int32))) C (c_X4_get l D cy ad E q_1006.2 10 150 sC_10 sC_11 (by decide) v4 (0 : Int32)) gX5_closeHall_X4_get rfl hd_X4_get (zW_get q_1006.2 sC_10) rfl rfl rfl ⟨Nat.le_of_ble_eq_true rfl, Nat.le_of_ble_eq_true rfl⟩ rfl rfl (Nat.le_of_ble_eq_true rfl) ⟨Nat.zero_le _, Nat.zero_le _⟩ dX5_closeHall_63 ?_
        obtain ⟨q_1009, e_1010, h⟩ := zlet_ex h
        refine g_vi (ws' := (zW cy ad shC E q_1009.2)) (As := [.int (f_X4_get q_1006.2 10 150 v4 (0 : Int32))]) (rest := []) (res := q_1009.1) C ((by rw [e_1010]; exact c_X3_dropShow l D cy ad E q_1006.2 (f_X4_get q_1006.2 10 150 v4 (0 : Int32)))) gX5_closeHall_X3_dropShow rfl hd_X3_dropShow (zW_get q_1006.2 sC_1) rfl rfl rfl ⟨Nat.le_of_ble_eq_true rfl, Nat.le_of_ble_eq_true rfl⟩ rfl rfl (Nat.le_of_ble_eq_true rfl) ⟨Nat.zero_le _, Nat.zero_le _⟩ dX5_closeHall_66 ?_
        refine g_pop C dX5_closeHall_69 rfl ?_
        refine g_iinc (k := 2) (L' := [(3, .int (v3 + 1)), (0, .ref (ad 0)), (1, .int v1), (4, .int v4)]) C dX5_closeHall_70 rfl (z_iinc (by decide)) (by decide) rfl ?_
        refine g_iinc (k := 3) (L' := [(4, .int (v4 + 1)), (3, .int (v3 + 1)), (0, .ref (ad 0)), (1, .int v1)]) C dX5_closeHall_73 rfl (z_iinc (by decide)) (by decide) rfl ?_
        refine g_goto C dX5_closeHall_76 (tgt := 24) (by decide) ?_
        refine zG_sub (L' := [(0, .ref (ad 0)), (1, .int v1), (3, .int (v3 + 1)), (4, .int (v4 + 1))]) [2, 3, 1, 0] rfl ?_
        exact ih q_1009.2 (v3 + 1) (v4 + 1) h
def f_X5_closeHall (X : Nat → Nat → Int32) (v1 v2 : Int32) : Option (Int32 × (Nat → Nat → Int32)) := (zlet (f_X4_put X 2 24 v1 (3 : Int32) v2) fun X_1 => ((f_X5_takeOutShows X_1 v1 v2).bind fun q_3 => f_X5_closeHall_L24 v1 zFuel q_3 (0 : Int32) (0 : Int32)))
set_option maxRecDepth 100000 in
set_option maxHeartbeats 4000000 in
theorem c_X5_closeHall (l : Launch) (D : va_G) (cy : Nat → ClassId) (ad : Nat → Nat) (E : va_W) (X : Nat → Nat → Int32) (v1 v2 : Int32) {res : Int32 × (Nat → Nat → Int32)} (h : f_X5_closeHall X v1 v2 = some res) : zMi l yX5_closeHall wsX5_closeHall (zrm 5) D (zTy cy) (zW cy ad shC E X) [.ref (ad 0), .int v1, .int v2] res.1 (zW cy ad shC E res.2) := by
  refine zMi.of (cc := cX5_closeHall) (maxL := 5) (ret := (some .int)) (by decide) rfl (Nat.le_of_ble_eq_true rfl) ?_
  intro p e s m below meth c A C hr
  unfold f_X5_closeHall at h
  refine zG_L (L' := [(0, .ref (ad 0)), (1, .int v1), (2, .int v2)]) rfl ?_
  refine g_aload_n (j := 0) C dX5_closeHall_0 rfl rfl ?_
  refine g_getr (k := 0) (N := 11) C sC_0 rfl in_X5_closeHall_RX5 (by decide) rfl fl_X5_closeHall_10 rfl dX5_closeHall_1 ?_
  refine g_getr (k := 0) (N := 8) C sC_1 rfl in_X5_closeHall_RX3 (by decide) rfl fl_X5_closeHall_75 rfl dX5_closeHall_4 ?_
  refine g_iload_n (j := 1) C dX5_closeHall_7 rfl rfl ?_
  refine g_iconst (v := 3) C dX5_closeHall_8 (by decide) ?_
  refine g_iload_n (j := 2) C dX5_closeHall_9 rfl rfl ?_
  obtain ⟨X_1, e_2, h⟩ := zlet_ex h
  refine g_vv (ws' := (zW cy ad shC E X_1)) (As := [.int v1, .int (3 : Int32), .int v2]) (rest := []) C ((by rw [e_2]; exact c_X4_put l D cy ad E X 2 24 sC_2 sC_3 (by decide) v1 (3 : Int32) v2)) gX5_closeHall_X4_put rfl hd_X4_put (zW_get X sC_2) rfl rfl rfl ⟨Nat.le_of_ble_eq_true rfl, Nat.le_of_ble_eq_true rfl⟩ rfl rfl (Nat.le_of_ble_eq_true rfl) ⟨Nat.zero_le _, Nat.zero_le _⟩ dX5_closeHall_10 ?_
  refine g_aload_n (j := 0) C dX5_closeHall_13 rfl rfl ?_
  refine g_iload_n (j := 1) C dX5_closeHall_14 rfl rfl ?_
  refine g_iload_n (j := 2) C dX5_closeHall_15 rfl rfl ?_
  obtain ⟨q_3, hq_4, h⟩ := bind_isome h
  refine g_vv (ws' := (zW cy ad shC E q_3)) (As := [.int v1, .int v2]) (rest := []) C (c_X5_takeOutShows l D cy ad E X_1 v1 v2 hq_4) gX5_closeHall_X5_takeOutShows rfl hd_X5_takeOutShows (zW_get X_1 sC_0) rfl rfl rfl ⟨Nat.le_of_ble_eq_true rfl, Nat.le_of_ble_eq_true rfl⟩ rfl rfl (Nat.le_of_ble_eq_true rfl) ⟨Nat.zero_le _, Nat.zero_le _⟩ dX5_closeHall_16 ?_
  refine g_iconst (v := 0) C dX5_closeHall_19 (by decide) ?_
  refine g_istore_n (L' := [(3, .int (0 : Int32)), (0, .ref (ad 0)), (1, .int v1), (2, .int v2)]) C dX5_closeHall_20 rfl (by decide) rfl ?_
  refine g_iconst (v := 0) C dX5_closeHall_21 (by decide) ?_
  refine g_istore (L' := [(4, .int (0 : Int32)), (3, .int (0 : Int32)), (0, .ref (ad 0)), (1, .int v1), (2, .int v2)]) C dX5_closeHall_22 (by decide) rfl ?_
  refine zG_sub (L' := [(0, .ref (ad 0)), (1, .int v1), (3, .int (0 : Int32)), (4, .int (0 : Int32))]) [2, 3, 1, 0] rfl ?_
  exact w_X5_closeHall_L24 l D cy ad E v1 C hr zFuel q_3 (0 : Int32) (0 : Int32) h
