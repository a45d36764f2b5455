/-! laid by wip/whole/mkparts.py -/
def f_X5_line (X : Nat → Nat → Int32) (v1 v2 : Int32) : Nat × Int32 × (Nat → Nat → Int32) := (if (f_X4_isRow X 10 150 v1) = 0 then (6, 0, X) else (if (f_X5_isWithin v2 (nI 0) (nI 4)) = 0 then (1, 0, X) else (0, (f_X4_get X 10 150 v1 v2), X)))
set_option maxRecDepth 100000 in
set_option maxHeartbeats 4000000 in
theorem c_X5_line (l : Launch) (hlt : l.stackTraces = false) (D : va_G) (cy : Nat → ClassId) (ad : Nat → Nat) (E : va_W) (X : Nat → Nat → Int32) (v1 v2 : Int32) : zMx l yX5_line cX5_line 3 (some .int) (zrmx 2) D (zTy cy) (zW cy ad shC E X) [.ref (ad 0), .int v1, .int v2] (f_X5_line X v1 v2).1 (f_X5_line X v1 v2).2.1 (zW cy ad shC E (f_X5_line X v1 v2).2.2) := by
  refine zMx.of (by decide) (Nat.le_of_ble_eq_true rfl) ?_
  intro p e s m below meth c A C hr hT hout
  generalize h : f_X5_line X v1 v2 = res
  unfold f_X5_line at h
  refine zG_L (L' := [(0, .ref (ad 0)), (1, .int v1), (2, .int v2)]) rfl ?_
  refine g_aload_n (j := 0) C dX5_line_0 rfl rfl ?_
  refine g_getr (k := 0) (N := 11) C sC_0 rfl zin_RX5 (by decide) rfl zfl_RX5_10 rfl dX5_line_1 ?_
  refine g_getr (k := 4) (N := 8) C sC_1 rfl zin_RX3 (by decide) rfl zfl_RX5_293 rfl dX5_line_4 ?_
  refine g_iload_n (j := 1) C dX5_line_7 rfl rfl ?_
  refine g_vi (ws' := (zW cy ad shC E X)) (As := [.int v1]) (rest := []) (res := (f_X4_isRow X 10 150 v1)) C (c_X4_isRow l D cy ad E X 10 150 sC_10 sC_11 (by decide) v1) zml_RX5_116 zcv_X4_isRow (zW_get X sC_10) rfl rfl rfl ⟨Nat.le_of_ble_eq_true rfl, Nat.le_of_ble_eq_true rfl⟩ rfl rfl (Nat.le_of_ble_eq_true rfl) ⟨Nat.zero_le _, Nat.zero_le _⟩ dX5_line_8 ?_
  refine g_if_ne C dX5_line_11 (tgt := 25) (by decide) (fun hc_1 => ?_) (fun hc_1 => ?_)
  · replace h := (if_neg hc_1).symm.trans h
    refine g_iload_n (j := 2) C dX5_line_25 rfl rfl ?_
    refine g_iconst (v := (nI 0)) C dX5_line_26 (by decide) ?_
    refine g_iconst (v := (nI 4)) C dX5_line_27 (by decide) ?_
    refine g_si (ws' := (zW cy ad shC E X)) (As := [.int v2, .int (nI 0), .int (nI 4)]) (rest := []) (res := (f_X5_isWithin v2 (nI 0) (nI 4))) C (c_X5_isWithin l D cy (zW cy ad shC E X) v2 (nI 0) (nI 4)) zml_RX5_64 zcs_X5_isWithin rfl rfl ⟨Nat.le_of_ble_eq_true rfl, Nat.le_of_ble_eq_true rfl⟩ rfl rfl (Nat.le_of_ble_eq_true rfl) ⟨Nat.zero_le _, Nat.zero_le _⟩ dX5_line_28 ?_
    refine g_if_ne C dX5_line_31 (tgt := 45) (by decide) (fun hc_2 => ?_) (fun hc_2 => ?_)
    · replace h := (if_neg hc_2).symm.trans h
      refine g_aload_n (j := 0) C dX5_line_45 rfl rfl ?_
      refine g_getr (k := 0) (N := 11) C sC_0 rfl zin_RX5 (by decide) rfl zfl_RX5_10 rfl dX5_line_46 ?_
      refine g_getr (k := 4) (N := 8) C sC_1 rfl zin_RX3 (by decide) rfl zfl_RX5_293 rfl dX5_line_49 ?_
      refine g_iload_n (j := 1) C dX5_line_52 rfl rfl ?_
      refine g_iload_n (j := 2) C dX5_line_53 rfl rfl ?_
      refine g_vi (ws' := (zW cy ad shC E X)) (As := [.int v1, .int v2]) (rest := []) (res := (f_X4_get X 10 150 v1 v2)) C (c_X4_get l D cy ad E X 10 150 sC_10 sC_11 (by decide) v1 v2) zml_RX5_126 zcv_X4_get (zW_get X sC_10) rfl rfl rfl ⟨Nat.le_of_ble_eq_true rfl, Nat.le_of_ble_eq_true rfl⟩ rfl rfl (Nat.le_of_ble_eq_true rfl) ⟨Nat.zero_le _, Nat.zero_le _⟩ dX5_line_54 ?_
      subst h
      exact g_xret C hr rfl dX5_line_57
    · replace h := (if_pos hc_2).symm.trans h
      subst h
      exact g_throwW 1 0 C hT hlt hout rfl (by decide) ⟨by decide +kernel, by decide +kernel⟩ zcl_68 zini_1 (List.mem_of_getElem? (i := 34) rfl) zat_72 zgw_72 dX5_line_34 dX5_line_37 dX5_line_38 dX5_line_41 dX5_line_44 ⟨Nat.le_of_ble_eq_true rfl, Nat.le_of_ble_eq_true rfl, Nat.le_of_ble_eq_true rfl, Nat.le_of_ble_eq_true rfl⟩
  · replace h := (if_pos hc_1).symm.trans h
    subst h
    exact g_throwNW 6 0 C hT hlt hout rfl rfl zcl_171 zini_6 (List.mem_of_getElem? (i := 33) rfl) zat_175 zgw_175 dX5_line_14 dX5_line_17 dX5_line_18 dX5_line_21 dX5_line_24 ⟨Nat.le_of_ble_eq_true rfl, Nat.le_of_ble_eq_true rfl, Nat.le_of_ble_eq_true rfl, Nat.le_of_ble_eq_true rfl⟩
def f_X5_move (X : Nat → Nat → Int32) (v1 v2 v3 : Int32) : Option (Nat × Int32 × (Nat → Nat → Int32)) := (if (f_X4_isRow X 8 360 v1) = 0 then some (3, 0, X) else (if (f_X4_isRow X 2 24 v2) = 0 then some (3, 0, X) else (if (f_X5_isMinute v3) = 0 then some (1, 0, X) else (if (f_X3_isOpen X v1) = 0 then some (2, 0, X) else ((f_X5_isMoveRefused X v1 v2 v3).bind fun q_5 => (if q_5.1 = 0 then (zlet (f_X0_keep q_5.2) fun X_8 => (zlet (f_X3_putShow X_8 v1 v2 v3) fun X_10 => some (0, (if 0 ≤ (v3 - (f_X4_get X_8 8 360 v1 (nI 3))) then (v3 - (f_X4_get X_8 8 360 v1 (nI 3))) else 0 - (v3 - (f_X4_get X_8 8 360 v1 (nI 3)))), X_10))) else some (5, 0, q_5.2)))))))
set_option maxRecDepth 100000 in
set_option maxHeartbeats 4000000 in
theorem c_X5_move (l : Launch) (hlt : l.stackTraces = false) (D : va_G) (cy : Nat → ClassId) (ad : Nat → Nat) (E : va_W) (X : Nat → Nat → Int32) (v1 v2 v3 : Int32) {res : Nat × Int32 × (Nat → Nat → Int32)} (h : f_X5_move X v1 v2 v3 = some res) : zMx l yX5_move cX5_move 5 (some .int) (zrmx 5) D (zTy cy) (zW cy ad shC E X) [.ref (ad 0), .int v1, .int v2, .int v3] res.1 res.2.1 (zW cy ad shC E res.2.2) := by
  refine zMx.of (by decide) (Nat.le_of_ble_eq_true rfl) ?_
  intro p e s m below meth c A C hr hT hout
  unfold f_X5_move at h
  refine zG_L (L' := [(0, .ref (ad 0)), (1, .int v1), (2, .int v2), (3, .int v3)]) rfl ?_
  refine g_aload_n (j := 0) C dX5_move_0 rfl rfl ?_
  refine g_getr (k := 0) (N := 11) C sC_0 rfl zin_RX5 (by decide) rfl zfl_RX5_10 rfl dX5_move_1 ?_
  refine g_getr (k := 3) (N := 8) C sC_1 rfl zin_RX3 (by decide) rfl zfl_RX5_210 rfl dX5_move_4 ?_
  refine g_iload_n (j := 1) C dX5_move_7 rfl rfl ?_
  refine g_vi (ws' := (zW cy ad shC E X)) (As := [.int v1]) (rest := []) (res := (f_X4_isRow X 8 360 v1)) C (c_X4_isRow l D cy ad E X 8 360 sC_8 sC_9 (by decide) v1) zml_RX5_116 zcv_X4_isRow (zW_get X sC_8) rfl rfl rfl ⟨Nat.le_of_ble_eq_true rfl, Nat.le_of_ble_eq_true rfl⟩ rfl rfl (Nat.le_of_ble_eq_true rfl) ⟨Nat.zero_le _, Nat.zero_le _⟩ dX5_move_8 ?_
  refine g_if_eq C dX5_move_11 (tgt := 28) (by decide) (fun hc_1 => ?_) (fun hc_1 => ?_)
  · replace h := (if_pos hc_1).symm.trans h
    obtain rfl := Option.some.inj h
    exact g_throw 3 0 C hT hlt hout rfl (by decide) ⟨by decide +kernel, by decide +kernel⟩ zcl_119 zini_3 (List.mem_of_getElem? (i := 22) rfl) zat_123 zgw_123 dX5_move_28 dX5_move_31 dX5_move_32 dX5_move_34 dX5_move_37 ⟨Nat.le_of_ble_eq_true rfl, Nat.le_of_ble_eq_true rfl, Nat.le_of_ble_eq_true rfl, Nat.le_of_ble_eq_true rfl⟩
  · replace h := (if_neg hc_1).symm.trans h
    refine g_aload_n (j := 0) C dX5_move_14 rfl rfl ?_
    refine g_getr (k := 0) (N := 11) C sC_0 rfl zin_RX5 (by decide) rfl zfl_RX5_10 rfl dX5_move_15 ?_
    refine g_getr (k := 0) (N := 8) C sC_1 rfl zin_RX3 (by decide) rfl zfl_RX5_75 rfl dX5_move_18 ?_
    refine g_iload_n (j := 2) C dX5_move_21 rfl rfl ?_
    refine g_vi (ws' := (zW cy ad shC E X)) (As := [.int v2]) (rest := []) (res := (f_X4_isRow X 2 24 v2)) C (c_X4_isRow l D cy ad E X 2 24 sC_2 sC_3 (by decide) v2) zml_RX5_116 zcv_X4_isRow (zW_get X sC_2) rfl rfl rfl ⟨Nat.le_of_ble_eq_true rfl, Nat.le_of_ble_eq_true rfl⟩ rfl rfl (Nat.le_of_ble_eq_true rfl) ⟨Nat.zero_le _, Nat.zero_le _⟩ dX5_move_22 ?_
    refine g_if_ne C dX5_move_25 (tgt := 38) (by decide) (fun hc_2 => ?_) (fun hc_2 => ?_)
    · replace h := (if_neg hc_2).symm.trans h
      refine g_iload_n (j := 3) C dX5_move_38 rfl rfl ?_
      refine g_si (ws' := (zW cy ad shC E X)) (As := [.int v3]) (rest := []) (res := (f_X5_isMinute v3)) C (c_X5_isMinute l D cy (zW cy ad shC E X) v3) zml_RX5_215 zcs_X5_isMinute rfl rfl ⟨Nat.le_of_ble_eq_true rfl, Nat.le_of_ble_eq_true rfl⟩ rfl rfl (Nat.le_of_ble_eq_true rfl) ⟨Nat.zero_le _, Nat.zero_le _⟩ dX5_move_39 ?_
      refine g_if_ne C dX5_move_42 (tgt := 55) (by decide) (fun hc_3 => ?_) (fun hc_3 => ?_)
      · replace h := (if_neg hc_3).symm.trans h
        refine g_aload_n (j := 0) C dX5_move_55 rfl rfl ?_
        refine g_getr (k := 0) (N := 11) C sC_0 rfl zin_RX5 (by decide) rfl zfl_RX5_10 rfl dX5_move_56 ?_
        refine g_iload_n (j := 1) C dX5_move_59 rfl rfl ?_
        refine g_vi (ws' := (zW cy ad shC E X)) (As := [.int v1]) (rest := []) (res := (f_X3_isOpen X v1)) C (c_X3_isOpen l D cy ad E X v1) zml_RX5_220 zcv_X3_isOpen (zW_get X sC_1) rfl rfl rfl ⟨Nat.le_of_ble_eq_true rfl, Nat.le_of_ble_eq_true rfl⟩ rfl rfl (Nat.le_of_ble_eq_true rfl) ⟨Nat.zero_le _, Nat.zero_le _⟩ dX5_move_60 ?_
        refine g_if_ne C dX5_move_63 (tgt := 76) (by decide) (fun hc_4 => ?_) (fun hc_4 => ?_)
        · replace h := (if_neg hc_4).symm.trans h
          refine g_aload_n (j := 0) C dX5_move_76 rfl rfl ?_
          refine g_iload_n (j := 1) C dX5_move_77 rfl rfl ?_
          refine g_iload_n (j := 2) C dX5_move_78 rfl rfl ?_
          refine g_iload_n (j := 3) C dX5_move_79 rfl rfl ?_
          obtain ⟨q_5, hq_6, h⟩ := bind_isome h
          refine g_vi (ws' := (zW cy ad shC E q_5.2)) (As := [.int v1, .int v2, .int v3]) (rest := []) (res := q_5.1) C (c_X5_isMoveRefused l D cy ad E X v1 v2 v3 hq_6) zml_RX5_225 zcv_X5_isMoveRefused (zW_get X sC_0) rfl rfl rfl ⟨Nat.le_of_ble_eq_true rfl, Nat.le_of_ble_eq_true rfl⟩ rfl rfl (Nat.le_of_ble_eq_true rfl) ⟨Nat.zero_le _, Nat.zero_le _⟩ dX5_move_80 ?_
          refine g_if_eq C dX5_move_83 (tgt := 96) (by decide) (fun hc_7 => ?_) (fun hc_7 => ?_)
          · replace h := (if_pos hc_7).symm.trans h
            refine g_aload_n (j := 0) C dX5_move_96 rfl rfl ?_
            refine g_getr (k := 2) (N := 11) C sC_0 rfl zin_RX5 (by decide) rfl zfl_RX5_22 rfl dX5_move_97 ?_
            refine g_aload_n (j := 0) C dX5_move_100 rfl rfl ?_
            refine g_getr (k := 0) (N := 11) C sC_0 rfl zin_RX5 (by decide) rfl zfl_RX5_10 rfl dX5_move_101 ?_
            obtain ⟨X_8, e_9, h⟩ := zlet_ex h
            refine g_vv (ws' := (zW cy ad shC E X_8)) (As := [.ref (ad 1)]) (rest := []) C ((by rw [e_9]; exact c_X0_keep l D cy ad E q_5.2)) zml_RX5_90 zcv_X0_keep (zW_get q_5.2 sC_27) rfl rfl rfl ⟨Nat.le_of_ble_eq_true rfl, Nat.le_of_ble_eq_true rfl⟩ rfl rfl (Nat.le_of_ble_eq_true rfl) ⟨Nat.zero_le _, Nat.zero_le _⟩ dX5_move_104 ?_
            refine g_aload_n (j := 0) C dX5_move_107 rfl rfl ?_
            refine g_getr (k := 0) (N := 11) C sC_0 rfl zin_RX5 (by decide) rfl zfl_RX5_10 rfl dX5_move_108 ?_
            refine g_getr (k := 3) (N := 8) C sC_1 rfl zin_RX3 (by decide) rfl zfl_RX5_210 rfl dX5_move_111 ?_
            refine g_iload_n (j := 1) C dX5_move_114 rfl rfl ?_
            refine g_iconst (v := (nI 3)) C dX5_move_115 (by decide) ?_
            refine g_vi (ws' := (zW cy ad shC E X_8)) (As := [.int v1, .int (nI 3)]) (rest := []) (res := (f_X4_get X_8 8 360 v1 (nI 3))) C (c_X4_get l D cy ad E X_8 8 360 sC_8 sC_9 (by decide) v1 (nI 3)) zml_RX5_126 zcv_X4_get (zW_get X_8 sC_8) rfl rfl rfl ⟨Nat.le_of_ble_eq_true rfl, Nat.le_of_ble_eq_true rfl⟩ rfl rfl (Nat.le_of_ble_eq_true rfl) ⟨Nat.zero_le _, Nat.zero_le _⟩ dX5_move_116 ?_
            refine g_istore (L' := [(4, .int (f_X4_get X_8 8 360 v1 (nI 3))), (0, .ref (ad 0)), (1, .int v1), (2, .int v2), (3, .int v3)]) C dX5_move_119 (by decide) rfl ?_
            refine g_aload_n (j := 1) C dX5_move_121 rfl rfl ?_
            refine g_getr (k := 0) (N := 11) C sC_0 rfl zin_RX5 (by decide) rfl zfl_RX5_10 rfl dX5_move_122 ?_
            refine g_iload_n (j := 2) C dX5_move_125 rfl rfl ?_
            refine g_iload_n (j := 3) C dX5_move_126 rfl rfl ?_
            refine g_iload_n (j := 4) C dX5_move_127 rfl rfl ?_
            obtain ⟨X_10, e_11, h⟩ := zlet_ex h
            refine g_vv (ws' := (zW cy ad shC E X_10)) (As := [.int v1, .int v2, .int v3]) (rest := []) C ((by rw [e_11]; exact c_X3_putShow l D cy ad E X_8 v1 v2 v3)) zml_RX5_230 zcv_X3_putShow (zW_get X_8 sC_1) rfl rfl rfl ⟨Nat.le_of_ble_eq_true rfl, Nat.le_of_ble_eq_true rfl⟩ rfl rfl (Nat.le_of_ble_eq_true rfl) ⟨Nat.zero_le _, Nat.zero_le _⟩ dX5_move_128 ?_
            refine g_iload_n (j := 4) C dX5_move_131 rfl rfl ?_
            refine g_iload (j := 0) C dX5_move_132 rfl ?_
            refine g_isub C dX5_move_134 ?_
            refine g_mabs C zml_RX5_233 (Nat.le_of_ble_eq_true rfl) (Nat.le_of_ble_eq_true rfl) (Nat.le_of_ble_eq_true rfl) (Nat.le_of_ble_eq_true rfl) dX5_move_135 ?_
            obtain rfl := Option.some.inj h
            exact g_xret C hr rfl dX5_move_138
          · replace h := (if_neg hc_7).symm.trans h
            obtain rfl := Option.some.inj h
            exact g_throw 5 0 C hT hlt hout rfl (by decide) ⟨by decide +kernel, by decide +kernel⟩ zcl_202 zini_5 (List.mem_of_getElem? (i := 25) rfl) zat_206 zgw_206 dX5_move_86 dX5_move_89 dX5_move_90 dX5_move_92 dX5_move_95 ⟨Nat.le_of_ble_eq_true rfl, Nat.le_of_ble_eq_true rfl, Nat.le_of_ble_eq_true rfl, Nat.le_of_ble_eq_true rfl⟩
        · replace h := (if_pos hc_4).symm.trans h
          obtain rfl := Option.some.inj h
          exact g_throw 2 0 C hT hlt hout rfl (by decide) ⟨by decide +kernel, by decide +kernel⟩ zcl_85 zini_2 (List.mem_of_getElem? (i := 24) rfl) zat_89 zgw_89 dX5_move_66 dX5_move_69 dX5_move_70 dX5_move_72 dX5_move_75 ⟨Nat.le_of_ble_eq_true rfl, Nat.le_of_ble_eq_true rfl, Nat.le_of_ble_eq_true rfl, Nat.le_of_ble_eq_true rfl⟩
      · replace h := (if_pos hc_3).symm.trans h
        obtain rfl := Option.some.inj h
        exact g_throw 1 0 C hT hlt hout rfl (by decide) ⟨by decide +kernel, by decide +kernel⟩ zcl_68 zini_1 (List.mem_of_getElem? (i := 23) rfl) zat_72 zgw_72 dX5_move_45 dX5_move_48 dX5_move_49 dX5_move_51 dX5_move_54 ⟨Nat.le_of_ble_eq_true rfl, Nat.le_of_ble_eq_true rfl, Nat.le_of_ble_eq_true rfl, Nat.le_of_ble_eq_true rfl⟩
    · replace h := (if_pos hc_2).symm.trans h
      obtain rfl := Option.some.inj h
      exact g_throw 3 0 C hT hlt hout rfl (by decide) ⟨by decide +kernel, by decide +kernel⟩ zcl_119 zini_3 (List.mem_of_getElem? (i := 22) rfl) zat_123 zgw_123 dX5_move_28 dX5_move_31 dX5_move_32 dX5_move_34 dX5_move_37 ⟨Nat.le_of_ble_eq_true rfl, Nat.le_of_ble_eq_true rfl, Nat.le_of_ble_eq_true rfl, Nat.le_of_ble_eq_true rfl⟩
def f_X5_plan (X : Nat → Nat → Int32) (v1 v2 v3 v4 : Int32) : Option (Nat × Int32 × (Nat → Nat → Int32)) := ((f_X5_faultOfPlan X v1 v2 v3 v4).bind fun q_1 => (if q_1.1 = (nI 1) then some (3, 0, q_1.2) else (if q_1.1 = (nI 2) then some (1, 0, q_1.2) else (if q_1.1 = (nI 4) then some (5, 0, q_1.2) else (zlet (f_X0_keep q_1.2) fun X_6 => ((f_X3_addShow X_6 v1 v2 v3 v4).bind fun q_8 => some (0, q_8.1, q_8.2)))))))
set_option maxRecDepth 100000 in
set_option maxHeartbeats 4000000 in
theorem c_X5_plan (l : Launch) (hlt : l.stackTraces = false) (D : va_G) (cy : Nat → ClassId) (ad : Nat → Nat) (E : va_W) (X : Nat → Nat → Int32) (v1 v2 v3 v4 : Int32) {res : Nat × Int32 × (Nat → Nat → Int32)} (h : f_X5_plan X v1 v2 v3 v4 = some res) : zMx l yX5_plan cX5_plan 6 (some .int) (zrmx 6) D (zTy cy) (zW cy ad shC E X) [.ref (ad 0), .int v1, .int v2, .int v3, .int v4] res.1 res.2.1 (zW cy ad shC E res.2.2) := by
  refine zMx.of (by decide) (Nat.le_of_ble_eq_true rfl) ?_
  intro p e s m below meth c A C hr hT hout
  unfold f_X5_plan at h
  refine zG_L (L' := [(0, .ref (ad 0)), (1, .int v1), (2, .int v2), (3, .int v3), (4, .int v4)]) rfl ?_
  refine g_aload_n (j := 0) C dX5_plan_0 rfl rfl ?_
  refine g_iload_n (j := 1) C dX5_plan_1 rfl rfl ?_
  refine g_iload_n (j := 2) C dX5_plan_2 rfl rfl ?_
  refine g_iload_n (j := 3) C dX5_plan_3 rfl rfl ?_
  refine g_iload (j := 4) C dX5_plan_4 rfl ?_
  obtain ⟨q_1, hq_2, h⟩ := bind_isome h
  refine g_vi (ws' := (zW cy ad shC E q_1.2)) (As := [.int v1, .int v2, .int v3, .int v4]) (rest := []) (res := q_1.1) C (c_X5_faultOfPlan l D cy ad E X v1 v2 v3 v4 hq_2) zml_RX5_194 zcv_X5_faultOfPlan (zW_get X sC_0) rfl rfl rfl ⟨Nat.le_of_ble_eq_true rfl, Nat.le_of_ble_eq_true rfl⟩ rfl rfl (Nat.le_of_ble_eq_true rfl) ⟨Nat.zero_le _, Nat.zero_le _⟩ dX5_plan_6 ?_
  refine g_istore (L' := [(5, .int q_1.1), (0, .ref (ad 0)), (1, .int v1), (2, .int v2), (3, .int v3), (4, .int v4)]) C dX5_plan_9 (by decide) rfl ?_
  refine g_iload (j := 0) C dX5_plan_11 rfl ?_
  refine g_iconst (v := (nI 1)) C dX5_plan_13 (by decide) ?_
  refine g_icmp_ne C dX5_plan_14 (tgt := 27) (by decide) (fun hc_3 => ?_) (fun hc_3 => ?_)
  · replace h := (if_neg hc_3).symm.trans h
    refine g_iload (j := 0) C dX5_plan_27 rfl ?_
    refine g_iconst (v := (nI 2)) C dX5_plan_29 (by decide) ?_
    refine g_icmp_ne C dX5_plan_30 (tgt := 43) (by decide) (fun hc_4 => ?_) (fun hc_4 => ?_)
    · replace h := (if_neg hc_4).symm.trans h
      refine g_iload (j := 0) C dX5_plan_43 rfl ?_
      refine g_iconst (v := (nI 4)) C dX5_plan_45 (by decide) ?_
      refine g_icmp_ne C dX5_plan_46 (tgt := 59) (by decide) (fun hc_5 => ?_) (fun hc_5 => ?_)
      · replace h := (if_neg hc_5).symm.trans h
        refine g_aload_n (j := 1) C dX5_plan_59 rfl rfl ?_
        refine g_getr (k := 2) (N := 11) C sC_0 rfl zin_RX5 (by decide) rfl zfl_RX5_22 rfl dX5_plan_60 ?_
        refine g_aload_n (j := 1) C dX5_plan_63 rfl rfl ?_
        refine g_getr (k := 0) (N := 11) C sC_0 rfl zin_RX5 (by decide) rfl zfl_RX5_10 rfl dX5_plan_64 ?_
        obtain ⟨X_6, e_7, h⟩ := zlet_ex h
        refine g_vv (ws' := (zW cy ad shC E X_6)) (As := [.ref (ad 1)]) (rest := []) C ((by rw [e_7]; exact c_X0_keep l D cy ad E q_1.2)) zml_RX5_90 zcv_X0_keep (zW_get q_1.2 sC_27) rfl rfl rfl ⟨Nat.le_of_ble_eq_true rfl, Nat.le_of_ble_eq_true rfl⟩ rfl rfl (Nat.le_of_ble_eq_true rfl) ⟨Nat.zero_le _, Nat.zero_le _⟩ dX5_plan_67 ?_
        refine g_aload_n (j := 1) C dX5_plan_70 rfl rfl ?_
        refine g_getr (k := 0) (N := 11) C sC_0 rfl zin_RX5 (by decide) rfl zfl_RX5_10 rfl dX5_plan_71 ?_
        refine g_iload_n (j := 2) C dX5_plan_74 rfl rfl ?_
        refine g_iload_n (j := 3) C dX5_plan_75 rfl rfl ?_
        refine g_iload_n (j := 4) C dX5_plan_76 rfl rfl ?_
        refine g_iload (j := 5) C dX5_plan_77 rfl ?_
        obtain ⟨q_8, hq_9, h⟩ := bind_isome h
        refine g_vi (ws' := (zW cy ad shC E q_8.2)) (As := [.int v1, .int v2, .int v3, .int v4]) (rest := []) (res := q_8.1) C (c_X3_addShow l D cy ad E X_6 v1 v2 v3 v4 hq_9) zml_RX5_207 zcv_X3_addShow (zW_get X_6 sC_1) rfl rfl rfl ⟨Nat.le_of_ble_eq_true rfl, Nat.le_of_ble_eq_true rfl⟩ rfl rfl (Nat.le_of_ble_eq_true rfl) ⟨Nat.zero_le _, Nat.zero_le _⟩ dX5_plan_79 ?_
        obtain rfl := Option.some.inj h
        exact g_xret C hr rfl dX5_plan_82
      · replace h := (if_pos hc_5).symm.trans h
        obtain rfl := Option.some.inj h
        exact g_throw 5 0 C hT hlt hout rfl (by decide) ⟨by decide +kernel, by decide +kernel⟩ zcl_202 zini_5 (List.mem_of_getElem? (i := 21) rfl) zat_206 zgw_206 dX5_plan_49 dX5_plan_52 dX5_plan_53 dX5_plan_55 dX5_plan_58 ⟨Nat.le_of_ble_eq_true rfl, Nat.le_of_ble_eq_true rfl, Nat.le_of_ble_eq_true rfl, Nat.le_of_ble_eq_true rfl⟩
    · replace h := (if_pos hc_4).symm.trans h
      obtain rfl := Option.some.inj h
      exact g_throw 1 0 C hT hlt hout rfl (by decide) ⟨by decide +kernel, by decide +kernel⟩ zcl_68 zini_1 (List.mem_of_getElem? (i := 20) rfl) zat_72 zgw_72 dX5_plan_33 dX5_plan_36 dX5_plan_37 dX5_plan_39 dX5_plan_42 ⟨Nat.le_of_ble_eq_true rfl, Nat.le_of_ble_eq_true rfl, Nat.le_of_ble_eq_true rfl, Nat.le_of_ble_eq_true rfl⟩
  · replace h := (if_pos hc_3).symm.trans h
    obtain rfl := Option.some.inj h
    exact g_throw 3 0 C hT hlt hout rfl (by decide) ⟨by decide +kernel, by decide +kernel⟩ zcl_119 zini_3 (List.mem_of_getElem? (i := 19) rfl) zat_123 zgw_123 dX5_plan_17 dX5_plan_20 dX5_plan_21 dX5_plan_23 dX5_plan_26 ⟨Nat.le_of_ble_eq_true rfl, Nat.le_of_ble_eq_true rfl, Nat.le_of_ble_eq_true rfl, Nat.le_of_ble_eq_true rfl⟩
def f_X5_reel (X : Nat → Nat → Int32) (v1 v2 v3 : Int32) : Option (Nat × Int32 × (Nat → Nat → Int32)) := (if (f_X4_isRow X 4 96 v1) = 0 then some (3, 0, X) else (if (f_X5_isDay v2) = 0 then some (1, 0, X) else ((f_X3_bestReel X v1 v2).bind fun q_3 => (if v3 = 0 then some (0, q_3, X) else ((f_X3_reelMinutes X q_3).bind fun q_6 => some (0, q_6, X))))))
set_option maxRecDepth 100000 in
set_option maxHeartbeats 4000000 in
theorem c_X5_reel (l : Launch) (hlt : l.stackTraces = false) (D : va_G) (cy : Nat → ClassId) (ad : Nat → Nat) (E : va_W) (X : Nat → Nat → Int32) (v1 v2 v3 : Int32) {res : Nat × Int32 × (Nat → Nat → Int32)} (h : f_X5_reel X v1 v2 v3 = some res) : zMx l yX5_reel cX5_reel 5 (some .int) (zrmx 4) D (zTy cy) (zW cy ad shC E X) [.ref (ad 0), .int v1, .int v2, .int v3] res.1 res.2.1 (zW cy ad shC E res.2.2) := by
  refine zMx.of (by decide) (Nat.le_of_ble_eq_true rfl) ?_
  intro p e s m below meth c A C hr hT hout
  unfold f_X5_reel at h
  refine zG_L (L' := [(0, .ref (ad 0)), (1, .int v1), (2, .int v2), (3, .int v3)]) rfl ?_
  refine g_aload_n (j := 0) C dX5_reel_0 rfl rfl ?_
  refine g_getr (k := 0) (N := 11) C sC_0 rfl zin_RX5 (by decide) rfl zfl_RX5_10 rfl dX5_reel_1 ?_
  refine g_getr (k := 1) (N := 8) C sC_1 rfl zin_RX3 (by decide) rfl zfl_RX5_111 rfl dX5_reel_4 ?_
  refine g_iload_n (j := 1) C dX5_reel_7 rfl rfl ?_
  refine g_vi (ws' := (zW cy ad shC E X)) (As := [.int v1]) (rest := []) (res := (f_X4_isRow X 4 96 v1)) C (c_X4_isRow l D cy ad E X 4 96 sC_4 sC_5 (by decide) v1) zml_RX5_116 zcv_X4_isRow (zW_get X sC_4) rfl rfl rfl ⟨Nat.le_of_ble_eq_true rfl, Nat.le_of_ble_eq_true rfl⟩ rfl rfl (Nat.le_of_ble_eq_true rfl) ⟨Nat.zero_le _, Nat.zero_le _⟩ dX5_reel_8 ?_
  refine g_if_ne C dX5_reel_11 (tgt := 24) (by decide) (fun hc_1 => ?_) (fun hc_1 => ?_)
  · replace h := (if_neg hc_1).symm.trans h
    refine g_iload_n (j := 2) C dX5_reel_24 rfl rfl ?_
    refine g_si (ws' := (zW cy ad shC E X)) (As := [.int v2]) (rest := []) (res := (f_X5_isDay v2)) C (c_X5_isDay l D cy (zW cy ad shC E X) v2) zml_RX5_108 zcs_X5_isDay rfl rfl ⟨Nat.le_of_ble_eq_true rfl, Nat.le_of_ble_eq_true rfl⟩ rfl rfl (Nat.le_of_ble_eq_true rfl) ⟨Nat.zero_le _, Nat.zero_le _⟩ dX5_reel_25 ?_
    refine g_if_ne C dX5_reel_28 (tgt := 41) (by decide) (fun hc_2 => ?_) (fun hc_2 => ?_)
    · replace h := (if_neg hc_2).symm.trans h
      refine g_aload_n (j := 0) C dX5_reel_41 rfl rfl ?_
      refine g_getr (k := 0) (N := 11) C sC_0 rfl zin_RX5 (by decide) rfl zfl_RX5_10 rfl dX5_reel_42 ?_
      refine g_iload_n (j := 1) C dX5_reel_45 rfl rfl ?_
      refine g_iload_n (j := 2) C dX5_reel_46 rfl rfl ?_
      obtain ⟨q_3, hq_4, h⟩ := bind_isome h
      refine g_vi (ws' := (zW cy ad shC E X)) (As := [.int v1, .int v2]) (rest := []) (res := q_3) C (c_X3_bestReel l D cy ad E X v1 v2 hq_4) zml_RX5_188 zcv_X3_bestReel (zW_get X sC_1) rfl rfl rfl ⟨Nat.le_of_ble_eq_true rfl, Nat.le_of_ble_eq_true rfl⟩ rfl rfl (Nat.le_of_ble_eq_true rfl) ⟨Nat.zero_le _, Nat.zero_le _⟩ dX5_reel_47 ?_
      refine g_istore (L' := [(4, .int q_3), (0, .ref (ad 0)), (1, .int v1), (2, .int v2), (3, .int v3)]) C dX5_reel_50 (by decide) rfl ?_
      refine g_iload_n (j := 4) C dX5_reel_52 rfl rfl ?_
      refine g_if_eq C dX5_reel_53 (tgt := 68) (by decide) (fun hc_5 => ?_) (fun hc_5 => ?_)
      · replace h := (if_pos hc_5).symm.trans h
        refine g_iload (j := 0) C dX5_reel_68 rfl ?_
        obtain rfl := Option.some.inj h
        exact g_xret C hr rfl dX5_reel_70
      · replace h := (if_neg hc_5).symm.trans h
        refine g_aload_n (j := 1) C dX5_reel_56 rfl rfl ?_
        refine g_getr (k := 0) (N := 11) C sC_0 rfl zin_RX5 (by decide) rfl zfl_RX5_10 rfl dX5_reel_57 ?_
        refine g_iload (j := 0) C dX5_reel_60 rfl ?_
        obtain ⟨q_6, hq_7, h⟩ := bind_isome h
        refine g_vi (ws' := (zW cy ad shC E X)) (As := [.int q_3]) (rest := []) (res := q_6) C (c_X3_reelMinutes l D cy ad E X q_3 hq_7) zml_RX5_191 zcv_X3_reelMinutes (zW_get X sC_1) rfl rfl rfl ⟨Nat.le_of_ble_eq_true rfl, Nat.le_of_ble_eq_true rfl⟩ rfl rfl (Nat.le_of_ble_eq_true rfl) ⟨Nat.zero_le _, Nat.zero_le _⟩ dX5_reel_62 ?_
        refine g_goto C dX5_reel_65 (tgt := 70) (by decide) ?_
        obtain rfl := Option.some.inj h
        exact g_xret C hr rfl dX5_reel_70
    · replace h := (if_pos hc_2).symm.trans h
      obtain rfl := Option.some.inj h
      exact g_throw 1 0 C hT hlt hout rfl (by decide) ⟨by decide +kernel, by decide +kernel⟩ zcl_68 zini_1 (List.mem_of_getElem? (i := 14) rfl) zat_72 zgw_72 dX5_reel_31 dX5_reel_34 dX5_reel_35 dX5_reel_37 dX5_reel_40 ⟨Nat.le_of_ble_eq_true rfl, Nat.le_of_ble_eq_true rfl, Nat.le_of_ble_eq_true rfl, Nat.le_of_ble_eq_true rfl⟩
  · replace h := (if_pos hc_1).symm.trans h
    obtain rfl := Option.some.inj h
    exact g_throw 3 0 C hT hlt hout rfl (by decide) ⟨by decide +kernel, by decide +kernel⟩ zcl_119 zini_3 (List.mem_of_getElem? (i := 3) rfl) zat_123 zgw_123 dX5_reel_14 dX5_reel_17 dX5_reel_18 dX5_reel_20 dX5_reel_23 ⟨Nat.le_of_ble_eq_true rfl, Nat.le_of_ble_eq_true rfl, Nat.le_of_ble_eq_true rfl, Nat.le_of_ble_eq_true rfl⟩
def f_X5_refusal (X : Nat → Nat → Int32) (v1 : Int32) : Nat × Int32 × (Nat → Nat → Int32) := (if (X 0 8) = (-1 : Int32) then (6, 0, X) else (if v1 = 0 then (0, (X 0 8), X) else (0, (X 0 9), X)))
set_option maxRecDepth 100000 in
set_option maxHeartbeats 4000000 in
theorem c_X5_refusal (l : Launch) (hlt : l.stackTraces = false) (D : va_G) (cy : Nat → ClassId) (ad : Nat → Nat) (E : va_W) (X : Nat → Nat → Int32) (v1 : Int32) : zMx l yX5_refusal cX5_refusal 2 (some .int) (zrmx 1) D (zTy cy) (zW cy ad shC E X) [.ref (ad 0), .int v1] (f_X5_refusal X v1).1 (f_X5_refusal X v1).2.1 (zW cy ad shC E (f_X5_refusal X v1).2.2) := by
  refine zMx.of (by decide) (Nat.le_of_ble_eq_true rfl) ?_
  intro p e s m below meth c A C hr hT hout
  generalize h : f_X5_refusal X v1 = res
  unfold f_X5_refusal at h
  refine zG_L (L' := [(0, .ref (ad 0)), (1, .int v1)]) rfl ?_
  refine g_aload_n (j := 0) C dX5_refusal_0 rfl rfl ?_
  refine g_geti (k := 8) (N := 11) C sC_0 rfl zin_RX5 (by decide) rfl zfl_RX5_54 rfl dX5_refusal_1 ?_
  refine g_iconst (v := (-1 : Int32)) C dX5_refusal_4 (by decide) ?_
  refine g_icmp_ne C dX5_refusal_5 (tgt := 19) (by decide) (fun hc_1 => ?_) (fun hc_1 => ?_)
  · replace h := (if_neg hc_1).symm.trans h
    refine g_iload_n (j := 1) C dX5_refusal_19 rfl rfl ?_
    refine g_if_eq C dX5_refusal_20 (tgt := 30) (by decide) (fun hc_2 => ?_) (fun hc_2 => ?_)
    · replace h := (if_pos hc_2).symm.trans h
      refine g_aload_n (j := 0) C dX5_refusal_30 rfl rfl ?_
      refine g_geti (k := 8) (N := 11) C sC_0 rfl zin_RX5 (by decide) rfl zfl_RX5_54 rfl dX5_refusal_31 ?_
      subst h
      exact g_xret C hr rfl dX5_refusal_34
    · replace h := (if_neg hc_2).symm.trans h
      refine g_aload_n (j := 0) C dX5_refusal_23 rfl rfl ?_
      refine g_geti (k := 9) (N := 11) C sC_0 rfl zin_RX5 (by decide) rfl zfl_RX5_58 rfl dX5_refusal_24 ?_
      refine g_goto C dX5_refusal_27 (tgt := 34) (by decide) ?_
      subst h
      exact g_xret C hr rfl dX5_refusal_34
  · replace h := (if_pos hc_1).symm.trans h
    subst h
    exact g_throwNW 6 0 C hT hlt hout rfl rfl zcl_171 zini_6 (List.mem_of_getElem? (i := 36) rfl) zat_175 zgw_175 dX5_refusal_8 dX5_refusal_11 dX5_refusal_12 dX5_refusal_15 dX5_refusal_18 ⟨Nat.le_of_ble_eq_true rfl, Nat.le_of_ble_eq_true rfl, Nat.le_of_ble_eq_true rfl, Nat.le_of_ble_eq_true rfl⟩
def f_X5_reopen (X : Nat → Nat → Int32) (v1 : Int32) : Nat × Int32 × (Nat → Nat → Int32) := (if (f_X4_isRow X 2 24 v1) = 0 then (3, 0, X) else (if (f_X4_get X 2 24 v1 (nI 3)) = (-1 : Int32) then (2, 0, X) else (zlet (f_X0_keep X) fun X_3 => (zlet (f_X4_put X_3 2 24 v1 (nI 3) (-1 : Int32)) fun X_5 => (0, (f_X4_get X 2 24 v1 (nI 3)), X_5)))))
set_option maxRecDepth 100000 in
set_option maxHeartbeats 4000000 in
theorem c_X5_reopen (l : Launch) (hlt : l.stackTraces = false) (D : va_G) (cy : Nat → ClassId) (ad : Nat → Nat) (E : va_W) (X : Nat → Nat → Int32) (v1 : Int32) : zMx l yX5_reopen cX5_reopen 3 (some .int) (zrmx 5) D (zTy cy) (zW cy ad shC E X) [.ref (ad 0), .int v1] (f_X5_reopen X v1).1 (f_X5_reopen X v1).2.1 (zW cy ad shC E (f_X5_reopen X v1).2.2) := by
  refine zMx.of (by decide) (Nat.le_of_ble_eq_true rfl) ?_
  intro p e s m below meth c A C hr hT hout
  generalize h : f_X5_reopen X v1 = res
  unfold f_X5_reopen at h
  refine zG_L (L' := [(0, .ref (ad 0)), (1, .int v1)]) rfl ?_
  refine g_aload_n (j := 0) C dX5_reopen_0 rfl rfl ?_
  refine g_getr (k := 0) (N := 11) C sC_0 rfl zin_RX5 (by decide) rfl zfl_RX5_10 rfl dX5_reopen_1 ?_
  refine g_getr (k := 0) (N := 8) C sC_1 rfl zin_RX3 (by decide) rfl zfl_RX5_75 rfl dX5_reopen_4 ?_
  refine g_iload_n (j := 1) C dX5_reopen_7 rfl rfl ?_
  refine g_vi (ws' := (zW cy ad shC E X)) (As := [.int v1]) (rest := []) (res := (f_X4_isRow X 2 24 v1)) C (c_X4_isRow l D cy ad E X 2 24 sC_2 sC_3 (by decide) v1) zml_RX5_116 zcv_X4_isRow (zW_get X sC_2) rfl rfl rfl ⟨Nat.le_of_ble_eq_true rfl, Nat.le_of_ble_eq_true rfl⟩ rfl rfl (Nat.le_of_ble_eq_true rfl) ⟨Nat.zero_le _, Nat.zero_le _⟩ dX5_reopen_8 ?_
  refine g_if_ne C dX5_reopen_11 (tgt := 24) (by decide) (fun hc_1 => ?_) (fun hc_1 => ?_)
  · replace h := (if_neg hc_1).symm.trans h
    refine g_aload_n (j := 0) C dX5_reopen_24 rfl rfl ?_
    refine g_getr (k := 0) (N := 11) C sC_0 rfl zin_RX5 (by decide) rfl zfl_RX5_10 rfl dX5_reopen_25 ?_
    refine g_getr (k := 0) (N := 8) C sC_1 rfl zin_RX3 (by decide) rfl zfl_RX5_75 rfl dX5_reopen_28 ?_
    refine g_iload_n (j := 1) C dX5_reopen_31 rfl rfl ?_
    refine g_iconst (v := (nI 3)) C dX5_reopen_32 (by decide) ?_
    refine g_vi (ws' := (zW cy ad shC E X)) (As := [.int v1, .int (nI 3)]) (rest := []) (res := (f_X4_get X 2 24 v1 (nI 3))) C (c_X4_get l D cy ad E X 2 24 sC_2 sC_3 (by decide) v1 (nI 3)) zml_RX5_126 zcv_X4_get (zW_get X sC_2) rfl rfl rfl ⟨Nat.le_of_ble_eq_true rfl, Nat.le_of_ble_eq_true rfl⟩ rfl rfl (Nat.le_of_ble_eq_true rfl) ⟨Nat.zero_le _, Nat.zero_le _⟩ dX5_reopen_33 ?_
    refine g_istore_n (L' := [(2, .int (f_X4_get X 2 24 v1 (nI 3))), (0, .ref (ad 0)), (1, .int v1)]) C dX5_reopen_36 rfl (by decide) rfl ?_
    refine g_iload_n (j := 0) C dX5_reopen_37 rfl rfl ?_
    refine g_iconst (v := (-1 : Int32)) C dX5_reopen_38 (by decide) ?_
    refine g_icmp_ne C dX5_reopen_39 (tgt := 53) (by decide) (fun hc_2 => ?_) (fun hc_2 => ?_)
    · replace h := (if_neg hc_2).symm.trans h
      refine g_aload_n (j := 1) C dX5_reopen_53 rfl rfl ?_
      refine g_getr (k := 2) (N := 11) C sC_0 rfl zin_RX5 (by decide) rfl zfl_RX5_22 rfl dX5_reopen_54 ?_
      refine g_aload_n (j := 1) C dX5_reopen_57 rfl rfl ?_
      refine g_getr (k := 0) (N := 11) C sC_0 rfl zin_RX5 (by decide) rfl zfl_RX5_10 rfl dX5_reopen_58 ?_
      obtain ⟨X_3, e_4, h⟩ := zlet_ex h
      refine g_vv (ws' := (zW cy ad shC E X_3)) (As := [.ref (ad 1)]) (rest := []) C ((by rw [e_4]; exact c_X0_keep l D cy ad E X)) zml_RX5_90 zcv_X0_keep (zW_get X sC_27) rfl rfl rfl ⟨Nat.le_of_ble_eq_true rfl, Nat.le_of_ble_eq_true rfl⟩ rfl rfl (Nat.le_of_ble_eq_true rfl) ⟨Nat.zero_le _, Nat.zero_le _⟩ dX5_reopen_61 ?_
      refine g_aload_n (j := 1) C dX5_reopen_64 rfl rfl ?_
      refine g_getr (k := 0) (N := 11) C sC_0 rfl zin_RX5 (by decide) rfl zfl_RX5_10 rfl dX5_reopen_65 ?_
      refine g_getr (k := 0) (N := 8) C sC_1 rfl zin_RX3 (by decide) rfl zfl_RX5_75 rfl dX5_reopen_68 ?_
      refine g_iload_n (j := 2) C dX5_reopen_71 rfl rfl ?_
      refine g_iconst (v := (nI 3)) C dX5_reopen_72 (by decide) ?_
      refine g_iconst (v := (-1 : Int32)) C dX5_reopen_73 (by decide) ?_
      obtain ⟨X_5, e_6, h⟩ := zlet_ex h
      refine g_vv (ws' := (zW cy ad shC E X_5)) (As := [.int v1, .int (nI 3), .int (-1 : Int32)]) (rest := []) C ((by rw [e_6]; exact c_X4_put l D cy ad E X_3 2 24 sC_2 sC_3 (by decide) v1 (nI 3) (-1 : Int32))) zml_RX5_97 zcv_X4_put (zW_get X_3 sC_2) rfl rfl rfl ⟨Nat.le_of_ble_eq_true rfl, Nat.le_of_ble_eq_true rfl⟩ rfl rfl (Nat.le_of_ble_eq_true rfl) ⟨Nat.zero_le _, Nat.zero_le _⟩ dX5_reopen_74 ?_
      refine g_iload_n (j := 0) C dX5_reopen_77 rfl rfl ?_
      subst h
      exact g_xret C hr rfl dX5_reopen_78
    · replace h := (if_pos hc_2).symm.trans h
      subst h
      exact g_throwW 2 0 C hT hlt hout rfl (by decide) ⟨by decide +kernel, by decide +kernel⟩ zcl_85 zini_2 (List.mem_of_getElem? (i := 32) rfl) zat_89 zgw_89 dX5_reopen_42 dX5_reopen_45 dX5_reopen_46 dX5_reopen_49 dX5_reopen_52 ⟨Nat.le_of_ble_eq_true rfl, Nat.le_of_ble_eq_true rfl, Nat.le_of_ble_eq_true rfl, Nat.le_of_ble_eq_true rfl⟩
  · replace h := (if_pos hc_1).symm.trans h
    subst h
    exact g_throw 3 0 C hT hlt hout rfl (by decide) ⟨by decide +kernel, by decide +kernel⟩ zcl_119 zini_3 (List.mem_of_getElem? (i := 11) rfl) zat_123 zgw_123 dX5_reopen_14 dX5_reopen_17 dX5_reopen_18 dX5_reopen_20 dX5_reopen_23 ⟨Nat.le_of_ble_eq_true rfl, Nat.le_of_ble_eq_true rfl, Nat.le_of_ble_eq_true rfl, Nat.le_of_ble_eq_true rfl⟩
def f_X5_restore (X : Nat → Nat → Int32) : Nat × Int32 × (Nat → Nat → Int32) := (if (X 0 7) = 0 then (2, 0, X) else (zlet (f_X3_copyFrom X 1 14) fun X_2 => (zlet (f_X0_forget X_2) fun X_4 => (0, (f_X4_size X_4 8 360), X_4))))
set_option maxRecDepth 100000 in
set_option maxHeartbeats 4000000 in
theorem c_X5_restore (l : Launch) (hlt : l.stackTraces = false) (D : va_G) (cy : Nat → ClassId) (ad : Nat → Nat) (E : va_W) (X : Nat → Nat → Int32) : zMx l yX5_restore cX5_restore 1 (some .int) (zrmx 3) D (zTy cy) (zW cy ad shC E X) [.ref (ad 0)] (f_X5_restore X).1 (f_X5_restore X).2.1 (zW cy ad shC E (f_X5_restore X).2.2) := by
  refine zMx.of (by decide) (Nat.le_of_ble_eq_true rfl) ?_
  intro p e s m below meth c A C hr hT hout
  generalize h : f_X5_restore X = res
  unfold f_X5_restore at h
  refine zG_L (L' := [(0, .ref (ad 0))]) rfl ?_
  refine g_aload_n (j := 0) C dX5_restore_0 rfl rfl ?_
  refine g_geti (k := 7) (N := 11) C sC_0 rfl zin_RX5 (by decide) rfl zfl_RX5_50 rfl dX5_restore_1 ?_
  refine g_if_ne C dX5_restore_4 (tgt := 18) (by decide) (fun hc_1 => ?_) (fun hc_1 => ?_)
  · replace h := (if_neg hc_1).symm.trans h
    refine g_aload_n (j := 0) C dX5_restore_18 rfl rfl ?_
    refine g_getr (k := 0) (N := 11) C sC_0 rfl zin_RX5 (by decide) rfl zfl_RX5_10 rfl dX5_restore_19 ?_
    refine g_aload_n (j := 0) C dX5_restore_22 rfl rfl ?_
    refine g_getr (k := 1) (N := 11) C sC_0 rfl zin_RX5 (by decide) rfl zfl_RX5_16 rfl dX5_restore_23 ?_
    obtain ⟨X_2, e_3, h⟩ := zlet_ex h
    refine g_vv (ws' := (zW cy ad shC E X_2)) (As := [.ref (ad 14)]) (rest := []) C ((by rw [e_3]; exact c_X3_copyFrom l D cy ad E X 1 14 zSt_b1 zSt_b14)) zml_RX5_416 zcv_X3_copyFrom (zW_get X sC_1) rfl rfl rfl ⟨Nat.le_of_ble_eq_true rfl, Nat.le_of_ble_eq_true rfl⟩ rfl rfl (Nat.le_of_ble_eq_true rfl) ⟨Nat.zero_le _, Nat.zero_le _⟩ dX5_restore_26 ?_
    refine g_aload_n (j := 0) C dX5_restore_29 rfl rfl ?_
    refine g_getr (k := 2) (N := 11) C sC_0 rfl zin_RX5 (by decide) rfl zfl_RX5_22 rfl dX5_restore_30 ?_
    obtain ⟨X_4, e_5, h⟩ := zlet_ex h
    refine g_vv (ws' := (zW cy ad shC E X_4)) (As := []) (rest := []) C ((by rw [e_5]; exact c_X0_forget l D cy ad E X_2)) zml_RX5_421 zcv_X0_forget (zW_get X_2 sC_27) rfl rfl rfl ⟨Nat.le_of_ble_eq_true rfl, Nat.le_of_ble_eq_true rfl⟩ rfl rfl (Nat.le_of_ble_eq_true rfl) ⟨Nat.zero_le _, Nat.zero_le _⟩ dX5_restore_33 ?_
    refine g_aload_n (j := 0) C dX5_restore_36 rfl rfl ?_
    refine g_getr (k := 0) (N := 11) C sC_0 rfl zin_RX5 (by decide) rfl zfl_RX5_10 rfl dX5_restore_37 ?_
    refine g_getr (k := 3) (N := 8) C sC_1 rfl zin_RX3 (by decide) rfl zfl_RX5_210 rfl dX5_restore_40 ?_
    refine g_vi (ws' := (zW cy ad shC E X_4)) (As := []) (rest := []) (res := (f_X4_size X_4 8 360)) C (c_X4_size l D cy ad E X_4 8 360 sC_8 sC_9 (by decide)) zml_RX5_79 zcv_X4_size (zW_get X_4 sC_8) rfl rfl rfl ⟨Nat.le_of_ble_eq_true rfl, Nat.le_of_ble_eq_true rfl⟩ rfl rfl (Nat.le_of_ble_eq_true rfl) ⟨Nat.zero_le _, Nat.zero_le _⟩ dX5_restore_43 ?_
    subst h
    exact g_xret C hr rfl dX5_restore_46
  · replace h := (if_pos hc_1).symm.trans h
    subst h
    exact g_throwW 2 0 C hT hlt hout rfl (by decide) ⟨by decide +kernel, by decide +kernel⟩ zcl_85 zini_2 (List.mem_of_getElem? (i := 51) rfl) zat_89 zgw_89 dX5_restore_7 dX5_restore_10 dX5_restore_11 dX5_restore_14 dX5_restore_17 ⟨Nat.le_of_ble_eq_true rfl, Nat.le_of_ble_eq_true rfl, Nat.le_of_ble_eq_true rfl, Nat.le_of_ble_eq_true rfl⟩
def f_X5_save (X : Nat → Nat → Int32) : Nat × Int32 × (Nat → Nat → Int32) := (zlet (f_X3_copyFrom X 14 1) fun X_1 => (zlet (zU X_1 0 7 (nI 1)) fun X_3 => (0, (f_X4_size X_3 8 360), X_3)))
set_option maxRecDepth 100000 in
set_option maxHeartbeats 4000000 in
theorem c_X5_save (l : Launch) (hlt : l.stackTraces = false) (D : va_G) (cy : Nat → ClassId) (ad : Nat → Nat) (E : va_W) (X : Nat → Nat → Int32) : zMx l yX5_save cX5_save 1 (some .int) (zrmx 3) D (zTy cy) (zW cy ad shC E X) [.ref (ad 0)] (f_X5_save X).1 (f_X5_save X).2.1 (zW cy ad shC E (f_X5_save X).2.2) := by
  refine zMx.of (by decide) (Nat.le_of_ble_eq_true rfl) ?_
  intro p e s m below meth c A C hr hT hout
  generalize h : f_X5_save X = res
  unfold f_X5_save at h
  refine zG_L (L' := [(0, .ref (ad 0))]) rfl ?_
  refine g_aload_n (j := 0) C dX5_save_0 rfl rfl ?_
  refine g_getr (k := 1) (N := 11) C sC_0 rfl zin_RX5 (by decide) rfl zfl_RX5_16 rfl dX5_save_1 ?_
  refine g_aload_n (j := 0) C dX5_save_4 rfl rfl ?_
  refine g_getr (k := 0) (N := 11) C sC_0 rfl zin_RX5 (by decide) rfl zfl_RX5_10 rfl dX5_save_5 ?_
  obtain ⟨X_1, e_2, h⟩ := zlet_ex h
  refine g_vv (ws' := (zW cy ad shC E X_1)) (As := [.ref (ad 1)]) (rest := []) C ((by rw [e_2]; exact c_X3_copyFrom l D cy ad E X 14 1 zSt_b14 zSt_b1)) zml_RX5_416 zcv_X3_copyFrom (zW_get X sC_14) rfl rfl rfl ⟨Nat.le_of_ble_eq_true rfl, Nat.le_of_ble_eq_true rfl⟩ rfl rfl (Nat.le_of_ble_eq_true rfl) ⟨Nat.zero_le _, Nat.zero_le _⟩ dX5_save_8 ?_
  refine g_aload_n (j := 0) C dX5_save_11 rfl rfl ?_
  refine g_iconst (v := (nI 1)) C dX5_save_12 (by decide) ?_
  refine g_puti (k := 7) (N := 11) (ty := .boolean) C sC_0 rfl zin_RX5 (by decide) rfl zfl_RX5_50 rfl tyX5_ok nmX5 rfl (by decide +kernel) (z_nb (Or.inr rfl)) (z_fb (Or.inr rfl)) dX5_save_13 ?_
  obtain ⟨X_3, e_4, h⟩ := zlet_ex h
  rw [← e_4]
  refine g_aload_n (j := 0) C dX5_save_16 rfl rfl ?_
  refine g_getr (k := 0) (N := 11) C sC_0 rfl zin_RX5 (by decide) rfl zfl_RX5_10 rfl dX5_save_17 ?_
  refine g_getr (k := 3) (N := 8) C sC_1 rfl zin_RX3 (by decide) rfl zfl_RX5_210 rfl dX5_save_20 ?_
  refine g_vi (ws' := (zW cy ad shC E X_3)) (As := []) (rest := []) (res := (f_X4_size X_3 8 360)) C (c_X4_size l D cy ad E X_3 8 360 sC_8 sC_9 (by decide)) zml_RX5_79 zcv_X4_size (zW_get X_3 sC_8) rfl rfl rfl ⟨Nat.le_of_ble_eq_true rfl, Nat.le_of_ble_eq_true rfl⟩ rfl rfl (Nat.le_of_ble_eq_true rfl) ⟨Nat.zero_le _, Nat.zero_le _⟩ dX5_save_23 ?_
  subst h
  exact g_xret C hr rfl dX5_save_26
def f_X5_sell (X : Nat → Nat → Int32) (v1 v2 : Int32) : Nat × Int32 × (Nat → Nat → Int32) := (zlet (f_X5_faultOfSell X v1 v2) fun q_1 => (if q_1.1 = (nI 1) then (3, 0, q_1.2) else (if q_1.1 = (nI 2) then (1, 0, q_1.2) else (if q_1.1 = (nI 3) then (2, 0, q_1.2) else (if q_1.1 = (nI 4) then (5, 0, q_1.2) else (zlet (f_X0_keep q_1.2) fun X_7 => (zlet (f_X3_addTickets X_7 v1 v2) fun q_9 => (0, q_9.1, q_9.2))))))))
set_option maxRecDepth 100000 in
set_option maxHeartbeats 4000000 in
theorem c_X5_sell (l : Launch) (hlt : l.stackTraces = false) (D : va_G) (cy : Nat → ClassId) (ad : Nat → Nat) (E : va_W) (X : Nat → Nat → Int32) (v1 v2 : Int32) : zMx l yX5_sell cX5_sell 4 (some .int) (zrmx 6) D (zTy cy) (zW cy ad shC E X) [.ref (ad 0), .int v1, .int v2] (f_X5_sell X v1 v2).1 (f_X5_sell X v1 v2).2.1 (zW cy ad shC E (f_X5_sell X v1 v2).2.2) := by
  refine zMx.of (by decide) (Nat.le_of_ble_eq_true rfl) ?_
  intro p e s m below meth c A C hr hT hout
  generalize h : f_X5_sell X v1 v2 = res
  unfold f_X5_sell at h
  refine zG_L (L' := [(0, .ref (ad 0)), (1, .int v1), (2, .int v2)]) rfl ?_
  refine g_aload_n (j := 0) C dX5_sell_0 rfl rfl ?_
  refine g_iload_n (j := 1) C dX5_sell_1 rfl rfl ?_
  refine g_iload_n (j := 2) C dX5_sell_2 rfl rfl ?_
  obtain ⟨q_1, e_2, h⟩ := zlet_ex h
  refine g_vi (ws' := (zW cy ad shC E q_1.2)) (As := [.int v1, .int v2]) (rest := []) (res := q_1.1) C ((by rw [e_2]; exact c_X5_faultOfSell l D cy ad E X v1 v2)) zml_RX5_246 zcv_X5_faultOfSell (zW_get X sC_0) rfl rfl rfl ⟨Nat.le_of_ble_eq_true rfl, Nat.le_of_ble_eq_true rfl⟩ rfl rfl (Nat.le_of_ble_eq_true rfl) ⟨Nat.zero_le _, Nat.zero_le _⟩ dX5_sell_3 ?_
  refine g_istore_n (L' := [(3, .int q_1.1), (0, .ref (ad 0)), (1, .int v1), (2, .int v2)]) C dX5_sell_6 rfl (by decide) rfl ?_
  refine g_iload_n (j := 0) C dX5_sell_7 rfl rfl ?_
  refine g_iconst (v := (nI 1)) C dX5_sell_8 (by decide) ?_
  refine g_icmp_ne C dX5_sell_9 (tgt := 22) (by decide) (fun hc_3 => ?_) (fun hc_3 => ?_)
  · replace h := (if_neg hc_3).symm.trans h
    refine g_iload_n (j := 0) C dX5_sell_22 rfl rfl ?_
    refine g_iconst (v := (nI 2)) C dX5_sell_23 (by decide) ?_
    refine g_icmp_ne C dX5_sell_24 (tgt := 37) (by decide) (fun hc_4 => ?_) (fun hc_4 => ?_)
    · replace h := (if_neg hc_4).symm.trans h
      refine g_iload_n (j := 0) C dX5_sell_37 rfl rfl ?_
      refine g_iconst (v := (nI 3)) C dX5_sell_38 (by decide) ?_
      refine g_icmp_ne C dX5_sell_39 (tgt := 52) (by decide) (fun hc_5 => ?_) (fun hc_5 => ?_)
      · replace h := (if_neg hc_5).symm.trans h
        refine g_iload_n (j := 0) C dX5_sell_52 rfl rfl ?_
        refine g_iconst (v := (nI 4)) C dX5_sell_53 (by decide) ?_
        refine g_icmp_ne C dX5_sell_54 (tgt := 67) (by decide) (fun hc_6 => ?_) (fun hc_6 => ?_)
        · replace h := (if_neg hc_6).symm.trans h
          refine g_aload_n (j := 1) C dX5_sell_67 rfl rfl ?_
          refine g_getr (k := 2) (N := 11) C sC_0 rfl zin_RX5 (by decide) rfl zfl_RX5_22 rfl dX5_sell_68 ?_
          refine g_aload_n (j := 1) C dX5_sell_71 rfl rfl ?_
          refine g_getr (k := 0) (N := 11) C sC_0 rfl zin_RX5 (by decide) rfl zfl_RX5_10 rfl dX5_sell_72 ?_
          obtain ⟨X_7, e_8, h⟩ := zlet_ex h
          refine g_vv (ws' := (zW cy ad shC E X_7)) (As := [.ref (ad 1)]) (rest := []) C ((by rw [e_8]; exact c_X0_keep l D cy ad E q_1.2)) zml_RX5_90 zcv_X0_keep (zW_get q_1.2 sC_27) rfl rfl rfl ⟨Nat.le_of_ble_eq_true rfl, Nat.le_of_ble_eq_true rfl⟩ rfl rfl (Nat.le_of_ble_eq_true rfl) ⟨Nat.zero_le _, Nat.zero_le _⟩ dX5_sell_75 ?_
          refine g_aload_n (j := 1) C dX5_sell_78 rfl rfl ?_
          refine g_getr (k := 0) (N := 11) C sC_0 rfl zin_RX5 (by decide) rfl zfl_RX5_10 rfl dX5_sell_79 ?_
          refine g_iload_n (j := 2) C dX5_sell_82 rfl rfl ?_
          refine g_iload_n (j := 3) C dX5_sell_83 rfl rfl ?_
          obtain ⟨q_9, e_10, h⟩ := zlet_ex h
          refine g_vi (ws' := (zW cy ad shC E q_9.2)) (As := [.int v1, .int v2]) (rest := []) (res := q_9.1) C ((by rw [e_10]; exact c_X3_addTickets l D cy ad E X_7 v1 v2)) zml_RX5_253 zcv_X3_addTickets (zW_get X_7 sC_1) rfl rfl rfl ⟨Nat.le_of_ble_eq_true rfl, Nat.le_of_ble_eq_true rfl⟩ rfl rfl (Nat.le_of_ble_eq_true rfl) ⟨Nat.zero_le _, Nat.zero_le _⟩ dX5_sell_84 ?_
          subst h
          exact g_xret C hr rfl dX5_sell_87
        · replace h := (if_pos hc_6).symm.trans h
          subst h
          exact g_throw 5 0 C hT hlt hout rfl (by decide) ⟨by decide +kernel, by decide +kernel⟩ zcl_202 zini_5 (List.mem_of_getElem? (i := 28) rfl) zat_206 zgw_206 dX5_sell_57 dX5_sell_60 dX5_sell_61 dX5_sell_63 dX5_sell_66 ⟨Nat.le_of_ble_eq_true rfl, Nat.le_of_ble_eq_true rfl, Nat.le_of_ble_eq_true rfl, Nat.le_of_ble_eq_true rfl⟩
      · replace h := (if_pos hc_5).symm.trans h
        subst h
        exact g_throw 2 0 C hT hlt hout rfl (by decide) ⟨by decide +kernel, by decide +kernel⟩ zcl_85 zini_2 (List.mem_of_getElem? (i := 24) rfl) zat_89 zgw_89 dX5_sell_42 dX5_sell_45 dX5_sell_46 dX5_sell_48 dX5_sell_51 ⟨Nat.le_of_ble_eq_true rfl, Nat.le_of_ble_eq_true rfl, Nat.le_of_ble_eq_true rfl, Nat.le_of_ble_eq_true rfl⟩
    · replace h := (if_pos hc_4).symm.trans h
      subst h
      exact g_throw 1 0 C hT hlt hout rfl (by decide) ⟨by decide +kernel, by decide +kernel⟩ zcl_68 zini_1 (List.mem_of_getElem? (i := 27) rfl) zat_72 zgw_72 dX5_sell_27 dX5_sell_30 dX5_sell_31 dX5_sell_33 dX5_sell_36 ⟨Nat.le_of_ble_eq_true rfl, Nat.le_of_ble_eq_true rfl, Nat.le_of_ble_eq_true rfl, Nat.le_of_ble_eq_true rfl⟩
  · replace h := (if_pos hc_3).symm.trans h
    subst h
    exact g_throw 3 0 C hT hlt hout rfl (by decide) ⟨by decide +kernel, by decide +kernel⟩ zcl_119 zini_3 (List.mem_of_getElem? (i := 26) rfl) zat_123 zgw_123 dX5_sell_12 dX5_sell_15 dX5_sell_16 dX5_sell_18 dX5_sell_21 ⟨Nat.le_of_ble_eq_true rfl, Nat.le_of_ble_eq_true rfl, Nat.le_of_ble_eq_true rfl, Nat.le_of_ble_eq_true rfl⟩
def f_X5_setLimit (X : Nat → Nat → Int32) (v1 v2 : Int32) : Nat × Int32 × (Nat → Nat → Int32) := (if (f_X5_isWithin v1 (nI 0) (nI 15)) = 0 then (3, 0, X) else (if (f_X5_isRating v2) = 0 then (1, 0, X) else (zlet (f_X0_keep X) fun X_3 => (zlet (f_X3_exchangeSetting X_3 ((nI 10) + v1) v2) fun q_5 => (0, q_5.1, q_5.2)))))
set_option maxRecDepth 100000 in
set_option maxHeartbeats 4000000 in
theorem c_X5_setLimit (l : Launch) (hlt : l.stackTraces = false) (D : va_G) (cy : Nat → ClassId) (ad : Nat → Nat) (E : va_W) (X : Nat → Nat → Int32) (v1 v2 : Int32) : zMx l yX5_setLimit cX5_setLimit 3 (some .int) (zrmx 5) D (zTy cy) (zW cy ad shC E X) [.ref (ad 0), .int v1, .int v2] (f_X5_setLimit X v1 v2).1 (f_X5_setLimit X v1 v2).2.1 (zW cy ad shC E (f_X5_setLimit X v1 v2).2.2) := by
  refine zMx.of (by decide) (Nat.le_of_ble_eq_true rfl) ?_
  intro p e s m below meth c A C hr hT hout
  generalize h : f_X5_setLimit X v1 v2 = res
  unfold f_X5_setLimit at h
  refine zG_L (L' := [(0, .ref (ad 0)), (1, .int v1), (2, .int v2)]) rfl ?_
  refine g_iload_n (j := 1) C dX5_setLimit_0 rfl rfl ?_
  refine g_iconst (v := (nI 0)) C dX5_setLimit_1 (by decide) ?_
  refine g_bipush (v := (nI 15)) C dX5_setLimit_2 (by decide) ?_
  refine g_si (ws' := (zW cy ad shC E X)) (As := [.int v1, .int (nI 0), .int (nI 15)]) (rest := []) (res := (f_X5_isWithin v1 (nI 0) (nI 15))) C (c_X5_isWithin l D cy (zW cy ad shC E X) v1 (nI 0) (nI 15)) zml_RX5_64 zcs_X5_isWithin rfl rfl ⟨Nat.le_of_ble_eq_true rfl, Nat.le_of_ble_eq_true rfl⟩ rfl rfl (Nat.le_of_ble_eq_true rfl) ⟨Nat.zero_le _, Nat.zero_le _⟩ dX5_setLimit_4 ?_
  refine g_if_ne C dX5_setLimit_7 (tgt := 20) (by decide) (fun hc_1 => ?_) (fun hc_1 => ?_)
  · replace h := (if_neg hc_1).symm.trans h
    refine g_iload_n (j := 2) C dX5_setLimit_20 rfl rfl ?_
    refine g_si (ws' := (zW cy ad shC E X)) (As := [.int v2]) (rest := []) (res := (f_X5_isRating v2)) C (c_X5_isRating l D cy (zW cy ad shC E X) v2) zml_RX5_101 zcs_X5_isRating rfl rfl ⟨Nat.le_of_ble_eq_true rfl, Nat.le_of_ble_eq_true rfl⟩ rfl rfl (Nat.le_of_ble_eq_true rfl) ⟨Nat.zero_le _, Nat.zero_le _⟩ dX5_setLimit_21 ?_
    refine g_if_ne C dX5_setLimit_24 (tgt := 37) (by decide) (fun hc_2 => ?_) (fun hc_2 => ?_)
    · replace h := (if_neg hc_2).symm.trans h
      refine g_aload_n (j := 0) C dX5_setLimit_37 rfl rfl ?_
      refine g_getr (k := 2) (N := 11) C sC_0 rfl zin_RX5 (by decide) rfl zfl_RX5_22 rfl dX5_setLimit_38 ?_
      refine g_aload_n (j := 0) C dX5_setLimit_41 rfl rfl ?_
      refine g_getr (k := 0) (N := 11) C sC_0 rfl zin_RX5 (by decide) rfl zfl_RX5_10 rfl dX5_setLimit_42 ?_
      obtain ⟨X_3, e_4, h⟩ := zlet_ex h
      refine g_vv (ws' := (zW cy ad shC E X_3)) (As := [.ref (ad 1)]) (rest := []) C ((by rw [e_4]; exact c_X0_keep l D cy ad E X)) zml_RX5_90 zcv_X0_keep (zW_get X sC_27) rfl rfl rfl ⟨Nat.le_of_ble_eq_true rfl, Nat.le_of_ble_eq_true rfl⟩ rfl rfl (Nat.le_of_ble_eq_true rfl) ⟨Nat.zero_le _, Nat.zero_le _⟩ dX5_setLimit_45 ?_
      refine g_aload_n (j := 0) C dX5_setLimit_48 rfl rfl ?_
      refine g_getr (k := 0) (N := 11) C sC_0 rfl zin_RX5 (by decide) rfl zfl_RX5_10 rfl dX5_setLimit_49 ?_
      refine g_bipush (v := (nI 10)) C dX5_setLimit_52 (by decide) ?_
      refine g_iload_n (j := 1) C dX5_setLimit_54 rfl rfl ?_
      refine g_iadd C dX5_setLimit_55 ?_
      refine g_iload_n (j := 2) C dX5_setLimit_56 rfl rfl ?_
      obtain ⟨q_5, e_6, h⟩ := zlet_ex h
      refine g_vi (ws' := (zW cy ad shC E q_5.2)) (As := [.int ((nI 10) + v1), .int v2]) (rest := []) (res := q_5.1) C ((by rw [e_6]; exact c_X3_exchangeSetting l D cy ad E X_3 ((nI 10) + v1) v2)) zml_RX5_146 zcv_X3_exchangeSetting (zW_get X_3 sC_1) rfl rfl rfl ⟨Nat.le_of_ble_eq_true rfl, Nat.le_of_ble_eq_true rfl⟩ rfl rfl (Nat.le_of_ble_eq_true rfl) ⟨Nat.zero_le _, Nat.zero_le _⟩ dX5_setLimit_57 ?_
      subst h
      exact g_xret C hr rfl dX5_setLimit_60
    · replace h := (if_pos hc_2).symm.trans h
      subst h
      exact g_throw 1 0 C hT hlt hout rfl (by decide) ⟨by decide +kernel, by decide +kernel⟩ zcl_68 zini_1 (List.mem_of_getElem? (i := 9) rfl) zat_72 zgw_72 dX5_setLimit_27 dX5_setLimit_30 dX5_setLimit_31 dX5_setLimit_33 dX5_setLimit_36 ⟨Nat.le_of_ble_eq_true rfl, Nat.le_of_ble_eq_true rfl, Nat.le_of_ble_eq_true rfl, Nat.le_of_ble_eq_true rfl⟩
  · replace h := (if_pos hc_1).symm.trans h
    subst h
    exact g_throw 3 0 C hT hlt hout rfl (by decide) ⟨by decide +kernel, by decide +kernel⟩ zcl_119 zini_3 (List.mem_of_getElem? (i := 8) rfl) zat_123 zgw_123 dX5_setLimit_10 dX5_setLimit_13 dX5_setLimit_14 dX5_setLimit_16 dX5_setLimit_19 ⟨Nat.le_of_ble_eq_true rfl, Nat.le_of_ble_eq_true rfl, Nat.le_of_ble_eq_true rfl, Nat.le_of_ble_eq_true rfl⟩
def f_X5_setShares (X : Nat → Nat → Int32) (v1 v2 v3 v4 : Int32) : Nat × Int32 × (Nat → Nat → Int32) := (if (f_X4_isRow X 4 96 v1) = 0 then (3, 0, X) else (if (f_X5_isWithin v2 (nI 0) (nI 100)) = 0 then (1, 0, X) else (if (f_X5_isWithin v3 (nI 0) (nI 50)) = 0 then (1, 0, X) else (if (f_X5_isWithin v4 (nI 0) v2) = 0 then (1, 0, X) else (zlet (f_X0_keep X) fun X_5 => (zlet (f_X4_put X_5 4 96 v1 (nI 9) v2) fun X_7 => (zlet (f_X4_put X_7 4 96 v1 (nI 10) v3) fun X_9 => (zlet (f_X4_put X_9 4 96 v1 (nI 11) v4) fun X_11 => (0, (f_X4_get X_5 4 96 v1 (nI 9)), X_11)))))))))
set_option maxRecDepth 100000 in
set_option maxHeartbeats 4000000 in
theorem c_X5_setShares (l : Launch) (hlt : l.stackTraces = false) (D : va_G) (cy : Nat → ClassId) (ad : Nat → Nat) (E : va_W) (X : Nat → Nat → Int32) (v1 v2 v3 v4 : Int32) : zMx l yX5_setShares cX5_setShares 6 (some .int) (zrmx 5) D (zTy cy) (zW cy ad shC E X) [.ref (ad 0), .int v1, .int v2, .int v3, .int v4] (f_X5_setShares X v1 v2 v3 v4).1 (f_X5_setShares X v1 v2 v3 v4).2.1 (zW cy ad shC E (f_X5_setShares X v1 v2 v3 v4).2.2) := by
  refine zMx.of (by decide) (Nat.le_of_ble_eq_true rfl) ?_
  intro p e s m below meth c A C hr hT hout
  generalize h : f_X5_setShares X v1 v2 v3 v4 = res
  unfold f_X5_setShares at h
  refine zG_L (L' := [(0, .ref (ad 0)), (1, .int v1), (2, .int v2), (3, .int v3), (4, .int v4)]) rfl ?_
  refine g_aload_n (j := 0) C dX5_setShares_0 rfl rfl ?_
  refine g_getr (k := 0) (N := 11) C sC_0 rfl zin_RX5 (by decide) rfl zfl_RX5_10 rfl dX5_setShares_1 ?_
  refine g_getr (k := 1) (N := 8) C sC_1 rfl zin_RX3 (by decide) rfl zfl_RX5_111 rfl dX5_setShares_4 ?_
  refine g_iload_n (j := 1) C dX5_setShares_7 rfl rfl ?_
  refine g_vi (ws' := (zW cy ad shC E X)) (As := [.int v1]) (rest := []) (res := (f_X4_isRow X 4 96 v1)) C (c_X4_isRow l D cy ad E X 4 96 sC_4 sC_5 (by decide) v1) zml_RX5_116 zcv_X4_isRow (zW_get X sC_4) rfl rfl rfl ⟨Nat.le_of_ble_eq_true rfl, Nat.le_of_ble_eq_true rfl⟩ rfl rfl (Nat.le_of_ble_eq_true rfl) ⟨Nat.zero_le _, Nat.zero_le _⟩ dX5_setShares_8 ?_
  refine g_if_ne C dX5_setShares_11 (tgt := 24) (by decide) (fun hc_1 => ?_) (fun hc_1 => ?_)
  · replace h := (if_neg hc_1).symm.trans h
    refine g_iload_n (j := 2) C dX5_setShares_24 rfl rfl ?_
    refine g_iconst (v := (nI 0)) C dX5_setShares_25 (by decide) ?_
    refine g_bipush (v := (nI 100)) C dX5_setShares_26 (by decide) ?_
    refine g_si (ws' := (zW cy ad shC E X)) (As := [.int v2, .int (nI 0), .int (nI 100)]) (rest := []) (res := (f_X5_isWithin v2 (nI 0) (nI 100))) C (c_X5_isWithin l D cy (zW cy ad shC E X) v2 (nI 0) (nI 100)) zml_RX5_64 zcs_X5_isWithin rfl rfl ⟨Nat.le_of_ble_eq_true rfl, Nat.le_of_ble_eq_true rfl⟩ rfl rfl (Nat.le_of_ble_eq_true rfl) ⟨Nat.zero_le _, Nat.zero_le _⟩ dX5_setShares_28 ?_
    refine g_if_eq C dX5_setShares_31 (tgt := 54) (by decide) (fun hc_2 => ?_) (fun hc_2 => ?_)
    · replace h := (if_pos hc_2).symm.trans h
      subst h
      exact g_throw 1 0 C hT hlt hout rfl (by decide) ⟨by decide +kernel, by decide +kernel⟩ zcl_68 zini_1 (List.mem_of_getElem? (i := 4) rfl) zat_72 zgw_72 dX5_setShares_54 dX5_setShares_57 dX5_setShares_58 dX5_setShares_60 dX5_setShares_63 ⟨Nat.le_of_ble_eq_true rfl, Nat.le_of_ble_eq_true rfl, Nat.le_of_ble_eq_true rfl, Nat.le_of_ble_eq_true rfl⟩
    · replace h := (if_neg hc_2).symm.trans h
      refine g_iload_n (j := 3) C dX5_setShares_34 rfl rfl ?_
      refine g_iconst (v := (nI 0)) C dX5_setShares_35 (by decide) ?_
      refine g_bipush (v := (nI 50)) C dX5_setShares_36 (by decide) ?_
      refine g_si (ws' := (zW cy ad shC E X)) (As := [.int v3, .int (nI 0), .int (nI 50)]) (rest := []) (res := (f_X5_isWithin v3 (nI 0) (nI 50))) C (c_X5_isWithin l D cy (zW cy ad shC E X) v3 (nI 0) (nI 50)) zml_RX5_64 zcs_X5_isWithin rfl rfl ⟨Nat.le_of_ble_eq_true rfl, Nat.le_of_ble_eq_true rfl⟩ rfl rfl (Nat.le_of_ble_eq_true rfl) ⟨Nat.zero_le _, Nat.zero_le _⟩ dX5_setShares_38 ?_
      refine g_if_eq C dX5_setShares_41 (tgt := 54) (by decide) (fun hc_3 => ?_) (fun hc_3 => ?_)
      · replace h := (if_pos hc_3).symm.trans h
        subst h
        exact g_throw 1 0 C hT hlt hout rfl (by decide) ⟨by decide +kernel, by decide +kernel⟩ zcl_68 zini_1 (List.mem_of_getElem? (i := 4) rfl) zat_72 zgw_72 dX5_setShares_54 dX5_setShares_57 dX5_setShares_58 dX5_setShares_60 dX5_setShares_63 ⟨Nat.le_of_ble_eq_true rfl, Nat.le_of_ble_eq_true rfl, Nat.le_of_ble_eq_true rfl, Nat.le_of_ble_eq_true rfl⟩
      · replace h := (if_neg hc_3).symm.trans h
        refine g_iload (j := 4) C dX5_setShares_44 rfl ?_
        refine g_iconst (v := (nI 0)) C dX5_setShares_46 (by decide) ?_
        refine g_iload_n (j := 2) C dX5_setShares_47 rfl rfl ?_
        refine g_si (ws' := (zW cy ad shC E X)) (As := [.int v4, .int (nI 0), .int v2]) (rest := []) (res := (f_X5_isWithin v4 (nI 0) v2)) C (c_X5_isWithin l D cy (zW cy ad shC E X) v4 (nI 0) v2) zml_RX5_64 zcs_X5_isWithin rfl rfl ⟨Nat.le_of_ble_eq_true rfl, Nat.le_of_ble_eq_true rfl⟩ rfl rfl (Nat.le_of_ble_eq_true rfl) ⟨Nat.zero_le _, Nat.zero_le _⟩ dX5_setShares_48 ?_
        refine g_if_ne C dX5_setShares_51 (tgt := 64) (by decide) (fun hc_4 => ?_) (fun hc_4 => ?_)
        · replace h := (if_neg hc_4).symm.trans h
          refine g_aload_n (j := 0) C dX5_setShares_64 rfl rfl ?_
          refine g_getr (k := 2) (N := 11) C sC_0 rfl zin_RX5 (by decide) rfl zfl_RX5_22 rfl dX5_setShares_65 ?_
          refine g_aload_n (j := 0) C dX5_setShares_68 rfl rfl ?_
          refine g_getr (k := 0) (N := 11) C sC_0 rfl zin_RX5 (by decide) rfl zfl_RX5_10 rfl dX5_setShares_69 ?_
          obtain ⟨X_5, e_6, h⟩ := zlet_ex h
          refine g_vv (ws' := (zW cy ad shC E X_5)) (As := [.ref (ad 1)]) (rest := []) C ((by rw [e_6]; exact c_X0_keep l D cy ad E X)) zml_RX5_90 zcv_X0_keep (zW_get X sC_27) rfl rfl rfl ⟨Nat.le_of_ble_eq_true rfl, Nat.le_of_ble_eq_true rfl⟩ rfl rfl (Nat.le_of_ble_eq_true rfl) ⟨Nat.zero_le _, Nat.zero_le _⟩ dX5_setShares_72 ?_
          refine g_aload_n (j := 0) C dX5_setShares_75 rfl rfl ?_
          refine g_getr (k := 0) (N := 11) C sC_0 rfl zin_RX5 (by decide) rfl zfl_RX5_10 rfl dX5_setShares_76 ?_
          refine g_getr (k := 1) (N := 8) C sC_1 rfl zin_RX3 (by decide) rfl zfl_RX5_111 rfl dX5_setShares_79 ?_
          refine g_iload_n (j := 1) C dX5_setShares_82 rfl rfl ?_
          refine g_bipush (v := (nI 9)) C dX5_setShares_83 (by decide) ?_
          refine g_vi (ws' := (zW cy ad shC E X_5)) (As := [.int v1, .int (nI 9)]) (rest := []) (res := (f_X4_get X_5 4 96 v1 (nI 9))) C (c_X4_get l D cy ad E X_5 4 96 sC_4 sC_5 (by decide) v1 (nI 9)) zml_RX5_126 zcv_X4_get (zW_get X_5 sC_4) rfl rfl rfl ⟨Nat.le_of_ble_eq_true rfl, Nat.le_of_ble_eq_true rfl⟩ rfl rfl (Nat.le_of_ble_eq_true rfl) ⟨Nat.zero_le _, Nat.zero_le _⟩ dX5_setShares_85 ?_
          refine g_istore (L' := [(5, .int (f_X4_get X_5 4 96 v1 (nI 9))), (0, .ref (ad 0)), (1, .int v1), (2, .int v2), (3, .int v3), (4, .int v4)]) C dX5_setShares_88 (by decide) rfl ?_
          refine g_aload_n (j := 1) C dX5_setShares_90 rfl rfl ?_
          refine g_getr (k := 0) (N := 11) C sC_0 rfl zin_RX5 (by decide) rfl zfl_RX5_10 rfl dX5_setShares_91 ?_
          refine g_getr (k := 1) (N := 8) C sC_1 rfl zin_RX3 (by decide) rfl zfl_RX5_111 rfl dX5_setShares_94 ?_
          refine g_iload_n (j := 2) C dX5_setShares_97 rfl rfl ?_
          refine g_bipush (v := (nI 9)) C dX5_setShares_98 (by decide) ?_
          refine g_iload_n (j := 3) C dX5_setShares_100 rfl rfl ?_
          obtain ⟨X_7, e_8, h⟩ := zlet_ex h
          refine g_vv (ws' := (zW cy ad shC E X_7)) (As := [.int v1, .int (nI 9), .int v2]) (rest := []) C ((by rw [e_8]; exact c_X4_put l D cy ad E X_5 4 96 sC_4 sC_5 (by decide) v1 (nI 9) v2)) zml_RX5_97 zcv_X4_put (zW_get X_5 sC_4) rfl rfl rfl ⟨Nat.le_of_ble_eq_true rfl, Nat.le_of_ble_eq_true rfl⟩ rfl rfl (Nat.le_of_ble_eq_true rfl) ⟨Nat.zero_le _, Nat.zero_le _⟩ dX5_setShares_101 ?_
          refine g_aload_n (j := 1) C dX5_setShares_104 rfl rfl ?_
          refine g_getr (k := 0) (N := 11) C sC_0 rfl zin_RX5 (by decide) rfl zfl_RX5_10 rfl dX5_setShares_105 ?_
          refine g_getr (k := 1) (N := 8) C sC_1 rfl zin_RX3 (by decide) rfl zfl_RX5_111 rfl dX5_setShares_108 ?_
          refine g_iload_n (j := 2) C dX5_setShares_111 rfl rfl ?_
          refine g_bipush (v := (nI 10)) C dX5_setShares_112 (by decide) ?_
          refine g_iload_n (j := 4) C dX5_setShares_114 rfl rfl ?_
          obtain ⟨X_9, e_10, h⟩ := zlet_ex h
          refine g_vv (ws' := (zW cy ad shC E X_9)) (As := [.int v1, .int (nI 10), .int v3]) (rest := []) C ((by rw [e_10]; exact c_X4_put l D cy ad E X_7 4 96 sC_4 sC_5 (by decide) v1 (nI 10) v3)) zml_RX5_97 zcv_X4_put (zW_get X_7 sC_4) rfl rfl rfl ⟨Nat.le_of_ble_eq_true rfl, Nat.le_of_ble_eq_true rfl⟩ rfl rfl (Nat.le_of_ble_eq_true rfl) ⟨Nat.zero_le _, Nat.zero_le _⟩ dX5_setShares_115 ?_
          refine g_aload_n (j := 1) C dX5_setShares_118 rfl rfl ?_
          refine g_getr (k := 0) (N := 11) C sC_0 rfl zin_RX5 (by decide) rfl zfl_RX5_10 rfl dX5_setShares_119 ?_
          refine g_getr (k := 1) (N := 8) C sC_1 rfl zin_RX3 (by decide) rfl zfl_RX5_111 rfl dX5_setShares_122 ?_
          refine g_iload_n (j := 2) C dX5_setShares_125 rfl rfl ?_
          refine g_bipush (v := (nI 11)) C dX5_setShares_126 (by decide) ?_
          refine g_iload (j := 5) C dX5_setShares_128 rfl ?_
          obtain ⟨X_11, e_12, h⟩ := zlet_ex h
          refine g_vv (ws' := (zW cy ad shC E X_11)) (As := [.int v1, .int (nI 11), .int v4]) (rest := []) C ((by rw [e_12]; exact c_X4_put l D cy ad E X_9 4 96 sC_4 sC_5 (by decide) v1 (nI 11) v4)) zml_RX5_97 zcv_X4_put (zW_get X_9 sC_4) rfl rfl rfl ⟨Nat.le_of_ble_eq_true rfl, Nat.le_of_ble_eq_true rfl⟩ rfl rfl (Nat.le_of_ble_eq_true rfl) ⟨Nat.zero_le _, Nat.zero_le _⟩ dX5_setShares_130 ?_
          refine g_iload (j := 0) C dX5_setShares_133 rfl ?_
          subst h
          exact g_xret C hr rfl dX5_setShares_135
        · replace h := (if_pos hc_4).symm.trans h
          subst h
          exact g_throw 1 0 C hT hlt hout rfl (by decide) ⟨by decide +kernel, by decide +kernel⟩ zcl_68 zini_1 (List.mem_of_getElem? (i := 4) rfl) zat_72 zgw_72 dX5_setShares_54 dX5_setShares_57 dX5_setShares_58 dX5_setShares_60 dX5_setShares_63 ⟨Nat.le_of_ble_eq_true rfl, Nat.le_of_ble_eq_true rfl, Nat.le_of_ble_eq_true rfl, Nat.le_of_ble_eq_true rfl⟩
  · replace h := (if_pos hc_1).symm.trans h
    subst h
    exact g_throw 3 0 C hT hlt hout rfl (by decide) ⟨by decide +kernel, by decide +kernel⟩ zcl_119 zini_3 (List.mem_of_getElem? (i := 3) rfl) zat_123 zgw_123 dX5_setShares_14 dX5_setShares_17 dX5_setShares_18 dX5_setShares_20 dX5_setShares_23 ⟨Nat.le_of_ble_eq_true rfl, Nat.le_of_ble_eq_true rfl, Nat.le_of_ble_eq_true rfl, Nat.le_of_ble_eq_true rfl⟩
def f_X5_setting (X : Nat → Nat → Int32) (v1 : Int32) : Nat × Int32 × (Nat → Nat → Int32) := (if (f_X5_isWithin v1 (nI 0) (nI 5)) = 0 then (if (f_X5_isWithin v1 (nI 10) (nI 25)) = 0 then (3, 0, X) else (0, (f_X3_settingOf X v1), X)) else (0, (f_X3_settingOf X v1), X))
set_option maxRecDepth 100000 in
set_option maxHeartbeats 4000000 in
theorem c_X5_setting (l : Launch) (hlt : l.stackTraces = false) (D : va_G) (cy : Nat → ClassId) (ad : Nat → Nat) (E : va_W) (X : Nat → Nat → Int32) (v1 : Int32) : zMx l yX5_setting cX5_setting 2 (some .int) (zrmx 3) D (zTy cy) (zW cy ad shC E X) [.ref (ad 0), .int v1] (f_X5_setting X v1).1 (f_X5_setting X v1).2.1 (zW cy ad shC E (f_X5_setting X v1).2.2) := by
  refine zMx.of (by decide) (Nat.le_of_ble_eq_true rfl) ?_
  intro p e s m below meth c A C hr hT hout
  generalize h : f_X5_setting X v1 = res
  unfold f_X5_setting at h
  refine zG_L (L' := [(0, .ref (ad 0)), (1, .int v1)]) rfl ?_
  refine g_iload_n (j := 1) C dX5_setting_0 rfl rfl ?_
  refine g_iconst (v := (nI 0)) C dX5_setting_1 (by decide) ?_
  refine g_iconst (v := (nI 5)) C dX5_setting_2 (by decide) ?_
  refine g_si (ws' := (zW cy ad shC E X)) (As := [.int v1, .int (nI 0), .int (nI 5)]) (rest := []) (res := (f_X5_isWithin v1 (nI 0) (nI 5))) C (c_X5_isWithin l D cy (zW cy ad shC E X) v1 (nI 0) (nI 5)) zml_RX5_64 zcs_X5_isWithin rfl rfl ⟨Nat.le_of_ble_eq_true rfl, Nat.le_of_ble_eq_true rfl⟩ rfl rfl (Nat.le_of_ble_eq_true rfl) ⟨Nat.zero_le _, Nat.zero_le _⟩ dX5_setting_3 ?_
  refine g_if_ne C dX5_setting_6 (tgt := 30) (by decide) (fun hc_1 => ?_) (fun hc_1 => ?_)
  · replace h := (if_neg hc_1).symm.trans h
    refine g_aload_n (j := 0) C dX5_setting_30 rfl rfl ?_
    refine g_getr (k := 0) (N := 11) C sC_0 rfl zin_RX5 (by decide) rfl zfl_RX5_10 rfl dX5_setting_31 ?_
    refine g_iload_n (j := 1) C dX5_setting_34 rfl rfl ?_
    refine g_vi (ws' := (zW cy ad shC E X)) (As := [.int v1]) (rest := []) (res := (f_X3_settingOf X v1)) C (c_X3_settingOf l D cy ad E X v1) zml_RX5_155 zcv_X3_settingOf (zW_get X sC_1) rfl rfl rfl ⟨Nat.le_of_ble_eq_true rfl, Nat.le_of_ble_eq_true rfl⟩ rfl rfl (Nat.le_of_ble_eq_true rfl) ⟨Nat.zero_le _, Nat.zero_le _⟩ dX5_setting_35 ?_
    subst h
    exact g_xret C hr rfl dX5_setting_38
  · replace h := (if_pos hc_1).symm.trans h
    refine g_iload_n (j := 1) C dX5_setting_9 rfl rfl ?_
    refine g_bipush (v := (nI 10)) C dX5_setting_10 (by decide) ?_
    refine g_bipush (v := (nI 25)) C dX5_setting_12 (by decide) ?_
    refine g_si (ws' := (zW cy ad shC E X)) (As := [.int v1, .int (nI 10), .int (nI 25)]) (rest := []) (res := (f_X5_isWithin v1 (nI 10) (nI 25))) C (c_X5_isWithin l D cy (zW cy ad shC E X) v1 (nI 10) (nI 25)) zml_RX5_64 zcs_X5_isWithin rfl rfl ⟨Nat.le_of_ble_eq_true rfl, Nat.le_of_ble_eq_true rfl⟩ rfl rfl (Nat.le_of_ble_eq_true rfl) ⟨Nat.zero_le _, Nat.zero_le _⟩ dX5_setting_14 ?_
    refine g_if_ne C dX5_setting_17 (tgt := 30) (by decide) (fun hc_2 => ?_) (fun hc_2 => ?_)
    · replace h := (if_neg hc_2).symm.trans h
      refine g_aload_n (j := 0) C dX5_setting_30 rfl rfl ?_
      refine g_getr (k := 0) (N := 11) C sC_0 rfl zin_RX5 (by decide) rfl zfl_RX5_10 rfl dX5_setting_31 ?_
      refine g_iload_n (j := 1) C dX5_setting_34 rfl rfl ?_
      refine g_vi (ws' := (zW cy ad shC E X)) (As := [.int v1]) (rest := []) (res := (f_X3_settingOf X v1)) C (c_X3_settingOf l D cy ad E X v1) zml_RX5_155 zcv_X3_settingOf (zW_get X sC_1) rfl rfl rfl ⟨Nat.le_of_ble_eq_true rfl, Nat.le_of_ble_eq_true rfl⟩ rfl rfl (Nat.le_of_ble_eq_true rfl) ⟨Nat.zero_le _, Nat.zero_le _⟩ dX5_setting_35 ?_
      subst h
      exact g_xret C hr rfl dX5_setting_38
    · replace h := (if_pos hc_2).symm.trans h
      subst h
      exact g_throw 3 0 C hT hlt hout rfl (by decide) ⟨by decide +kernel, by decide +kernel⟩ zcl_119 zini_3 (List.mem_of_getElem? (i := 10) rfl) zat_123 zgw_123 dX5_setting_20 dX5_setting_23 dX5_setting_24 dX5_setting_26 dX5_setting_29 ⟨Nat.le_of_ble_eq_true rfl, Nat.le_of_ble_eq_true rfl, Nat.le_of_ble_eq_true rfl, Nat.le_of_ble_eq_true rfl⟩
def f_X5_share (X : Nat → Nat → Int32) (v1 v2 : Int32) : Nat × Int32 × (Nat → Nat → Int32) := (if (f_X4_isRow X 4 96 v1) = 0 then (3, 0, X) else (if (f_X5_isDay v2) = 0 then (1, 0, X) else (if (f_X4_get X 4 96 v1 (nI 4)) ≤ v2 then (0, (f_X3_shareOn X v1 v2), X) else (6, 0, X))))
set_option maxRecDepth 100000 in
set_option maxHeartbeats 4000000 in
theorem c_X5_share (l : Launch) (hlt : l.stackTraces = false) (D : va_G) (cy : Nat → ClassId) (ad : Nat → Nat) (E : va_W) (X : Nat → Nat → Int32) (v1 v2 : Int32) : zMx l yX5_share cX5_share 3 (some .int) (zrmx 3) D (zTy cy) (zW cy ad shC E X) [.ref (ad 0), .int v1, .int v2] (f_X5_share X v1 v2).1 (f_X5_share X v1 v2).2.1 (zW cy ad shC E (f_X5_share X v1 v2).2.2) := by
  refine zMx.of (by decide) (Nat.le_of_ble_eq_true rfl) ?_
  intro p e s m below meth c A C hr hT hout
  generalize h : f_X5_share X v1 v2 = res
  unfold f_X5_share at h
  refine zG_L (L' := [(0, .ref (ad 0)), (1, .int v1), (2, .int v2)]) rfl ?_
  refine g_aload_n (j := 0) C dX5_share_0 rfl rfl ?_
  refine g_getr (k := 0) (N := 11) C sC_0 rfl zin_RX5 (by decide) rfl zfl_RX5_10 rfl dX5_share_1 ?_
  refine g_getr (k := 1) (N := 8) C sC_1 rfl zin_RX3 (by decide) rfl zfl_RX5_111 rfl dX5_share_4 ?_
  refine g_iload_n (j := 1) C dX5_share_7 rfl rfl ?_
  refine g_vi (ws' := (zW cy ad shC E X)) (As := [.int v1]) (rest := []) (res := (f_X4_isRow X 4 96 v1)) C (c_X4_isRow l D cy ad E X 4 96 sC_4 sC_5 (by decide) v1) zml_RX5_116 zcv_X4_isRow (zW_get X sC_4) rfl rfl rfl ⟨Nat.le_of_ble_eq_true rfl, Nat.le_of_ble_eq_true rfl⟩ rfl rfl (Nat.le_of_ble_eq_true rfl) ⟨Nat.zero_le _, Nat.zero_le _⟩ dX5_share_8 ?_
  refine g_if_ne C dX5_share_11 (tgt := 24) (by decide) (fun hc_1 => ?_) (fun hc_1 => ?_)
  · replace h := (if_neg hc_1).symm.trans h
    refine g_iload_n (j := 2) C dX5_share_24 rfl rfl ?_
    refine g_si (ws' := (zW cy ad shC E X)) (As := [.int v2]) (rest := []) (res := (f_X5_isDay v2)) C (c_X5_isDay l D cy (zW cy ad shC E X) v2) zml_RX5_108 zcs_X5_isDay rfl rfl ⟨Nat.le_of_ble_eq_true rfl, Nat.le_of_ble_eq_true rfl⟩ rfl rfl (Nat.le_of_ble_eq_true rfl) ⟨Nat.zero_le _, Nat.zero_le _⟩ dX5_share_25 ?_
    refine g_if_ne C dX5_share_28 (tgt := 41) (by decide) (fun hc_2 => ?_) (fun hc_2 => ?_)
    · replace h := (if_neg hc_2).symm.trans h
      refine g_iload_n (j := 2) C dX5_share_41 rfl rfl ?_
      refine g_aload_n (j := 0) C dX5_share_42 rfl rfl ?_
      refine g_getr (k := 0) (N := 11) C sC_0 rfl zin_RX5 (by decide) rfl zfl_RX5_10 rfl dX5_share_43 ?_
      refine g_getr (k := 1) (N := 8) C sC_1 rfl zin_RX3 (by decide) rfl zfl_RX5_111 rfl dX5_share_46 ?_
      refine g_iload_n (j := 1) C dX5_share_49 rfl rfl ?_
      refine g_iconst (v := (nI 4)) C dX5_share_50 (by decide) ?_
      refine g_vi (ws' := (zW cy ad shC E X)) (As := [.int v1, .int (nI 4)]) (rest := [.int v2]) (res := (f_X4_get X 4 96 v1 (nI 4))) C (c_X4_get l D cy ad E X 4 96 sC_4 sC_5 (by decide) v1 (nI 4)) zml_RX5_126 zcv_X4_get (zW_get X sC_4) rfl rfl rfl ⟨Nat.le_of_ble_eq_true rfl, Nat.le_of_ble_eq_true rfl⟩ rfl rfl (Nat.le_of_ble_eq_true rfl) ⟨Nat.zero_le _, Nat.zero_le _⟩ dX5_share_51 ?_
      refine g_icmp_ge C dX5_share_54 (tgt := 67) (by decide) (fun hc_3 => ?_) (fun hc_3 => ?_)
      · replace h := (if_pos hc_3).symm.trans h
        refine g_aload_n (j := 0) C dX5_share_67 rfl rfl ?_
        refine g_getr (k := 0) (N := 11) C sC_0 rfl zin_RX5 (by decide) rfl zfl_RX5_10 rfl dX5_share_68 ?_
        refine g_iload_n (j := 1) C dX5_share_71 rfl rfl ?_
        refine g_iload_n (j := 2) C dX5_share_72 rfl rfl ?_
        refine g_vi (ws' := (zW cy ad shC E X)) (As := [.int v1, .int v2]) (rest := []) (res := (f_X3_shareOn X v1 v2)) C (c_X3_shareOn l D cy ad E X v1 v2) zml_RX5_176 zcv_X3_shareOn (zW_get X sC_1) rfl rfl rfl ⟨Nat.le_of_ble_eq_true rfl, Nat.le_of_ble_eq_true rfl⟩ rfl rfl (Nat.le_of_ble_eq_true rfl) ⟨Nat.zero_le _, Nat.zero_le _⟩ dX5_share_73 ?_
        subst h
        exact g_xret C hr rfl dX5_share_76
      · replace h := (if_neg hc_3).symm.trans h
        subst h
        exact g_throwN 6 0 C hT hlt hout rfl rfl zcl_171 zini_6 (List.mem_of_getElem? (i := 15) rfl) zat_175 zgw_175 dX5_share_57 dX5_share_60 dX5_share_61 dX5_share_63 dX5_share_66 ⟨Nat.le_of_ble_eq_true rfl, Nat.le_of_ble_eq_true rfl, Nat.le_of_ble_eq_true rfl, Nat.le_of_ble_eq_true rfl⟩
    · replace h := (if_pos hc_2).symm.trans h
      subst h
      exact g_throw 1 0 C hT hlt hout rfl (by decide) ⟨by decide +kernel, by decide +kernel⟩ zcl_68 zini_1 (List.mem_of_getElem? (i := 14) rfl) zat_72 zgw_72 dX5_share_31 dX5_share_34 dX5_share_35 dX5_share_37 dX5_share_40 ⟨Nat.le_of_ble_eq_true rfl, Nat.le_of_ble_eq_true rfl, Nat.le_of_ble_eq_true rfl, Nat.le_of_ble_eq_true rfl⟩
  · replace h := (if_pos hc_1).symm.trans h
    subst h
    exact g_throw 3 0 C hT hlt hout rfl (by decide) ⟨by decide +kernel, by decide +kernel⟩ zcl_119 zini_3 (List.mem_of_getElem? (i := 3) rfl) zat_123 zgw_123 dX5_share_14 dX5_share_17 dX5_share_18 dX5_share_20 dX5_share_23 ⟨Nat.le_of_ble_eq_true rfl, Nat.le_of_ble_eq_true rfl, Nat.le_of_ble_eq_true rfl, Nat.le_of_ble_eq_true rfl⟩
def f_X5_show (X : Nat → Nat → Int32) (v1 v2 : Int32) : Nat × Int32 × (Nat → Nat → Int32) := (if (f_X4_isRow X 8 360 v1) = 0 then (3, 0, X) else (if (f_X5_isWithin v2 (nI 0) (nI 11)) = 0 then (1, 0, X) else (if v2 = (nI 8) then (0, (f_X3_statusOf X v1), X) else (if v2 = (nI 9) then (0, (f_X3_receiptsOf X v1), X) else (if v2 = (nI 10) then (0, (f_X3_partOf X v1), X) else (0, (f_X4_get X 8 360 v1 v2), X))))))
set_option maxRecDepth 100000 in
set_option maxHeartbeats 4000000 in
theorem c_X5_show (l : Launch) (hlt : l.stackTraces = false) (D : va_G) (cy : Nat → ClassId) (ad : Nat → Nat) (E : va_W) (X : Nat → Nat → Int32) (v1 v2 : Int32) : zMx l yX5_show cX5_show 3 (some .int) (zrmx 4) D (zTy cy) (zW cy ad shC E X) [.ref (ad 0), .int v1, .int v2] (f_X5_show X v1 v2).1 (f_X5_show X v1 v2).2.1 (zW cy ad shC E (f_X5_show X v1 v2).2.2) := by
  refine zMx.of (by decide) (Nat.le_of_ble_eq_true rfl) ?_
  intro p e s m below meth c A C hr hT hout
  generalize h : f_X5_show X v1 v2 = res
  unfold f_X5_show at h
  refine zG_L (L' := [(0, .ref (ad 0)), (1, .int v1), (2, .int v2)]) rfl ?_
  refine g_aload_n (j := 0) C dX5_show_0 rfl rfl ?_
  refine g_getr (k := 0) (N := 11) C sC_0 rfl zin_RX5 (by decide) rfl zfl_RX5_10 rfl dX5_show_1 ?_
  refine g_getr (k := 3) (N := 8) C sC_1 rfl zin_RX3 (by decide) rfl zfl_RX5_210 rfl dX5_show_4 ?_
  refine g_iload_n (j := 1) C dX5_show_7 rfl rfl ?_
  refine g_vi (ws' := (zW cy ad shC E X)) (As := [.int v1]) (rest := []) (res := (f_X4_isRow X 8 360 v1)) C (c_X4_isRow l D cy ad E X 8 360 sC_8 sC_9 (by decide) v1) zml_RX5_116 zcv_X4_isRow (zW_get X sC_8) rfl rfl rfl ⟨Nat.le_of_ble_eq_true rfl, Nat.le_of_ble_eq_true rfl⟩ rfl rfl (Nat.le_of_ble_eq_true rfl) ⟨Nat.zero_le _, Nat.zero_le _⟩ dX5_show_8 ?_
  refine g_if_ne C dX5_show_11 (tgt := 24) (by decide) (fun hc_1 => ?_) (fun hc_1 => ?_)
  · replace h := (if_neg hc_1).symm.trans h
    refine g_iload_n (j := 2) C dX5_show_24 rfl rfl ?_
    refine g_iconst (v := (nI 0)) C dX5_show_25 (by decide) ?_
    refine g_bipush (v := (nI 11)) C dX5_show_26 (by decide) ?_
    refine g_si (ws' := (zW cy ad shC E X)) (As := [.int v2, .int (nI 0), .int (nI 11)]) (rest := []) (res := (f_X5_isWithin v2 (nI 0) (nI 11))) C (c_X5_isWithin l D cy (zW cy ad shC E X) v2 (nI 0) (nI 11)) zml_RX5_64 zcs_X5_isWithin rfl rfl ⟨Nat.le_of_ble_eq_true rfl, Nat.le_of_ble_eq_true rfl⟩ rfl rfl (Nat.le_of_ble_eq_true rfl) ⟨Nat.zero_le _, Nat.zero_le _⟩ dX5_show_28 ?_
    refine g_if_ne C dX5_show_31 (tgt := 44) (by decide) (fun hc_2 => ?_) (fun hc_2 => ?_)
    · replace h := (if_neg hc_2).symm.trans h
      refine g_iload_n (j := 2) C dX5_show_44 rfl rfl ?_
      by_cases hc_3 : v2 = (nI 8)
      · replace h := (if_pos hc_3).symm.trans h
        refine g_tabEq C dX5_show_45 hc_3 (by decide) (by decide) rfl (tgt := 72) (by decide) ?_
        refine g_aload_n (j := 0) C dX5_show_72 rfl rfl ?_
        refine g_getr (k := 0) (N := 11) C sC_0 rfl zin_RX5 (by decide) rfl zfl_RX5_10 rfl dX5_show_73 ?_
        refine g_iload_n (j := 1) C dX5_show_76 rfl rfl ?_
        refine g_vi (ws' := (zW cy ad shC E X)) (As := [.int v1]) (rest := []) (res := (f_X3_statusOf X v1)) C (c_X3_statusOf l D cy ad E X v1) zml_RX5_256 zcv_X3_statusOf (zW_get X sC_1) rfl rfl rfl ⟨Nat.le_of_ble_eq_true rfl, Nat.le_of_ble_eq_true rfl⟩ rfl rfl (Nat.le_of_ble_eq_true rfl) ⟨Nat.zero_le _, Nat.zero_le _⟩ dX5_show_77 ?_
        subst h
        exact g_xret C hr rfl dX5_show_80
      replace h := (if_neg hc_3).symm.trans h
      by_cases hc_4 : v2 = (nI 9)
      · replace h := (if_pos hc_4).symm.trans h
        refine g_tabEq C dX5_show_45 hc_4 (by decide) (by decide) rfl (tgt := 81) (by decide) ?_
        refine g_aload_n (j := 0) C dX5_show_81 rfl rfl ?_
        refine g_getr (k := 0) (N := 11) C sC_0 rfl zin_RX5 (by decide) rfl zfl_RX5_10 rfl dX5_show_82 ?_
        refine g_iload_n (j := 1) C dX5_show_85 rfl rfl ?_
        refine g_vi (ws' := (zW cy ad shC E X)) (As := [.int v1]) (rest := []) (res := (f_X3_receiptsOf X v1)) C (c_X3_receiptsOf l D cy ad E X v1) zml_RX5_259 zcv_X3_receiptsOf (zW_get X sC_1) rfl rfl rfl ⟨Nat.le_of_ble_eq_true rfl, Nat.le_of_ble_eq_true rfl⟩ rfl rfl (Nat.le_of_ble_eq_true rfl) ⟨Nat.zero_le _, Nat.zero_le _⟩ dX5_show_86 ?_
        subst h
        exact g_xret C hr rfl dX5_show_89
      replace h := (if_neg hc_4).symm.trans h
      by_cases hc_5 : v2 = (nI 10)
      · replace h := (if_pos hc_5).symm.trans h
        refine g_tabEq C dX5_show_45 hc_5 (by decide) (by decide) rfl (tgt := 90) (by decide) ?_
        refine g_aload_n (j := 0) C dX5_show_90 rfl rfl ?_
        refine g_getr (k := 0) (N := 11) C sC_0 rfl zin_RX5 (by decide) rfl zfl_RX5_10 rfl dX5_show_91 ?_
        refine g_iload_n (j := 1) C dX5_show_94 rfl rfl ?_
        refine g_vi (ws' := (zW cy ad shC E X)) (As := [.int v1]) (rest := []) (res := (f_X3_partOf X v1)) C (c_X3_partOf l D cy ad E X v1) zml_RX5_262 zcv_X3_partOf (zW_get X sC_1) rfl rfl rfl ⟨Nat.le_of_ble_eq_true rfl, Nat.le_of_ble_eq_true rfl⟩ rfl rfl (Nat.le_of_ble_eq_true rfl) ⟨Nat.zero_le _, Nat.zero_le _⟩ dX5_show_95 ?_
        subst h
        exact g_xret C hr rfl dX5_show_98
      replace h := (if_neg hc_5).symm.trans h
      refine g_tabOut C dX5_show_45 (z_tabout_3 (lo := 8) (hi := 10) hc_3 hc_4 hc_5 (by decide)) (tgt := 99) (by decide) ?_
      refine g_aload_n (j := 0) C dX5_show_99 rfl rfl ?_
      refine g_getr (k := 0) (N := 11) C sC_0 rfl zin_RX5 (by decide) rfl zfl_RX5_10 rfl dX5_show_100 ?_
      refine g_getr (k := 3) (N := 8) C sC_1 rfl zin_RX3 (by decide) rfl zfl_RX5_210 rfl dX5_show_103 ?_
      refine g_iload_n (j := 1) C dX5_show_106 rfl rfl ?_
      refine g_iload_n (j := 2) C dX5_show_107 rfl rfl ?_
      refine g_vi (ws' := (zW cy ad shC E X)) (As := [.int v1, .int v2]) (rest := []) (res := (f_X4_get X 8 360 v1 v2)) C (c_X4_get l D cy ad E X 8 360 sC_8 sC_9 (by decide) v1 v2) zml_RX5_126 zcv_X4_get (zW_get X sC_8) rfl rfl rfl ⟨Nat.le_of_ble_eq_true rfl, Nat.le_of_ble_eq_true rfl⟩ rfl rfl (Nat.le_of_ble_eq_true rfl) ⟨Nat.zero_le _, Nat.zero_le _⟩ dX5_show_108 ?_
      subst h
      exact g_xret C hr rfl dX5_show_111
    · replace h := (if_pos hc_2).symm.trans h
      subst h
      exact g_throw 1 0 C hT hlt hout rfl (by decide) ⟨by decide +kernel, by decide +kernel⟩ zcl_68 zini_1 (List.mem_of_getElem? (i := 13) rfl) zat_72 zgw_72 dX5_show_34 dX5_show_37 dX5_show_38 dX5_show_40 dX5_show_43 ⟨Nat.le_of_ble_eq_true rfl, Nat.le_of_ble_eq_true rfl, Nat.le_of_ble_eq_true rfl, Nat.le_of_ble_eq_true rfl⟩
  · replace h := (if_pos hc_1).symm.trans h
    subst h
    exact g_throw 3 0 C hT hlt hout rfl (by decide) ⟨by decide +kernel, by decide +kernel⟩ zcl_119 zini_3 (List.mem_of_getElem? (i := 26) rfl) zat_123 zgw_123 dX5_show_14 dX5_show_17 dX5_show_18 dX5_show_20 dX5_show_23 ⟨Nat.le_of_ble_eq_true rfl, Nat.le_of_ble_eq_true rfl, Nat.le_of_ble_eq_true rfl, Nat.le_of_ble_eq_true rfl⟩
def f_X5_trailer (X : Nat → Nat → Int32) (v1 v2 : Int32) : Nat × Int32 × (Nat → Nat → Int32) := (if (f_X4_isRow X 6 40 v1) = 0 then (3, 0, X) else (if (f_X5_isWithin v2 (nI 0) (nI 3)) = 0 then (1, 0, X) else (0, (f_X4_get X 6 40 v1 v2), X)))
set_option maxRecDepth 100000 in
set_option maxHeartbeats 4000000 in
theorem c_X5_trailer (l : Launch) (hlt : l.stackTraces = false) (D : va_G) (cy : Nat → ClassId) (ad : Nat → Nat) (E : va_W) (X : Nat → Nat → Int32) (v1 v2 : Int32) : zMx l yX5_trailer cX5_trailer 3 (some .int) (zrmx 2) D (zTy cy) (zW cy ad shC E X) [.ref (ad 0), .int v1, .int v2] (f_X5_trailer X v1 v2).1 (f_X5_trailer X v1 v2).2.1 (zW cy ad shC E (f_X5_trailer X v1 v2).2.2) := by
  refine zMx.of (by decide) (Nat.le_of_ble_eq_true rfl) ?_
  intro p e s m below meth c A C hr hT hout
  generalize h : f_X5_trailer X v1 v2 = res
  unfold f_X5_trailer at h
  refine zG_L (L' := [(0, .ref (ad 0)), (1, .int v1), (2, .int v2)]) rfl ?_
  refine g_aload_n (j := 0) C dX5_trailer_0 rfl rfl ?_
  refine g_getr (k := 0) (N := 11) C sC_0 rfl zin_RX5 (by decide) rfl zfl_RX5_10 rfl dX5_trailer_1 ?_
  refine g_getr (k := 2) (N := 8) C sC_1 rfl zin_RX3 (by decide) rfl zfl_RX5_130 rfl dX5_trailer_4 ?_
  refine g_iload_n (j := 1) C dX5_trailer_7 rfl rfl ?_
  refine g_vi (ws' := (zW cy ad shC E X)) (As := [.int v1]) (rest := []) (res := (f_X4_isRow X 6 40 v1)) C (c_X4_isRow l D cy ad E X 6 40 sC_6 sC_7 (by decide) v1) zml_RX5_116 zcv_X4_isRow (zW_get X sC_6) rfl rfl rfl ⟨Nat.le_of_ble_eq_true rfl, Nat.le_of_ble_eq_true rfl⟩ rfl rfl (Nat.le_of_ble_eq_true rfl) ⟨Nat.zero_le _, Nat.zero_le _⟩ dX5_trailer_8 ?_
  refine g_if_ne C dX5_trailer_11 (tgt := 24) (by decide) (fun hc_1 => ?_) (fun hc_1 => ?_)
  · replace h := (if_neg hc_1).symm.trans h
    refine g_iload_n (j := 2) C dX5_trailer_24 rfl rfl ?_
    refine g_iconst (v := (nI 0)) C dX5_trailer_25 (by decide) ?_
    refine g_iconst (v := (nI 3)) C dX5_trailer_26 (by decide) ?_
    refine g_si (ws' := (zW cy ad shC E X)) (As := [.int v2, .int (nI 0), .int (nI 3)]) (rest := []) (res := (f_X5_isWithin v2 (nI 0) (nI 3))) C (c_X5_isWithin l D cy (zW cy ad shC E X) v2 (nI 0) (nI 3)) zml_RX5_64 zcs_X5_isWithin rfl rfl ⟨Nat.le_of_ble_eq_true rfl, Nat.le_of_ble_eq_true rfl⟩ rfl rfl (Nat.le_of_ble_eq_true rfl) ⟨Nat.zero_le _, Nat.zero_le _⟩ dX5_trailer_27 ?_
    refine g_if_ne C dX5_trailer_30 (tgt := 43) (by decide) (fun hc_2 => ?_) (fun hc_2 => ?_)
    · replace h := (if_neg hc_2).symm.trans h
      refine g_aload_n (j := 0) C dX5_trailer_43 rfl rfl ?_
      refine g_getr (k := 0) (N := 11) C sC_0 rfl zin_RX5 (by decide) rfl zfl_RX5_10 rfl dX5_trailer_44 ?_
      refine g_getr (k := 2) (N := 8) C sC_1 rfl zin_RX3 (by decide) rfl zfl_RX5_130 rfl dX5_trailer_47 ?_
      refine g_iload_n (j := 1) C dX5_trailer_50 rfl rfl ?_
      refine g_iload_n (j := 2) C dX5_trailer_51 rfl rfl ?_
      refine g_vi (ws' := (zW cy ad shC E X)) (As := [.int v1, .int v2]) (rest := []) (res := (f_X4_get X 6 40 v1 v2)) C (c_X4_get l D cy ad E X 6 40 sC_6 sC_7 (by decide) v1 v2) zml_RX5_126 zcv_X4_get (zW_get X sC_6) rfl rfl rfl ⟨Nat.le_of_ble_eq_true rfl, Nat.le_of_ble_eq_true rfl⟩ rfl rfl (Nat.le_of_ble_eq_true rfl) ⟨Nat.zero_le _, Nat.zero_le _⟩ dX5_trailer_52 ?_
      subst h
      exact g_xret C hr rfl dX5_trailer_55
    · replace h := (if_pos hc_2).symm.trans h
      subst h
      exact g_throw 1 0 C hT hlt hout rfl (by decide) ⟨by decide +kernel, by decide +kernel⟩ zcl_68 zini_1 (List.mem_of_getElem? (i := 17) rfl) zat_72 zgw_72 dX5_trailer_33 dX5_trailer_36 dX5_trailer_37 dX5_trailer_39 dX5_trailer_42 ⟨Nat.le_of_ble_eq_true rfl, Nat.le_of_ble_eq_true rfl, Nat.le_of_ble_eq_true rfl, Nat.le_of_ble_eq_true rfl⟩
  · replace h := (if_pos hc_1).symm.trans h
    subst h
    exact g_throw 3 0 C hT hlt hout rfl (by decide) ⟨by decide +kernel, by decide +kernel⟩ zcl_119 zini_3 (List.mem_of_getElem? (i := 16) rfl) zat_123 zgw_123 dX5_trailer_14 dX5_trailer_17 dX5_trailer_18 dX5_trailer_20 dX5_trailer_23 ⟨Nat.le_of_ble_eq_true rfl, Nat.le_of_ble_eq_true rfl, Nat.le_of_ble_eq_true rfl, Nat.le_of_ble_eq_true rfl⟩
def f_X5_undo (X : Nat → Nat → Int32) : Nat × Int32 × (Nat → Nat → Int32) := (if (X 27 2) = 0 then (2, 0, X) else (zlet (f_X0_stepBack X) fun X_2 => (0, (X_2 27 2), X_2)))
set_option maxRecDepth 100000 in
set_option maxHeartbeats 4000000 in
theorem c_X5_undo (l : Launch) (hlt : l.stackTraces = false) (D : va_G) (cy : Nat → ClassId) (ad : Nat → Nat) (E : va_W) (X : Nat → Nat → Int32) : zMx l yX5_undo cX5_undo 1 (some .int) (zrmx 5) D (zTy cy) (zW cy ad shC E X) [.ref (ad 0)] (f_X5_undo X).1 (f_X5_undo X).2.1 (zW cy ad shC E (f_X5_undo X).2.2) := by
  refine zMx.of (by decide) (Nat.le_of_ble_eq_true rfl) ?_
  intro p e s m below meth c A C hr hT hout
  generalize h : f_X5_undo X = res
  unfold f_X5_undo at h
  refine zG_L (L' := [(0, .ref (ad 0))]) rfl ?_
  refine g_aload_n (j := 0) C dX5_undo_0 rfl rfl ?_
  refine g_getr (k := 2) (N := 11) C sC_0 rfl zin_RX5 (by decide) rfl zfl_RX5_22 rfl dX5_undo_1 ?_
  refine g_geti (k := 2) (N := 3) C sC_27 rfl zin_RX0 (by decide) rfl zfl_RX5_408 rfl dX5_undo_4 ?_
  refine g_if_ne C dX5_undo_7 (tgt := 21) (by decide) (fun hc_1 => ?_) (fun hc_1 => ?_)
  · replace h := (if_neg hc_1).symm.trans h
    refine g_aload_n (j := 0) C dX5_undo_21 rfl rfl ?_
    refine g_getr (k := 2) (N := 11) C sC_0 rfl zin_RX5 (by decide) rfl zfl_RX5_22 rfl dX5_undo_22 ?_
    refine g_aload_n (j := 0) C dX5_undo_25 rfl rfl ?_
    refine g_getr (k := 0) (N := 11) C sC_0 rfl zin_RX5 (by decide) rfl zfl_RX5_10 rfl dX5_undo_26 ?_
    obtain ⟨X_2, e_3, h⟩ := zlet_ex h
    refine g_vv (ws' := (zW cy ad shC E X_2)) (As := [.ref (ad 1)]) (rest := []) C ((by rw [e_3]; exact c_X0_stepBack l D cy ad E X)) zml_RX5_413 zcv_X0_stepBack (zW_get X sC_27) rfl rfl rfl ⟨Nat.le_of_ble_eq_true rfl, Nat.le_of_ble_eq_true rfl⟩ rfl rfl (Nat.le_of_ble_eq_true rfl) ⟨Nat.zero_le _, Nat.zero_le _⟩ dX5_undo_29 ?_
    refine g_aload_n (j := 0) C dX5_undo_32 rfl rfl ?_
    refine g_getr (k := 2) (N := 11) C sC_0 rfl zin_RX5 (by decide) rfl zfl_RX5_22 rfl dX5_undo_33 ?_
    refine g_geti (k := 2) (N := 3) C sC_27 rfl zin_RX0 (by decide) rfl zfl_RX5_408 rfl dX5_undo_36 ?_
    subst h
    exact g_xret C hr rfl dX5_undo_39
  · replace h := (if_pos hc_1).symm.trans h
    subst h
    exact g_throwW 2 0 C hT hlt hout rfl (by decide) ⟨by decide +kernel, by decide +kernel⟩ zcl_85 zini_2 (List.mem_of_getElem? (i := 50) rfl) zat_89 zgw_89 dX5_undo_10 dX5_undo_13 dX5_undo_14 dX5_undo_17 dX5_undo_20 ⟨Nat.le_of_ble_eq_true rfl, Nat.le_of_ble_eq_true rfl, Nat.le_of_ble_eq_true rfl, Nat.le_of_ble_eq_true rfl⟩
def f_X5_used (X : Nat → Nat → Int32) (v1 v2 v3 : Int32) : Option (Nat × Int32 × (Nat → Nat → Int32)) := (if (f_X4_isRow X 2 24 v1) = 0 then some (3, 0, X) else (if (f_X5_isDay v2) = 0 then some (1, 0, X) else (if (f_X5_isWithin v3 (nI 0) (nI 4)) = 0 then some (1, 0, X) else ((f_X3_showAfter X v1 v2 (-1 : Int32)).bind fun q_4 => (if v3 = (nI 0) then ((f_X3_shownMinutes X v1 v2).bind fun q_7 => some (0, q_7, X)) else (if v3 = (nI 1) then ((f_X3_cleanedMinutes X v1 v2).bind fun q_10 => some (0, q_10, X)) else (if v3 = (nI 2) then ((f_X3_shownMinutes X v1 v2).bind fun q_13 => ((f_X3_cleanedMinutes X v1 v2).bind fun q_15 => some (0, (((nI 960) - q_13) - q_15), X))) else (if v3 = (nI 3) then (if q_4 = (-1 : Int32) then some (0, (-1 : Int32), X) else some (0, (f_X4_get X 8 360 q_4 (nI 3)), X)) else ((f_X3_greatestEnd X v1 v2).bind fun q_19 => some (0, q_19, X))))))))))
set_option maxRecDepth 100000 in
set_option maxHeartbeats 4000000 in
theorem c_X5_used (l : Launch) (hlt : l.stackTraces = false) (D : va_G) (cy : Nat → ClassId) (ad : Nat → Nat) (E : va_W) (X : Nat → Nat → Int32) (v1 v2 v3 : Int32) {res : Nat × Int32 × (Nat → Nat → Int32)} (h : f_X5_used X v1 v2 v3 = some res) : zMx l yX5_used cX5_used 5 (some .int) (zrmx 4) D (zTy cy) (zW cy ad shC E X) [.ref (ad 0), .int v1, .int v2, .int v3] res.1 res.2.1 (zW cy ad shC E res.2.2) := by
  refine zMx.of (by decide) (Nat.le_of_ble_eq_true rfl) ?_
  intro p e s m below meth c A C hr hT hout
  unfold f_X5_used at h
  refine zG_L (L' := [(0, .ref (ad 0)), (1, .int v1), (2, .int v2), (3, .int v3)]) rfl ?_
  refine g_aload_n (j := 0) C dX5_used_0 rfl rfl ?_
  refine g_getr (k := 0) (N := 11) C sC_0 rfl zin_RX5 (by decide) rfl zfl_RX5_10 rfl dX5_used_1 ?_
  refine g_getr (k := 0) (N := 8) C sC_1 rfl zin_RX3 (by decide) rfl zfl_RX5_75 rfl dX5_used_4 ?_
  refine g_iload_n (j := 1) C dX5_used_7 rfl rfl ?_
  refine g_vi (ws' := (zW cy ad shC E X)) (As := [.int v1]) (rest := []) (res := (f_X4_isRow X 2 24 v1)) C (c_X4_isRow l D cy ad E X 2 24 sC_2 sC_3 (by decide) v1) zml_RX5_116 zcv_X4_isRow (zW_get X sC_2) rfl rfl rfl ⟨Nat.le_of_ble_eq_true rfl, Nat.le_of_ble_eq_true rfl⟩ rfl rfl (Nat.le_of_ble_eq_true rfl) ⟨Nat.zero_le _, Nat.zero_le _⟩ dX5_used_8 ?_
  refine g_if_ne C dX5_used_11 (tgt := 24) (by decide) (fun hc_1 => ?_) (fun hc_1 => ?_)
  · replace h := (if_neg hc_1).symm.trans h
    refine g_iload_n (j := 2) C dX5_used_24 rfl rfl ?_
    refine g_si (ws' := (zW cy ad shC E X)) (As := [.int v2]) (rest := []) (res := (f_X5_isDay v2)) C (c_X5_isDay l D cy (zW cy ad shC E X) v2) zml_RX5_108 zcs_X5_isDay rfl rfl ⟨Nat.le_of_ble_eq_true rfl, Nat.le_of_ble_eq_true rfl⟩ rfl rfl (Nat.le_of_ble_eq_true rfl) ⟨Nat.zero_le _, Nat.zero_le _⟩ dX5_used_25 ?_
    refine g_if_eq C dX5_used_28 (tgt := 40) (by decide) (fun hc_2 => ?_) (fun hc_2 => ?_)
    · replace h := (if_pos hc_2).symm.trans h
      obtain rfl := Option.some.inj h
      exact g_throwW 1 0 C hT hlt hout rfl (by decide) ⟨by decide +kernel, by decide +kernel⟩ zcl_68 zini_1 (List.mem_of_getElem? (i := 35) rfl) zat_72 zgw_72 dX5_used_40 dX5_used_43 dX5_used_44 dX5_used_47 dX5_used_50 ⟨Nat.le_of_ble_eq_true rfl, Nat.le_of_ble_eq_true rfl, Nat.le_of_ble_eq_true rfl, Nat.le_of_ble_eq_true rfl⟩
    · replace h := (if_neg hc_2).symm.trans h
      refine g_iload_n (j := 3) C dX5_used_31 rfl rfl ?_
      refine g_iconst (v := (nI 0)) C dX5_used_32 (by decide) ?_
      refine g_iconst (v := (nI 4)) C dX5_used_33 (by decide) ?_
      refine g_si (ws' := (zW cy ad shC E X)) (As := [.int v3, .int (nI 0), .int (nI 4)]) (rest := []) (res := (f_X5_isWithin v3 (nI 0) (nI 4))) C (c_X5_isWithin l D cy (zW cy ad shC E X) v3 (nI 0) (nI 4)) zml_RX5_64 zcs_X5_isWithin rfl rfl ⟨Nat.le_of_ble_eq_true rfl, Nat.le_of_ble_eq_true rfl⟩ rfl rfl (Nat.le_of_ble_eq_true rfl) ⟨Nat.zero_le _, Nat.zero_le _⟩ dX5_used_34 ?_
      refine g_if_ne C dX5_used_37 (tgt := 51) (by decide) (fun hc_3 => ?_) (fun hc_3 => ?_)
      · replace h := (if_neg hc_3).symm.trans h
        refine g_aload_n (j := 0) C dX5_used_51 rfl rfl ?_
        refine g_getr (k := 0) (N := 11) C sC_0 rfl zin_RX5 (by decide) rfl zfl_RX5_10 rfl dX5_used_52 ?_
        refine g_iload_n (j := 1) C dX5_used_55 rfl rfl ?_
        refine g_iload_n (j := 2) C dX5_used_56 rfl rfl ?_
        refine g_iconst (v := (-1 : Int32)) C dX5_used_57 (by decide) ?_
        obtain ⟨q_4, hq_5, h⟩ := bind_isome h
        refine g_vi (ws' := (zW cy ad shC E X)) (As := [.int v1, .int v2, .int (-1 : Int32)]) (rest := []) (res := q_4) C (c_X3_showAfter l D cy ad E X v1 v2 (-1 : Int32) hq_5) zml_RX5_302 zcv_X3_showAfter (zW_get X sC_1) rfl rfl rfl ⟨Nat.le_of_ble_eq_true rfl, Nat.le_of_ble_eq_true rfl⟩ rfl rfl (Nat.le_of_ble_eq_true rfl) ⟨Nat.zero_le _, Nat.zero_le _⟩ dX5_used_58 ?_
        refine g_istore (L' := [(4, .int q_4), (0, .ref (ad 0)), (1, .int v1), (2, .int v2), (3, .int v3)]) C dX5_used_61 (by decide) rfl ?_
        refine g_iload_n (j := 4) C dX5_used_63 rfl rfl ?_
        by_cases hc_6 : v3 = (nI 0)
        · replace h := (if_pos hc_6).symm.trans h
          refine g_tabEq C dX5_used_64 hc_6 (by decide) (by decide) rfl (tgt := 96) (by decide) ?_
          refine g_aload_n (j := 1) C dX5_used_96 rfl rfl ?_
          refine g_getr (k := 0) (N := 11) C sC_0 rfl zin_RX5 (by decide) rfl zfl_RX5_10 rfl dX5_used_97 ?_
          refine g_iload_n (j := 2) C dX5_used_100 rfl rfl ?_
          refine g_iload_n (j := 3) C dX5_used_101 rfl rfl ?_
          obtain ⟨q_7, hq_8, h⟩ := bind_isome h
          refine g_vi (ws' := (zW cy ad shC E X)) (As := [.int v1, .int v2]) (rest := []) (res := q_7) C (c_X3_shownMinutes l D cy ad E X v1 v2 hq_8) zml_RX5_305 zcv_X3_shownMinutes (zW_get X sC_1) rfl rfl rfl ⟨Nat.le_of_ble_eq_true rfl, Nat.le_of_ble_eq_true rfl⟩ rfl rfl (Nat.le_of_ble_eq_true rfl) ⟨Nat.zero_le _, Nat.zero_le _⟩ dX5_used_102 ?_
          obtain rfl := Option.some.inj h
          exact g_xret C hr rfl dX5_used_105
        replace h := (if_neg hc_6).symm.trans h
        by_cases hc_9 : v3 = (nI 1)
        · replace h := (if_pos hc_9).symm.trans h
          refine g_tabEq C dX5_used_64 hc_9 (by decide) (by decide) rfl (tgt := 106) (by decide) ?_
          refine g_aload_n (j := 1) C dX5_used_106 rfl rfl ?_
          refine g_getr (k := 0) (N := 11) C sC_0 rfl zin_RX5 (by decide) rfl zfl_RX5_10 rfl dX5_used_107 ?_
          refine g_iload_n (j := 2) C dX5_used_110 rfl rfl ?_
          refine g_iload_n (j := 3) C dX5_used_111 rfl rfl ?_
          obtain ⟨q_10, hq_11, h⟩ := bind_isome h
          refine g_vi (ws' := (zW cy ad shC E X)) (As := [.int v1, .int v2]) (rest := []) (res := q_10) C (c_X3_cleanedMinutes l D cy ad E X v1 v2 hq_11) zml_RX5_308 zcv_X3_cleanedMinutes (zW_get X sC_1) rfl rfl rfl ⟨Nat.le_of_ble_eq_true rfl, Nat.le_of_ble_eq_true rfl⟩ rfl rfl (Nat.le_of_ble_eq_true rfl) ⟨Nat.zero_le _, Nat.zero_le _⟩ dX5_used_112 ?_
          obtain rfl := Option.some.inj h
          exact g_xret C hr rfl dX5_used_115
        replace h := (if_neg hc_9).symm.trans h
        by_cases hc_12 : v3 = (nI 2)
        · replace h := (if_pos hc_12).symm.trans h
          refine g_tabEq C dX5_used_64 hc_12 (by decide) (by decide) rfl (tgt := 116) (by decide) ?_
          refine g_sipush (v := (nI 960)) C dX5_used_116 (by decide) ?_
          refine g_aload_n (j := 1) C dX5_used_119 rfl rfl ?_
          refine g_getr (k := 0) (N := 11) C sC_0 rfl zin_RX5 (by decide) rfl zfl_RX5_10 rfl dX5_used_120 ?_
          refine g_iload_n (j := 2) C dX5_used_123 rfl rfl ?_
          refine g_iload_n (j := 3) C dX5_used_124 rfl rfl ?_
          obtain ⟨q_13, hq_14, h⟩ := bind_isome h
          refine g_vi (ws' := (zW cy ad shC E X)) (As := [.int v1, .int v2]) (rest := [.int (nI 960)]) (res := q_13) C (c_X3_shownMinutes l D cy ad E X v1 v2 hq_14) zml_RX5_305 zcv_X3_shownMinutes (zW_get X sC_1) rfl rfl rfl ⟨Nat.le_of_ble_eq_true rfl, Nat.le_of_ble_eq_true rfl⟩ rfl rfl (Nat.le_of_ble_eq_true rfl) ⟨Nat.zero_le _, Nat.zero_le _⟩ dX5_used_125 ?_
          refine g_isub C dX5_used_128 ?_
          refine g_aload_n (j := 1) C dX5_used_129 rfl rfl ?_
          refine g_getr (k := 0) (N := 11) C sC_0 rfl zin_RX5 (by decide) rfl zfl_RX5_10 rfl dX5_used_130 ?_
          refine g_iload_n (j := 2) C dX5_used_133 rfl rfl ?_
          refine g_iload_n (j := 3) C dX5_used_134 rfl rfl ?_
          obtain ⟨q_15, hq_16, h⟩ := bind_isome h
          refine g_vi (ws' := (zW cy ad shC E X)) (As := [.int v1, .int v2]) (rest := [.int ((nI 960) - q_13)]) (res := q_15) C (c_X3_cleanedMinutes l D cy ad E X v1 v2 hq_16) zml_RX5_308 zcv_X3_cleanedMinutes (zW_get X sC_1) rfl rfl rfl ⟨Nat.le_of_ble_eq_true rfl, Nat.le_of_ble_eq_true rfl⟩ rfl rfl (Nat.le_of_ble_eq_true rfl) ⟨Nat.zero_le _, Nat.zero_le _⟩ dX5_used_135 ?_
          refine g_isub C dX5_used_138 ?_
          obtain rfl := Option.some.inj h
          exact g_xret C hr rfl dX5_used_139
        replace h := (if_neg hc_12).symm.trans h
        by_cases hc_17 : v3 = (nI 3)
        · replace h := (if_pos hc_17).symm.trans h
          refine g_tabEq C dX5_used_64 hc_17 (by decide) (by decide) rfl (tgt := 140) (by decide) ?_
          refine g_iload (j := 0) C dX5_used_140 rfl ?_
          refine g_iconst (v := (-1 : Int32)) C dX5_used_142 (by decide) ?_
          refine g_icmp_ne C dX5_used_143 (tgt := 150) (by decide) (fun hc_18 => ?_) (fun hc_18 => ?_)
          · replace h := (if_neg hc_18).symm.trans h
            refine g_aload_n (j := 1) C dX5_used_150 rfl rfl ?_
            refine g_getr (k := 0) (N := 11) C sC_0 rfl zin_RX5 (by decide) rfl zfl_RX5_10 rfl dX5_used_151 ?_
            refine g_getr (k := 3) (N := 8) C sC_1 rfl zin_RX3 (by decide) rfl zfl_RX5_210 rfl dX5_used_154 ?_
            refine g_iload (j := 0) C dX5_used_157 rfl ?_
            refine g_iconst (v := (nI 3)) C dX5_used_159 (by decide) ?_
            refine g_vi (ws' := (zW cy ad shC E X)) (As := [.int q_4, .int (nI 3)]) (rest := []) (res := (f_X4_get X 8 360 q_4 (nI 3))) C (c_X4_get l D cy ad E X 8 360 sC_8 sC_9 (by decide) q_4 (nI 3)) zml_RX5_126 zcv_X4_get (zW_get X sC_8) rfl rfl rfl ⟨Nat.le_of_ble_eq_true rfl, Nat.le_of_ble_eq_true rfl⟩ rfl rfl (Nat.le_of_ble_eq_true rfl) ⟨Nat.zero_le _, Nat.zero_le _⟩ dX5_used_160 ?_
            obtain rfl := Option.some.inj h
            exact g_xret C hr rfl dX5_used_163
          · replace h := (if_pos hc_18).symm.trans h
            refine g_iconst (v := (-1 : Int32)) C dX5_used_146 (by decide) ?_
            refine g_goto C dX5_used_147 (tgt := 163) (by decide) ?_
            obtain rfl := Option.some.inj h
            exact g_xret C hr rfl dX5_used_163
        replace h := (if_neg hc_17).symm.trans h
        refine g_tabOut C dX5_used_64 (z_tabout_4 (lo := 0) (hi := 3) hc_6 hc_9 hc_12 hc_17 (by decide)) (tgt := 164) (by decide) ?_
        refine g_aload_n (j := 1) C dX5_used_164 rfl rfl ?_
        refine g_getr (k := 0) (N := 11) C sC_0 rfl zin_RX5 (by decide) rfl zfl_RX5_10 rfl dX5_used_165 ?_
        refine g_iload_n (j := 2) C dX5_used_168 rfl rfl ?_
        refine g_iload_n (j := 3) C dX5_used_169 rfl rfl ?_
        obtain ⟨q_19, hq_20, h⟩ := bind_isome h
        refine g_vi (ws' := (zW cy ad shC E X)) (As := [.int v1, .int v2]) (rest := []) (res := q_19) C (c_X3_greatestEnd l D cy ad E X v1 v2 hq_20) zml_RX5_311 zcv_X3_greatestEnd (zW_get X sC_1) rfl rfl rfl ⟨Nat.le_of_ble_eq_true rfl, Nat.le_of_ble_eq_true rfl⟩ rfl rfl (Nat.le_of_ble_eq_true rfl) ⟨Nat.zero_le _, Nat.zero_le _⟩ dX5_used_170 ?_
        obtain rfl := Option.some.inj h
        exact g_xret C hr rfl dX5_used_173
      · replace h := (if_pos hc_3).symm.trans h
        obtain rfl := Option.some.inj h
        exact g_throwW 1 0 C hT hlt hout rfl (by decide) ⟨by decide +kernel, by decide +kernel⟩ zcl_68 zini_1 (List.mem_of_getElem? (i := 35) rfl) zat_72 zgw_72 dX5_used_40 dX5_used_43 dX5_used_44 dX5_used_47 dX5_used_50 ⟨Nat.le_of_ble_eq_true rfl, Nat.le_of_ble_eq_true rfl, Nat.le_of_ble_eq_true rfl, Nat.le_of_ble_eq_true rfl⟩
  · replace h := (if_pos hc_1).symm.trans h
    obtain rfl := Option.some.inj h
    exact g_throw 3 0 C hT hlt hout rfl (by decide) ⟨by decide +kernel, by decide +kernel⟩ zcl_119 zini_3 (List.mem_of_getElem? (i := 11) rfl) zat_123 zgw_123 dX5_used_14 dX5_used_17 dX5_used_18 dX5_used_20 dX5_used_23 ⟨Nat.le_of_ble_eq_true rfl, Nat.le_of_ble_eq_true rfl, Nat.le_of_ble_eq_true rfl, Nat.le_of_ble_eq_true rfl⟩
def f_X5_why (X : Nat → Nat → Int32) (v1 v2 v3 v4 v5 : Int32) : Option (Nat × Int32 × (Nat → Nat → Int32)) := (if (f_X4_isRow X 2 24 v1) = 0 then some (3, 0, X) else (if (f_X4_isRow X 4 96 v2) = 0 then some (3, 0, X) else (if (f_X5_isDay v3) = 0 then some (1, 0, X) else (if (f_X5_isMinute v4) = 0 then some (1, 0, X) else ((f_X2_takeUp X (-1 : Int32) v2 v3).bind fun q_5 => ((f_X3_newMinutes q_5 v2 v3).bind fun q_7 => ((f_X2_firstBroken q_5 v1 v4 (v4 + q_7)).bind fun q_9 => (if v5 = 0 then some (0, q_9.1, q_9.2) else some (0, (q_9.2 146 3), q_9.2)))))))))
set_option maxRecDepth 100000 in
set_option maxHeartbeats 4000000 in
theorem c_X5_why (l : Launch) (hlt : l.stackTraces = false) (D : va_G) (cy : Nat → ClassId) (ad : Nat → Nat) (E : va_W) (X : Nat → Nat → Int32) (v1 v2 v3 v4 v5 : Int32) {res : Nat × Int32 × (Nat → Nat → Int32)} (h : f_X5_why X v1 v2 v3 v4 v5 = some res) : zMx l yX5_why cX5_why 7 (some .int) (zrmx 5) D (zTy cy) (zW cy ad shC E X) [.ref (ad 0), .int v1, .int v2, .int v3, .int v4, .int v5] res.1 res.2.1 (zW cy ad shC E res.2.2) := by
  refine zMx.of (by decide) (Nat.le_of_ble_eq_true rfl) ?_
  intro p e s m below meth c A C hr hT hout
  unfold f_X5_why at h
  refine zG_L (L' := [(0, .ref (ad 0)), (1, .int v1), (2, .int v2), (3, .int v3), (4, .int v4), (5, .int v5)]) rfl ?_
  refine g_aload_n (j := 0) C dX5_why_0 rfl rfl ?_
  refine g_getr (k := 0) (N := 11) C sC_0 rfl zin_RX5 (by decide) rfl zfl_RX5_10 rfl dX5_why_1 ?_
  refine g_getr (k := 0) (N := 8) C sC_1 rfl zin_RX3 (by decide) rfl zfl_RX5_75 rfl dX5_why_4 ?_
  refine g_iload_n (j := 1) C dX5_why_7 rfl rfl ?_
  refine g_vi (ws' := (zW cy ad shC E X)) (As := [.int v1]) (rest := []) (res := (f_X4_isRow X 2 24 v1)) C (c_X4_isRow l D cy ad E X 2 24 sC_2 sC_3 (by decide) v1) zml_RX5_116 zcv_X4_isRow (zW_get X sC_2) rfl rfl rfl ⟨Nat.le_of_ble_eq_true rfl, Nat.le_of_ble_eq_true rfl⟩ rfl rfl (Nat.le_of_ble_eq_true rfl) ⟨Nat.zero_le _, Nat.zero_le _⟩ dX5_why_8 ?_
  refine g_if_eq C dX5_why_11 (tgt := 28) (by decide) (fun hc_1 => ?_) (fun hc_1 => ?_)
  · replace h := (if_pos hc_1).symm.trans h
    obtain rfl := Option.some.inj h
    exact g_throw 3 0 C hT hlt hout rfl (by decide) ⟨by decide +kernel, by decide +kernel⟩ zcl_119 zini_3 (List.mem_of_getElem? (i := 19) rfl) zat_123 zgw_123 dX5_why_28 dX5_why_31 dX5_why_32 dX5_why_34 dX5_why_37 ⟨Nat.le_of_ble_eq_true rfl, Nat.le_of_ble_eq_true rfl, Nat.le_of_ble_eq_true rfl, Nat.le_of_ble_eq_true rfl⟩
  · replace h := (if_neg hc_1).symm.trans h
    refine g_aload_n (j := 0) C dX5_why_14 rfl rfl ?_
    refine g_getr (k := 0) (N := 11) C sC_0 rfl zin_RX5 (by decide) rfl zfl_RX5_10 rfl dX5_why_15 ?_
    refine g_getr (k := 1) (N := 8) C sC_1 rfl zin_RX3 (by decide) rfl zfl_RX5_111 rfl dX5_why_18 ?_
    refine g_iload_n (j := 2) C dX5_why_21 rfl rfl ?_
    refine g_vi (ws' := (zW cy ad shC E X)) (As := [.int v2]) (rest := []) (res := (f_X4_isRow X 4 96 v2)) C (c_X4_isRow l D cy ad E X 4 96 sC_4 sC_5 (by decide) v2) zml_RX5_116 zcv_X4_isRow (zW_get X sC_4) rfl rfl rfl ⟨Nat.le_of_ble_eq_true rfl, Nat.le_of_ble_eq_true rfl⟩ rfl rfl (Nat.le_of_ble_eq_true rfl) ⟨Nat.zero_le _, Nat.zero_le _⟩ dX5_why_22 ?_
    refine g_if_ne C dX5_why_25 (tgt := 38) (by decide) (fun hc_2 => ?_) (fun hc_2 => ?_)
    · replace h := (if_neg hc_2).symm.trans h
      refine g_iload_n (j := 3) C dX5_why_38 rfl rfl ?_
      refine g_si (ws' := (zW cy ad shC E X)) (As := [.int v3]) (rest := []) (res := (f_X5_isDay v3)) C (c_X5_isDay l D cy (zW cy ad shC E X) v3) zml_RX5_108 zcs_X5_isDay rfl rfl ⟨Nat.le_of_ble_eq_true rfl, Nat.le_of_ble_eq_true rfl⟩ rfl rfl (Nat.le_of_ble_eq_true rfl) ⟨Nat.zero_le _, Nat.zero_le _⟩ dX5_why_39 ?_
      refine g_if_eq C dX5_why_42 (tgt := 53) (by decide) (fun hc_3 => ?_) (fun hc_3 => ?_)
      · replace h := (if_pos hc_3).symm.trans h
        obtain rfl := Option.some.inj h
        exact g_throw 1 0 C hT hlt hout rfl (by decide) ⟨by decide +kernel, by decide +kernel⟩ zcl_68 zini_1 (List.mem_of_getElem? (i := 20) rfl) zat_72 zgw_72 dX5_why_53 dX5_why_56 dX5_why_57 dX5_why_59 dX5_why_62 ⟨Nat.le_of_ble_eq_true rfl, Nat.le_of_ble_eq_true rfl, Nat.le_of_ble_eq_true rfl, Nat.le_of_ble_eq_true rfl⟩
      · replace h := (if_neg hc_3).symm.trans h
        refine g_iload (j := 4) C dX5_why_45 rfl ?_
        refine g_si (ws' := (zW cy ad shC E X)) (As := [.int v4]) (rest := []) (res := (f_X5_isMinute v4)) C (c_X5_isMinute l D cy (zW cy ad shC E X) v4) zml_RX5_215 zcs_X5_isMinute rfl rfl ⟨Nat.le_of_ble_eq_true rfl, Nat.le_of_ble_eq_true rfl⟩ rfl rfl (Nat.le_of_ble_eq_true rfl) ⟨Nat.zero_le _, Nat.zero_le _⟩ dX5_why_47 ?_
        refine g_if_ne C dX5_why_50 (tgt := 63) (by decide) (fun hc_4 => ?_) (fun hc_4 => ?_)
        · replace h := (if_neg hc_4).symm.trans h
          refine g_aload_n (j := 0) C dX5_why_63 rfl rfl ?_
          refine g_getr (k := 3) (N := 11) C sC_0 rfl zin_RX5 (by decide) rfl zfl_RX5_29 rfl dX5_why_64 ?_
          refine g_aload_n (j := 0) C dX5_why_67 rfl rfl ?_
          refine g_getr (k := 0) (N := 11) C sC_0 rfl zin_RX5 (by decide) rfl zfl_RX5_10 rfl dX5_why_68 ?_
          refine g_iconst (v := (-1 : Int32)) C dX5_why_71 (by decide) ?_
          refine g_iload_n (j := 2) C dX5_why_72 rfl rfl ?_
          refine g_iload_n (j := 3) C dX5_why_73 rfl rfl ?_
          obtain ⟨q_5, hq_6, h⟩ := bind_isome h
          refine g_vv (ws' := (zW cy ad shC E q_5)) (As := [.ref (ad 1), .int (-1 : Int32), .int v2, .int v3]) (rest := []) C (c_X2_takeUp l D cy ad E X (-1 : Int32) v2 v3 hq_6) zml_RX5_265 zcv_X2_takeUp (zW_get X sC_146) rfl rfl rfl ⟨Nat.le_of_ble_eq_true rfl, Nat.le_of_ble_eq_true rfl⟩ rfl rfl (Nat.le_of_ble_eq_true rfl) ⟨Nat.zero_le _, Nat.zero_le _⟩ dX5_why_74 ?_
          refine g_aload_n (j := 0) C dX5_why_77 rfl rfl ?_
          refine g_getr (k := 3) (N := 11) C sC_0 rfl zin_RX5 (by decide) rfl zfl_RX5_29 rfl dX5_why_78 ?_
          refine g_aload_n (j := 0) C dX5_why_81 rfl rfl ?_
          refine g_getr (k := 0) (N := 11) C sC_0 rfl zin_RX5 (by decide) rfl zfl_RX5_10 rfl dX5_why_82 ?_
          refine g_iload_n (j := 1) C dX5_why_85 rfl rfl ?_
          refine g_iload (j := 4) C dX5_why_86 rfl ?_
          refine g_iload (j := 4) C dX5_why_88 rfl ?_
          refine g_aload_n (j := 0) C dX5_why_90 rfl rfl ?_
          refine g_getr (k := 0) (N := 11) C sC_0 rfl zin_RX5 (by decide) rfl zfl_RX5_10 rfl dX5_why_91 ?_
          refine g_iload_n (j := 2) C dX5_why_94 rfl rfl ?_
          refine g_iload_n (j := 3) C dX5_why_95 rfl rfl ?_
          obtain ⟨q_7, hq_8, h⟩ := bind_isome h
          refine g_vi (ws' := (zW cy ad shC E q_5)) (As := [.int v2, .int v3]) (rest := [.int v4, .int v4, .int v1, .ref (ad 1), .ref (ad 146)]) (res := q_7) C (c_X3_newMinutes l D cy ad E q_5 v2 v3 hq_8) zml_RX5_269 zcv_X3_newMinutes (zW_get q_5 sC_1) rfl rfl rfl ⟨Nat.le_of_ble_eq_true rfl, Nat.le_of_ble_eq_true rfl⟩ rfl rfl (Nat.le_of_ble_eq_true rfl) ⟨Nat.zero_le _, Nat.zero_le _⟩ dX5_why_96 ?_
          refine g_iadd C dX5_why_99 ?_
          obtain ⟨q_9, hq_10, h⟩ := bind_isome h
          refine g_vi (ws' := (zW cy ad shC E q_9.2)) (As := [.ref (ad 1), .int v1, .int v4, .int (v4 + q_7)]) (rest := []) (res := q_9.1) C (c_X2_firstBroken l D cy ad E q_5 v1 v4 (v4 + q_7) hq_10) zml_RX5_272 zcv_X2_firstBroken (zW_get q_5 sC_146) rfl rfl rfl ⟨Nat.le_of_ble_eq_true rfl, Nat.le_of_ble_eq_true rfl⟩ rfl rfl (Nat.le_of_ble_eq_true rfl) ⟨Nat.zero_le _, Nat.zero_le _⟩ dX5_why_100 ?_
          refine g_istore (L' := [(6, .int q_9.1), (0, .ref (ad 0)), (1, .int v1), (2, .int v2), (3, .int v3), (4, .int v4), (5, .int v5)]) C dX5_why_103 (by decide) rfl ?_
          refine g_iload (j := 6) C dX5_why_105 rfl ?_
          refine g_if_eq C dX5_why_107 (tgt := 120) (by decide) (fun hc_11 => ?_) (fun hc_11 => ?_)
          · replace h := (if_pos hc_11).symm.trans h
            refine g_iload (j := 0) C dX5_why_120 rfl ?_
            obtain rfl := Option.some.inj h
            exact g_xret C hr rfl dX5_why_122
          · replace h := (if_neg hc_11).symm.trans h
            refine g_aload_n (j := 1) C dX5_why_110 rfl rfl ?_
            refine g_getr (k := 3) (N := 11) C sC_0 rfl zin_RX5 (by decide) rfl zfl_RX5_29 rfl dX5_why_111 ?_
            refine g_geti (k := 3) (N := 4) C sC_146 rfl zin_RX2 (by decide) rfl zfl_RX5_276 rfl dX5_why_114 ?_
            refine g_goto C dX5_why_117 (tgt := 122) (by decide) ?_
            obtain rfl := Option.some.inj h
            exact g_xret C hr rfl dX5_why_122
        · replace h := (if_pos hc_4).symm.trans h
          obtain rfl := Option.some.inj h
          exact g_throw 1 0 C hT hlt hout rfl (by decide) ⟨by decide +kernel, by decide +kernel⟩ zcl_68 zini_1 (List.mem_of_getElem? (i := 20) rfl) zat_72 zgw_72 dX5_why_53 dX5_why_56 dX5_why_57 dX5_why_59 dX5_why_62 ⟨Nat.le_of_ble_eq_true rfl, Nat.le_of_ble_eq_true rfl, Nat.le_of_ble_eq_true rfl, Nat.le_of_ble_eq_true rfl⟩
    · replace h := (if_pos hc_2).symm.trans h
      obtain rfl := Option.some.inj h
      exact g_throw 3 0 C hT hlt hout rfl (by decide) ⟨by decide +kernel, by decide +kernel⟩ zcl_119 zini_3 (List.mem_of_getElem? (i := 19) rfl) zat_123 zgw_123 dX5_why_28 dX5_why_31 dX5_why_32 dX5_why_34 dX5_why_37 ⟨Nat.le_of_ble_eq_true rfl, Nat.le_of_ble_eq_true rfl, Nat.le_of_ble_eq_true rfl, Nat.le_of_ble_eq_true rfl⟩
