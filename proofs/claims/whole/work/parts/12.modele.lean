/-! laid by wip/whole/mkparts.py -/
def f_X6_treats (X : Nat → Nat → Int32) (v1 : Int32) : Option (Int32 × (Nat → Nat → Int32)) := (zlet (zU X 1 (nI 6).toNatClampNeg ((X 1 (nI 6).toNatClampNeg) + (nI 1))) fun X_1 => (if ((nI 428) + ((nI 5) * (X 1 (nI 6).toNatClampNeg))) < 0 ∨ 580 ≤ ((nI 428) + ((nI 5) * (X 1 (nI 6).toNatClampNeg))).toNatClampNeg then none else (zlet (zU X_1 1 ((nI 428) + ((nI 5) * (X 1 (nI 6).toNatClampNeg))).toNatClampNeg v1) fun X_4 => ((f_X6_showAt X_4 v1 (nI 3)).bind fun q_6 => (if (((nI 428) + ((nI 5) * (X 1 (nI 6).toNatClampNeg))) + (nI 1)) < 0 ∨ 580 ≤ (((nI 428) + ((nI 5) * (X 1 (nI 6).toNatClampNeg))) + (nI 1)).toNatClampNeg then none else (zlet (zU X_4 1 (((nI 428) + ((nI 5) * (X 1 (nI 6).toNatClampNeg))) + (nI 1)).toNatClampNeg q_6) fun X_9 => ((f_X6_showAt X_9 v1 (nI 7)).bind fun q_11 => (if (((nI 428) + ((nI 5) * (X 1 (nI 6).toNatClampNeg))) + (nI 4)) < 0 ∨ 580 ≤ (((nI 428) + ((nI 5) * (X 1 (nI 6).toNatClampNeg))) + (nI 4)).toNatClampNeg then none else (zlet (zU X_9 1 (((nI 428) + ((nI 5) * (X 1 (nI 6).toNatClampNeg))) + (nI 4)).toNatClampNeg q_11) fun X_14 => ((f_X6_findsPlace X_14 v1).bind fun q_16 => (if q_16.1 = 0 then (if (((nI 428) + ((nI 5) * (X 1 (nI 6).toNatClampNeg))) + (nI 2)) < 0 ∨ 580 ≤ (((nI 428) + ((nI 5) * (X 1 (nI 6).toNatClampNeg))) + (nI 2)).toNatClampNeg then none else (zlet (zU q_16.2 1 (((nI 428) + ((nI 5) * (X 1 (nI 6).toNatClampNeg))) + (nI 2)).toNatClampNeg (-1 : Int32)) fun X_20 => (if (((nI 428) + ((nI 5) * (X 1 (nI 6).toNatClampNeg))) + (nI 3)) < 0 ∨ 580 ≤ (((nI 428) + ((nI 5) * (X 1 (nI 6).toNatClampNeg))) + (nI 3)).toNatClampNeg then none else (zlet (zU X_20 1 (((nI 428) + ((nI 5) * (X 1 (nI 6).toNatClampNeg))) + (nI 3)).toNatClampNeg (-1 : Int32)) fun X_23 => ((f_X6_cancels X_23 v1).bind fun q_25 => some ((nI 1), q_25.2)))))) else (if (((nI 428) + ((nI 5) * (X 1 (nI 6).toNatClampNeg))) + (nI 2)) < 0 ∨ 580 ≤ (((nI 428) + ((nI 5) * (X 1 (nI 6).toNatClampNeg))) + (nI 2)).toNatClampNeg then none else (zlet (zU q_16.2 1 (((nI 428) + ((nI 5) * (X 1 (nI 6).toNatClampNeg))) + (nI 2)).toNatClampNeg (q_16.2 0 22)) fun X_28 => (if (((nI 428) + ((nI 5) * (X 1 (nI 6).toNatClampNeg))) + (nI 3)) < 0 ∨ 580 ≤ (((nI 428) + ((nI 5) * (X 1 (nI 6).toNatClampNeg))) + (nI 3)).toNatClampNeg then none else (zlet (zU X_28 1 (((nI 428) + ((nI 5) * (X 1 (nI 6).toNatClampNeg))) + (nI 3)).toNatClampNeg (X_28 0 23)) fun X_31 => (if (((nI 158) + ((nI 9) * v1)) + (nI 0)) < 0 ∨ 580 ≤ (((nI 158) + ((nI 9) * v1)) + (nI 0)).toNatClampNeg then none else (zlet (zU X_31 1 (((nI 158) + ((nI 9) * v1)) + (nI 0)).toNatClampNeg (X_31 0 22)) fun X_34 => (if (((nI 158) + ((nI 9) * v1)) + (nI 3)) < 0 ∨ 580 ≤ (((nI 158) + ((nI 9) * v1)) + (nI 3)).toNatClampNeg then none else (zlet (zU X_34 1 (((nI 158) + ((nI 9) * v1)) + (nI 3)).toNatClampNeg (X_34 0 23)) fun X_37 => (if (((nI 158) + ((nI 9) * v1)) + (nI 8)) < 0 ∨ 580 ≤ (((nI 158) + ((nI 9) * v1)) + (nI 8)).toNatClampNeg then none else (zlet (zU X_37 1 (((nI 158) + ((nI 9) * v1)) + (nI 8)).toNatClampNeg (nI 0)) fun X_40 => some ((nI 0), X_40))))))))))))))))))))))
set_option maxRecDepth 100000 in
set_option maxHeartbeats 4000000 in
theorem c_X6_treats (l : Launch) (D : va_G) (cy : Nat → ClassId) (ad : Nat → Nat) (E : va_W) (X : Nat → Nat → Int32) (v1 : Int32) {res : Int32 × (Nat → Nat → Int32)} (h : f_X6_treats X v1 = some res) : zMi l yX6_treats cX6_treats 5 (some .int) (zrm 9) D (zTy cy) (zW cy ad shM E X) [.ref (ad 0), .int v1] res.1 (zW cy ad shM E res.2) := by
  refine zMi.of (by decide) (Nat.le_of_ble_eq_true rfl) ?_
  intro p e s m below meth c A C hr
  unfold f_X6_treats at h
  refine zG_L (L' := [(0, .ref (ad 0)), (1, .int v1)]) rfl ?_
  refine g_sipush (v := (nI 428)) C dX6_treats_0 (by decide) ?_
  refine g_iconst (v := (nI 5)) C dX6_treats_3 (by decide) ?_
  refine g_aload_n (j := 0) C dX6_treats_4 rfl rfl ?_
  refine g_getr (k := 1) (N := 27) C sM_0 rfl zin_RX6 (by decide) rfl zfl_RX6_9 rfl dX6_treats_5 ?_
  refine g_bipush (v := (nI 6)) C dX6_treats_8 (by decide) ?_
  refine g_iald C sM_1 (by decide) dX6_treats_10 ?_
  refine g_imul C dX6_treats_11 ?_
  refine g_iadd C dX6_treats_12 ?_
  refine g_istore_n (L' := [(2, .int ((nI 428) + ((nI 5) * (X 1 (nI 6).toNatClampNeg)))), (0, .ref (ad 0)), (1, .int v1)]) C dX6_treats_13 rfl (by decide) rfl ?_
  refine g_aload_n (j := 1) C dX6_treats_14 rfl rfl ?_
  refine g_getr (k := 1) (N := 27) C sM_0 rfl zin_RX6 (by decide) rfl zfl_RX6_9 rfl dX6_treats_15 ?_
  refine g_bipush (v := (nI 6)) C dX6_treats_18 (by decide) ?_
  refine g_dup2 C dX6_treats_20 rfl rfl ?_
  refine g_iald C sM_1 (by decide) dX6_treats_21 ?_
  refine g_iconst (v := (nI 1)) C dX6_treats_22 (by decide) ?_
  refine g_iadd C dX6_treats_23 ?_
  refine g_iast C sM_1 (by decide) dX6_treats_24 ?_
  obtain ⟨X_1, e_2, h⟩ := zlet_ex h
  rw [← e_2]
  refine g_aload_n (j := 1) C dX6_treats_25 rfl rfl ?_
  refine g_getr (k := 1) (N := 27) C sM_0 rfl zin_RX6 (by decide) rfl zfl_RX6_9 rfl dX6_treats_26 ?_
  refine g_iload_n (j := 0) C dX6_treats_29 rfl rfl ?_
  refine g_iload_n (j := 2) C dX6_treats_30 rfl rfl ?_
  obtain ⟨hi_3, h⟩ := ite_inone h
  refine g_iast C sM_1 hi_3 dX6_treats_31 ?_
  obtain ⟨X_4, e_5, h⟩ := zlet_ex h
  rw [← e_5]
  refine g_aload_n (j := 1) C dX6_treats_32 rfl rfl ?_
  refine g_getr (k := 1) (N := 27) C sM_0 rfl zin_RX6 (by decide) rfl zfl_RX6_9 rfl dX6_treats_33 ?_
  refine g_iload_n (j := 0) C dX6_treats_36 rfl rfl ?_
  refine g_iconst (v := (nI 1)) C dX6_treats_37 (by decide) ?_
  refine g_iadd C dX6_treats_38 ?_
  refine g_aload_n (j := 1) C dX6_treats_39 rfl rfl ?_
  refine g_iload_n (j := 2) C dX6_treats_40 rfl rfl ?_
  refine g_iconst (v := (nI 3)) C dX6_treats_41 (by decide) ?_
  obtain ⟨q_6, hq_7, h⟩ := bind_isome h
  refine g_vi (ws' := (zW cy ad shM E X_4)) (As := [.int v1, .int (nI 3)]) (rest := [.int (((nI 428) + ((nI 5) * (X 1 (nI 6).toNatClampNeg))) + (nI 1)), .ref (ad 1)]) (res := q_6) C (c_X6_showAt l D cy ad E X_4 v1 (nI 3) hq_7) zml_RX6_89 zcv_X6_showAt (zW_get X_4 sM_0) rfl rfl rfl ⟨Nat.le_of_ble_eq_true rfl, Nat.le_of_ble_eq_true rfl⟩ rfl rfl (Nat.le_of_ble_eq_true rfl) ⟨Nat.zero_le _, Nat.zero_le _⟩ dX6_treats_42 ?_
  obtain ⟨hi_8, h⟩ := ite_inone h
  refine g_iast C sM_1 hi_8 dX6_treats_45 ?_
  obtain ⟨X_9, e_10, h⟩ := zlet_ex h
  rw [← e_10]
  refine g_aload_n (j := 1) C dX6_treats_46 rfl rfl ?_
  refine g_getr (k := 1) (N := 27) C sM_0 rfl zin_RX6 (by decide) rfl zfl_RX6_9 rfl dX6_treats_47 ?_
  refine g_iload_n (j := 0) C dX6_treats_50 rfl rfl ?_
  refine g_iconst (v := (nI 4)) C dX6_treats_51 (by decide) ?_
  refine g_iadd C dX6_treats_52 ?_
  refine g_aload_n (j := 1) C dX6_treats_53 rfl rfl ?_
  refine g_iload_n (j := 2) C dX6_treats_54 rfl rfl ?_
  refine g_bipush (v := (nI 7)) C dX6_treats_55 (by decide) ?_
  obtain ⟨q_11, hq_12, h⟩ := bind_isome h
  refine g_vi (ws' := (zW cy ad shM E X_9)) (As := [.int v1, .int (nI 7)]) (rest := [.int (((nI 428) + ((nI 5) * (X 1 (nI 6).toNatClampNeg))) + (nI 4)), .ref (ad 1)]) (res := q_11) C (c_X6_showAt l D cy ad E X_9 v1 (nI 7) hq_12) zml_RX6_89 zcv_X6_showAt (zW_get X_9 sM_0) rfl rfl rfl ⟨Nat.le_of_ble_eq_true rfl, Nat.le_of_ble_eq_true rfl⟩ rfl rfl (Nat.le_of_ble_eq_true rfl) ⟨Nat.zero_le _, Nat.zero_le _⟩ dX6_treats_57 ?_
  obtain ⟨hi_13, h⟩ := ite_inone h
  refine g_iast C sM_1 hi_13 dX6_treats_60 ?_
  obtain ⟨X_14, e_15, h⟩ := zlet_ex h
  rw [← e_15]
  refine g_aload_n (j := 1) C dX6_treats_61 rfl rfl ?_
  refine g_iload_n (j := 2) C dX6_treats_62 rfl rfl ?_
  obtain ⟨q_16, hq_17, h⟩ := bind_isome h
  refine g_vi (ws' := (zW cy ad shM E q_16.2)) (As := [.int v1]) (rest := []) (res := q_16.1) C (c_X6_findsPlace l D cy ad E X_14 v1 hq_17) zml_RX6_221 zcv_X6_findsPlace (zW_get X_14 sM_0) rfl rfl rfl ⟨Nat.le_of_ble_eq_true rfl, Nat.le_of_ble_eq_true rfl⟩ rfl rfl (Nat.le_of_ble_eq_true rfl) ⟨Nat.zero_le _, Nat.zero_le _⟩ dX6_treats_63 ?_
  refine g_istore_n (L' := [(3, .int q_16.1), (2, .int ((nI 428) + ((nI 5) * (X 1 (nI 6).toNatClampNeg)))), (0, .ref (ad 0)), (1, .int v1)]) C dX6_treats_66 rfl (by decide) rfl ?_
  refine g_aload_n (j := 2) C dX6_treats_67 rfl rfl ?_
  refine g_getr (k := 1) (N := 27) C sM_0 rfl zin_RX6 (by decide) rfl zfl_RX6_9 rfl dX6_treats_68 ?_
  refine g_iload_n (j := 1) C dX6_treats_71 rfl rfl ?_
  refine g_iconst (v := (nI 2)) C dX6_treats_72 (by decide) ?_
  refine g_iadd C dX6_treats_73 ?_
  refine g_iload_n (j := 0) C dX6_treats_74 rfl rfl ?_
  refine g_if_eq C dX6_treats_75 (tgt := 85) (by decide) (fun hc_18 => ?_) (fun hc_18 => ?_)
  · replace h := (if_pos hc_18).symm.trans h
    refine g_iconst (v := (-1 : Int32)) C dX6_treats_85 (by decide) ?_
    obtain ⟨hi_19, h⟩ := ite_inone h
    refine g_iast C sM_1 hi_19 dX6_treats_86 ?_
    obtain ⟨X_20, e_21, h⟩ := zlet_ex h
    rw [← e_21]
    refine g_aload_n (j := 2) C dX6_treats_87 rfl rfl ?_
    refine g_getr (k := 1) (N := 27) C sM_0 rfl zin_RX6 (by decide) rfl zfl_RX6_9 rfl dX6_treats_88 ?_
    refine g_iload_n (j := 1) C dX6_treats_91 rfl rfl ?_
    refine g_iconst (v := (nI 3)) C dX6_treats_92 (by decide) ?_
    refine g_iadd C dX6_treats_93 ?_
    refine g_iload_n (j := 0) C dX6_treats_94 rfl rfl ?_
    refine g_if_eq C dX6_treats_95 (tgt := 105) (by decide) (fun _ => ?_) (fun h9 => absurd hc_18 h9)
    refine g_iconst (v := (-1 : Int32)) C dX6_treats_105 (by decide) ?_
    obtain ⟨hi_22, h⟩ := ite_inone h
    refine g_iast C sM_1 hi_22 dX6_treats_106 ?_
    obtain ⟨X_23, e_24, h⟩ := zlet_ex h
    rw [← e_24]
    refine g_iload_n (j := 0) C dX6_treats_107 rfl rfl ?_
    refine g_if_ne C dX6_treats_108 (tgt := 120) (by decide) (fun h9 => absurd hc_18 h9) (fun _ => ?_)
    refine g_aload_n (j := 2) C dX6_treats_111 rfl rfl ?_
    refine g_iload_n (j := 3) C dX6_treats_112 rfl rfl ?_
    obtain ⟨q_25, hq_26, h⟩ := bind_isome h
    refine g_vi (ws' := (zW cy ad shM E q_25.2)) (As := [.int v1]) (rest := []) (res := q_25.1) C (c_X6_cancels l D cy ad E X_23 v1 hq_26) zml_RX6_209 zcv_X6_cancels (zW_get X_23 sM_0) rfl rfl rfl ⟨Nat.le_of_ble_eq_true rfl, Nat.le_of_ble_eq_true rfl⟩ rfl rfl (Nat.le_of_ble_eq_true rfl) ⟨Nat.zero_le _, Nat.zero_le _⟩ dX6_treats_113 ?_
    refine g_istore (L' := [(4, .int q_25.1), (3, .int q_16.1), (2, .int ((nI 428) + ((nI 5) * (X 1 (nI 6).toNatClampNeg)))), (0, .ref (ad 0)), (1, .int v1)]) C dX6_treats_116 (by decide) rfl ?_
    refine g_iconst (v := (nI 1)) C dX6_treats_118 (by decide) ?_
    obtain rfl := Option.some.inj h
    exact g_iret rfl C hr rfl dX6_treats_119
  · replace h := (if_neg hc_18).symm.trans h
    refine g_aload_n (j := 2) C dX6_treats_78 rfl rfl ?_
    refine g_geti (k := 22) (N := 27) C sM_0 rfl zin_RX6 (by decide) rfl zfl_RX6_212 rfl dX6_treats_79 ?_
    refine g_goto C dX6_treats_82 (tgt := 86) (by decide) ?_
    obtain ⟨hi_27, h⟩ := ite_inone h
    refine g_iast C sM_1 hi_27 dX6_treats_86 ?_
    obtain ⟨X_28, e_29, h⟩ := zlet_ex h
    rw [← e_29]
    refine g_aload_n (j := 2) C dX6_treats_87 rfl rfl ?_
    refine g_getr (k := 1) (N := 27) C sM_0 rfl zin_RX6 (by decide) rfl zfl_RX6_9 rfl dX6_treats_88 ?_
    refine g_iload_n (j := 1) C dX6_treats_91 rfl rfl ?_
    refine g_iconst (v := (nI 3)) C dX6_treats_92 (by decide) ?_
    refine g_iadd C dX6_treats_93 ?_
    refine g_iload_n (j := 0) C dX6_treats_94 rfl rfl ?_
    refine g_if_eq C dX6_treats_95 (tgt := 105) (by decide) (fun h9 => absurd h9 hc_18) (fun _ => ?_)
    refine g_aload_n (j := 2) C dX6_treats_98 rfl rfl ?_
    refine g_geti (k := 23) (N := 27) C sM_0 rfl zin_RX6 (by decide) rfl zfl_RX6_215 rfl dX6_treats_99 ?_
    refine g_goto C dX6_treats_102 (tgt := 106) (by decide) ?_
    obtain ⟨hi_30, h⟩ := ite_inone h
    refine g_iast C sM_1 hi_30 dX6_treats_106 ?_
    obtain ⟨X_31, e_32, h⟩ := zlet_ex h
    rw [← e_32]
    refine g_iload_n (j := 0) C dX6_treats_107 rfl rfl ?_
    refine g_if_ne C dX6_treats_108 (tgt := 120) (by decide) (fun _ => ?_) (fun h9 => absurd h9 hc_18)
    refine g_aload_n (j := 2) C dX6_treats_120 rfl rfl ?_
    refine g_getr (k := 1) (N := 27) C sM_0 rfl zin_RX6 (by decide) rfl zfl_RX6_9 rfl dX6_treats_121 ?_
    refine g_sipush (v := (nI 158)) C dX6_treats_124 (by decide) ?_
    refine g_bipush (v := (nI 9)) C dX6_treats_127 (by decide) ?_
    refine g_iload_n (j := 3) C dX6_treats_129 rfl rfl ?_
    refine g_imul C dX6_treats_130 ?_
    refine g_iadd C dX6_treats_131 ?_
    refine g_iconst (v := (nI 0)) C dX6_treats_132 (by decide) ?_
    refine g_iadd C dX6_treats_133 ?_
    refine g_aload_n (j := 2) C dX6_treats_134 rfl rfl ?_
    refine g_geti (k := 22) (N := 27) C sM_0 rfl zin_RX6 (by decide) rfl zfl_RX6_212 rfl dX6_treats_135 ?_
    obtain ⟨hi_33, h⟩ := ite_inone h
    refine g_iast C sM_1 hi_33 dX6_treats_138 ?_
    obtain ⟨X_34, e_35, h⟩ := zlet_ex h
    rw [← e_35]
    refine g_aload_n (j := 2) C dX6_treats_139 rfl rfl ?_
    refine g_getr (k := 1) (N := 27) C sM_0 rfl zin_RX6 (by decide) rfl zfl_RX6_9 rfl dX6_treats_140 ?_
    refine g_sipush (v := (nI 158)) C dX6_treats_143 (by decide) ?_
    refine g_bipush (v := (nI 9)) C dX6_treats_146 (by decide) ?_
    refine g_iload_n (j := 3) C dX6_treats_148 rfl rfl ?_
    refine g_imul C dX6_treats_149 ?_
    refine g_iadd C dX6_treats_150 ?_
    refine g_iconst (v := (nI 3)) C dX6_treats_151 (by decide) ?_
    refine g_iadd C dX6_treats_152 ?_
    refine g_aload_n (j := 2) C dX6_treats_153 rfl rfl ?_
    refine g_geti (k := 23) (N := 27) C sM_0 rfl zin_RX6 (by decide) rfl zfl_RX6_215 rfl dX6_treats_154 ?_
    obtain ⟨hi_36, h⟩ := ite_inone h
    refine g_iast C sM_1 hi_36 dX6_treats_157 ?_
    obtain ⟨X_37, e_38, h⟩ := zlet_ex h
    rw [← e_38]
    refine g_aload_n (j := 2) C dX6_treats_158 rfl rfl ?_
    refine g_getr (k := 1) (N := 27) C sM_0 rfl zin_RX6 (by decide) rfl zfl_RX6_9 rfl dX6_treats_159 ?_
    refine g_sipush (v := (nI 158)) C dX6_treats_162 (by decide) ?_
    refine g_bipush (v := (nI 9)) C dX6_treats_165 (by decide) ?_
    refine g_iload_n (j := 3) C dX6_treats_167 rfl rfl ?_
    refine g_imul C dX6_treats_168 ?_
    refine g_iadd C dX6_treats_169 ?_
    refine g_bipush (v := (nI 8)) C dX6_treats_170 (by decide) ?_
    refine g_iadd C dX6_treats_172 ?_
    refine g_iconst (v := (nI 0)) C dX6_treats_173 (by decide) ?_
    obtain ⟨hi_39, h⟩ := ite_inone h
    refine g_iast C sM_1 hi_39 dX6_treats_174 ?_
    obtain ⟨X_40, e_41, h⟩ := zlet_ex h
    rw [← e_41]
    refine g_iconst (v := (nI 0)) C dX6_treats_175 (by decide) ?_
    obtain rfl := Option.some.inj h
    exact g_iret rfl C hr rfl dX6_treats_176
def f_X6_fail_L89 (k : (Nat → Nat → Int32) → Option (Int32 × (Nat → Nat → Int32))) (v1 : Int32) (v2 : Int32) : Nat → (Nat → Nat → Int32) → Int32 → Option (Int32 × (Nat → Nat → Int32))
  | 0, _, _ => none
  | fu + 1, X, v3 => (if (X 1 (nI 4).toNatClampNeg) ≤ v3 then k X else ((f_X6_stands X v3).bind fun q_1019 => (if q_1019 = 0 then f_X6_fail_L89 k v1 v2 fu X (v3 + 1) else ((f_X6_showAt X v3 (nI 0)).bind fun q_1022 => (if q_1022 = v1 then ((f_X6_showAt X v3 (nI 2)).bind fun q_1025 => (if q_1025 < v2 then f_X6_fail_L89 k v1 v2 fu X (v3 + 1) else (if (((nI 158) + ((nI 9) * v3)) + (nI 8)) < 0 ∨ 580 ≤ (((nI 158) + ((nI 9) * v3)) + (nI 8)).toNatClampNeg then none else (zlet (zU X 1 (((nI 158) + ((nI 9) * v3)) + (nI 8)).toNatClampNeg (nI 2)) fun X_1029 => f_X6_fail_L89 k v1 v2 fu X_1029 (v3 + 1))))) else f_X6_fail_L89 k v1 v2 fu X (v3 + 1))))))
set_option maxRecDepth 100000 in
set_option maxHeartbeats 4000000 in
theorem w_X6_fail_L89 {p : Program} {e : Env} {s : State} {m : MethodId} {args : Array Value} {below : List Frame} {meth : Method} {c : Code} {A : Nat → Prop} (l : Launch) (D : va_G) (cy : Nat → ClassId) (ad : Nat → Nat) (E : va_W) (k : (Nat → Nat → Int32) → Option (Int32 × (Nat → Nat → Int32))) (v1 : Int32) (v2 : Int32) {res : Int32 × (Nat → Nat → Int32)} (C : zC p s m args meth c cX6_fail 5 RX6 D (zTy cy) A) (hr : meth.sig.returnType = (some .int)) : ∀ (fu : Nat) (X : Nat → Nat → Int32) (v3 : Int32) (h : f_X6_fail_L89 k v1 v2 fu X v3 = some res) (hk : ∀ (X : Nat → Nat → Int32), k X = some res → zG p l e (zrm 10) s m args below meth c 5 D A 0 0 (MQ below (va_Qi (fun (r : Int32) (_ : Unit) => r = res.1) (fun _ t => zB D (zTy cy) A (zW cy ad shM E res.2) t) A) args s 0 0 A) (zW cy ad shM E X) 150 [(0, .ref (ad 0))] []), zG p l e (zrm 10) s m args below meth c 5 D A 0 0 (MQ below (va_Qi (fun (r : Int32) (_ : Unit) => r = res.1) (fun _ t => zB D (zTy cy) A (zW cy ad shM E res.2) t) A) args s 0 0 A) (zW cy ad shM E X) 89 [(0, .ref (ad 0)), (1, .int v1), (2, .int v2), (3, .int v3)] [] := by
  intro fu
  induction fu with
  | zero => intro X v3 h hk; simp [f_X6_fail_L89] at h
  | succ fu ih =>
    intro X v3 h hk
    rw [f_X6_fail_L89] at h
    refine g_iload_n (j := 3) C dX6_fail_89 rfl rfl ?_
    refine g_aload_n (j := 0) C dX6_fail_90 rfl rfl ?_
    refine g_getr (k := 1) (N := 27) C sM_0 rfl zin_RX6 (by decide) rfl zfl_RX6_9 rfl dX6_fail_91 ?_
    refine g_iconst (v := (nI 4)) C dX6_fail_94 (by decide) ?_
    refine g_iald C sM_1 (by decide) dX6_fail_95 ?_
    refine g_icmp_ge C dX6_fail_96 (tgt := 150) (by decide) (fun hc_1018 => ?_) (fun hc_1018 => ?_)
    · replace h := (if_pos hc_1018).symm.trans h
      refine zG_sub (L' := [(0, .ref (ad 0))]) [0] rfl ?_
      exact hk X h
    · replace h := (if_neg hc_1018).symm.trans h
      refine g_aload_n (j := 0) C dX6_fail_99 rfl rfl ?_
      refine g_iload_n (j := 3) C dX6_fail_100 rfl rfl ?_
      obtain ⟨q_1019, hq_1020, h⟩ := bind_isome h
      refine g_vi (ws' := (zW cy ad shM E X)) (As := [.int v3]) (rest := []) (res := q_1019) C (c_X6_stands l D cy ad E X v3 hq_1020) zml_RX6_107 zcv_X6_stands (zW_get X sM_0) rfl rfl rfl ⟨Nat.le_of_ble_eq_true rfl, Nat.le_of_ble_eq_true rfl⟩ rfl rfl (Nat.le_of_ble_eq_true rfl) ⟨Nat.zero_le _, Nat.zero_le _⟩ dX6_fail_101 ?_
      refine g_if_eq C dX6_fail_104 (tgt := 144) (by decide) (fun hc_1021 => ?_) (fun hc_1021 => ?_)
      · replace h := (if_pos hc_1021).symm.trans h
        refine g_iinc (k := 3) (L' := [(3, .int (v3 + 1)), (0, .ref (ad 0)), (1, .int v1), (2, .int v2)]) C dX6_fail_144 rfl (z_iinc (by decide)) (by decide) rfl ?_
        refine g_goto C dX6_fail_147 (tgt := 89) (by decide) ?_
        refine zG_sub (L' := [(0, .ref (ad 0)), (1, .int v1), (2, .int v2), (3, .int (v3 + 1))]) [1, 2, 3, 0] rfl ?_
        exact ih X (v3 + 1) h hk
      · replace h := (if_neg hc_1021).symm.trans h
        refine g_aload_n (j := 0) C dX6_fail_107 rfl rfl ?_
        refine g_iload_n (j := 3) C dX6_fail_108 rfl rfl ?_
        refine g_iconst (v := (nI 0)) C dX6_fail_109 (by decide) ?_
        obtain ⟨q_1022, hq_1023, h⟩ := bind_isome h
        refine g_vi (ws' := (zW cy ad shM E X)) (As := [.int v3, .int (nI 0)]) (rest := []) (res := q_1022) C (c_X6_showAt l D cy ad E X v3 (nI 0) hq_1023) zml_RX6_89 zcv_X6_showAt (zW_get X sM_0) rfl rfl rfl ⟨Nat.le_of_ble_eq_true rfl, Nat.le_of_ble_eq_true rfl⟩ rfl rfl (Nat.le_of_ble_eq_true rfl) ⟨Nat.zero_le _, Nat.zero_le _⟩ dX6_fail_110 ?_
        refine g_iload_n (j := 1) C dX6_fail_113 rfl rfl ?_
        refine g_icmp_ne C dX6_fail_114 (tgt := 144) (by decide) (fun hc_1024 => ?_) (fun hc_1024 => ?_)
        · replace h := (if_neg hc_1024).symm.trans h
          refine g_iinc (k := 3) (L' := [(3, .int (v3 + 1)), (0, .ref (ad 0)), (1, .int v1), (2, .int v2)]) C dX6_fail_144 rfl (z_iinc (by decide)) (by decide) rfl ?_
          refine g_goto C dX6_fail_147 (tgt := 89) (by decide) ?_
          refine zG_sub (L' := [(0, .ref (ad 0)), (1, .int v1), (2, .int v2), (3, .int (v3 + 1))]) [1, 2, 3, 0] rfl ?_
          exact ih X (v3 + 1) h hk
        · replace h := (if_pos hc_1024).symm.trans h
          refine g_aload_n (j := 0) C dX6_fail_117 rfl rfl ?_
          refine g_iload_n (j := 3) C dX6_fail_118 rfl rfl ?_
          refine g_iconst (v := (nI 2)) C dX6_fail_119 (by decide) ?_
          obtain ⟨q_1025, hq_1026, h⟩ := bind_isome h
          refine g_vi (ws' := (zW cy ad shM E X)) (As := [.int v3, .int (nI 2)]) (rest := []) (res := q_1025) C (c_X6_showAt l D cy ad E X v3 (nI 2) hq_1026) zml_RX6_89 zcv_X6_showAt (zW_get X sM_0) rfl rfl rfl ⟨Nat.le_of_ble_eq_true rfl, Nat.le_of_ble_eq_true rfl⟩ rfl rfl (Nat.le_of_ble_eq_true rfl) ⟨Nat.zero_le _, Nat.zero_le _⟩ dX6_fail_120 ?_
          refine g_iload_n (j := 2) C dX6_fail_123 rfl rfl ?_
          refine g_icmp_lt C dX6_fail_124 (tgt := 144) (by decide) (fun hc_1027 => ?_) (fun hc_1027 => ?_)
          · replace h := (if_pos hc_1027).symm.trans h
            refine g_iinc (k := 3) (L' := [(3, .int (v3 + 1)), (0, .ref (ad 0)), (1, .int v1), (2, .int v2)]) C dX6_fail_144 rfl (z_iinc (by decide)) (by decide) rfl ?_
            refine g_goto C dX6_fail_147 (tgt := 89) (by decide) ?_
            refine zG_sub (L' := [(0, .ref (ad 0)), (1, .int v1), (2, .int v2), (3, .int (v3 + 1))]) [1, 2, 3, 0] rfl ?_
            exact ih X (v3 + 1) h hk
          · replace h := (if_neg hc_1027).symm.trans h
            refine g_aload_n (j := 0) C dX6_fail_127 rfl rfl ?_
            refine g_getr (k := 1) (N := 27) C sM_0 rfl zin_RX6 (by decide) rfl zfl_RX6_9 rfl dX6_fail_128 ?_
            refine g_sipush (v := (nI 158)) C dX6_fail_131 (by decide) ?_
            refine g_bipush (v := (nI 9)) C dX6_fail_134 (by decide) ?_
            refine g_iload_n (j := 3) C dX6_fail_136 rfl rfl ?_
            refine g_imul C dX6_fail_137 ?_
            refine g_iadd C dX6_fail_138 ?_
            refine g_bipush (v := (nI 8)) C dX6_fail_139 (by decide) ?_
            refine g_iadd C dX6_fail_141 ?_
            refine g_iconst (v := (nI 2)) C dX6_fail_142 (by decide) ?_
            obtain ⟨hi_1028, h⟩ := ite_inone h
            refine g_iast C sM_1 hi_1028 dX6_fail_143 ?_
            obtain ⟨X_1029, e_1030, h⟩ := zlet_ex h
            rw [← e_1030]
            refine g_iinc (k := 3) (L' := [(3, .int (v3 + 1)), (0, .ref (ad 0)), (1, .int v1), (2, .int v2)]) C dX6_fail_144 rfl (z_iinc (by decide)) (by decide) rfl ?_
            refine g_goto C dX6_fail_147 (tgt := 89) (by decide) ?_
            refine zG_sub (L' := [(0, .ref (ad 0)), (1, .int v1), (2, .int v2), (3, .int (v3 + 1))]) [1, 2, 3, 0] rfl ?_
            exact ih X_1029 (v3 + 1) h hk
def f_X6_fail_L158 (k : (Nat → Nat → Int32) → Int32 → Option (Int32 × (Nat → Nat → Int32))) : Nat → (Nat → Nat → Int32) → Int32 → Int32 → Option (Int32 × (Nat → Nat → Int32))
  | 0, _, _, _ => none
  | fu + 1, X, v3, v4 => (if v4 = (-1 : Int32) then k X v3 else ((f_X6_treats X v4).bind fun q_2035 => ((f_X6_nextOut q_2035.2).bind fun q_2037 => f_X6_fail_L158 k fu q_2035.2 (v3 + q_2035.1) q_2037)))
set_option maxRecDepth 100000 in
set_option maxHeartbeats 4000000 in
theorem w_X6_fail_L158 {p : Program} {e : Env} {s : State} {m : MethodId} {args : Array Value} {below : List Frame} {meth : Method} {c : Code} {A : Nat → Prop} (l : Launch) (D : va_G) (cy : Nat → ClassId) (ad : Nat → Nat) (E : va_W) (k : (Nat → Nat → Int32) → Int32 → Option (Int32 × (Nat → Nat → Int32))) {res : Int32 × (Nat → Nat → Int32)} (C : zC p s m args meth c cX6_fail 5 RX6 D (zTy cy) A) (hr : meth.sig.returnType = (some .int)) : ∀ (fu : Nat) (X : Nat → Nat → Int32) (v3 v4 : Int32) (h : f_X6_fail_L158 k fu X v3 v4 = some res) (hk : ∀ (X : Nat → Nat → Int32) (v3 : Int32), k X v3 = some res → zG p l e (zrm 10) s m args below meth c 5 D A 0 0 (MQ below (va_Qi (fun (r : Int32) (_ : Unit) => r = res.1) (fun _ t => zB D (zTy cy) A (zW cy ad shM E res.2) t) A) args s 0 0 A) (zW cy ad shM E X) 182 [(0, .ref (ad 0)), (3, .int v3)] []), zG p l e (zrm 10) s m args below meth c 5 D A 0 0 (MQ below (va_Qi (fun (r : Int32) (_ : Unit) => r = res.1) (fun _ t => zB D (zTy cy) A (zW cy ad shM E res.2) t) A) args s 0 0 A) (zW cy ad shM E X) 158 [(0, .ref (ad 0)), (3, .int v3), (4, .int v4)] [] := by
  intro fu
  induction fu with
  | zero => intro X v3 v4 h hk; simp [f_X6_fail_L158] at h
  | succ fu ih =>
    intro X v3 v4 h hk
    rw [f_X6_fail_L158] at h
    refine g_iload (j := 2) C dX6_fail_158 rfl ?_
    refine g_iconst (v := (-1 : Int32)) C dX6_fail_160 (by decide) ?_
    refine g_icmp_eq C dX6_fail_161 (tgt := 182) (by decide) (fun hc_2034 => ?_) (fun hc_2034 => ?_)
    · replace h := (if_pos hc_2034).symm.trans h
      refine zG_sub (L' := [(0, .ref (ad 0)), (3, .int v3)]) [0, 1] rfl ?_
      exact hk X v3 h
    · replace h := (if_neg hc_2034).symm.trans h
      refine g_iload_n (j := 1) C dX6_fail_164 rfl rfl ?_
      refine g_aload_n (j := 0) C dX6_fail_165 rfl rfl ?_
      refine g_iload (j := 2) C dX6_fail_166 rfl ?_
      obtain ⟨q_2035, hq_2036, h⟩ := bind_isome h
      refine g_vi (ws' := (zW cy ad shM E q_2035.2)) (As := [.int v4]) (rest := [.int v3]) (res := q_2035.1) C (c_X6_treats l D cy ad E X v4 hq_2036) zml_RX6_227 zcv_X6_treats (zW_get X sM_0) rfl rfl rfl ⟨Nat.le_of_ble_eq_true rfl, Nat.le_of_ble_eq_true rfl⟩ rfl rfl (Nat.le_of_ble_eq_true rfl) ⟨Nat.zero_le _, Nat.zero_le _⟩ dX6_fail_168 ?_
      refine g_iadd C dX6_fail_171 ?_
      refine g_istore_n (L' := [(3, .int (v3 + q_2035.1)), (0, .ref (ad 0)), (4, .int v4)]) C dX6_fail_172 rfl (by decide) rfl ?_
      refine g_aload_n (j := 1) C dX6_fail_173 rfl rfl ?_
      obtain ⟨q_2037, hq_2038, h⟩ := bind_isome h
      refine g_vi (ws' := (zW cy ad shM E q_2035.2)) (As := []) (rest := []) (res := q_2037) C (c_X6_nextOut l D cy ad E q_2035.2 hq_2038) zml_RX6_224 zcv_X6_nextOut (zW_get q_2035.2 sM_0) rfl rfl rfl ⟨Nat.le_of_ble_eq_true rfl, Nat.le_of_ble_eq_true rfl⟩ rfl rfl (Nat.le_of_ble_eq_true rfl) ⟨Nat.zero_le _, Nat.zero_le _⟩ dX6_fail_174 ?_
      refine g_istore (L' := [(4, .int q_2037), (3, .int (v3 + q_2035.1)), (0, .ref (ad 0))]) C dX6_fail_177 (by decide) rfl ?_
      refine g_goto C dX6_fail_179 (tgt := 158) (by decide) ?_
      refine zG_sub (L' := [(0, .ref (ad 0)), (3, .int (v3 + q_2035.1)), (4, .int q_2037)]) [2, 1, 0] rfl ?_
      exact ih q_2035.2 (v3 + q_2035.1) q_2037 h hk
def f_X6_fail (X : Nat → Nat → Int32) (v1 v2 : Int32) : Option (Int32 × (Nat → Nat → Int32)) := (if (f_X6_isHall X v1) = 0 then (zlet (f_X6_fails X (nI 1)) fun q_2047 => some (q_2047.1, q_2047.2)) else (if (f_X6_isDay v2) = 0 then (zlet (f_X6_fails X (nI 2)) fun q_3 => some (q_3.1, q_3.2)) else (if (X 1 (nI 0).toNatClampNeg) ≤ v2 then ((f_X6_hallAt X v1 (nI 3)).bind fun q_6 => (if q_6 = (-1 : Int32) then ((f_X6_remembers X).bind fun q_9 => (if (((nI 30) + ((nI 4) * v1)) + (nI 3)) < 0 ∨ 580 ≤ (((nI 30) + ((nI 4) * v1)) + (nI 3)).toNatClampNeg then none else (zlet (zU q_9 1 (((nI 30) + ((nI 4) * v1)) + (nI 3)).toNatClampNeg v2) fun X_12 => (zlet (zU X_12 1 (nI 6).toNatClampNeg (nI 0)) fun X_14 => (zlet (zU X_14 1 (nI 7).toNatClampNeg (nI 1)) fun X_16 => f_X6_fail_L89 (fun X_1031 => ((f_X6_nextOut X_1031).bind fun q_1032 => f_X6_fail_L158 (fun X_2040 v3_2039 => (zlet (f_X6_done X_2040 v3_2039) fun q_2041 => some (q_2041.1, q_2041.2))) zFuel X_1031 (nI 0) q_1032)) v1 v2 zFuel X_16 (nI 0)))))) else (zlet (f_X6_fails X (nI 3)) fun q_2043 => some (q_2043.1, q_2043.2)))) else (zlet (f_X6_fails X (nI 2)) fun q_2045 => some (q_2045.1, q_2045.2)))))
set_option maxRecDepth 100000 in
set_option maxHeartbeats 4000000 in
theorem c_X6_fail (l : Launch) (D : va_G) (cy : Nat → ClassId) (ad : Nat → Nat) (E : va_W) (X : Nat → Nat → Int32) (v1 v2 : Int32) {res : Int32 × (Nat → Nat → Int32)} (h : f_X6_fail X v1 v2 = some res) : zMi l yX6_fail cX6_fail 5 (some .int) (zrm 10) D (zTy cy) (zW cy ad shM E X) [.ref (ad 0), .int v1, .int v2] res.1 (zW cy ad shM E res.2) := by
  refine zMi.of (by decide) (Nat.le_of_ble_eq_true rfl) ?_
  intro p e s m below meth c A C hr
  unfold f_X6_fail at h
  refine zG_L (L' := [(0, .ref (ad 0)), (1, .int v1), (2, .int v2)]) rfl ?_
  refine g_aload_n (j := 0) C dX6_fail_0 rfl rfl ?_
  refine g_iload_n (j := 1) C dX6_fail_1 rfl rfl ?_
  refine g_vi (ws' := (zW cy ad shM E X)) (As := [.int v1]) (rest := []) (res := (f_X6_isHall X v1)) C (c_X6_isHall l D cy ad E X v1) zml_RX6_104 zcv_X6_isHall (zW_get X sM_0) rfl rfl rfl ⟨Nat.le_of_ble_eq_true rfl, Nat.le_of_ble_eq_true rfl⟩ rfl rfl (Nat.le_of_ble_eq_true rfl) ⟨Nat.zero_le _, Nat.zero_le _⟩ dX6_fail_2 ?_
  refine g_if_ne C dX6_fail_5 (tgt := 14) (by decide) (fun hc_1 => ?_) (fun hc_1 => ?_)
  · replace h := (if_neg hc_1).symm.trans h
    refine g_iload_n (j := 2) C dX6_fail_14 rfl rfl ?_
    refine g_si (ws' := (zW cy ad shM E X)) (As := [.int v2]) (rest := []) (res := (f_X6_isDay v2)) C (c_X6_isDay l D cy (zW cy ad shM E X) v2) zml_RX6_74 zcs_X6_isDay rfl rfl ⟨Nat.le_of_ble_eq_true rfl, Nat.le_of_ble_eq_true rfl⟩ rfl rfl (Nat.le_of_ble_eq_true rfl) ⟨Nat.zero_le _, Nat.zero_le _⟩ dX6_fail_15 ?_
    refine g_if_eq C dX6_fail_18 (tgt := 31) (by decide) (fun hc_2 => ?_) (fun hc_2 => ?_)
    · replace h := (if_pos hc_2).symm.trans h
      refine g_aload_n (j := 0) C dX6_fail_31 rfl rfl ?_
      refine g_iconst (v := (nI 2)) C dX6_fail_32 (by decide) ?_
      obtain ⟨q_3, e_4, h⟩ := zlet_ex h
      refine g_vi (ws' := (zW cy ad shM E q_3.2)) (As := [.int (nI 2)]) (rest := []) (res := q_3.1) C ((by rw [e_4]; exact c_X6_fails l D cy ad E X (nI 2))) zml_RX6_45 zcv_X6_fails (zW_get X sM_0) rfl rfl rfl ⟨Nat.le_of_ble_eq_true rfl, Nat.le_of_ble_eq_true rfl⟩ rfl rfl (Nat.le_of_ble_eq_true rfl) ⟨Nat.zero_le _, Nat.zero_le _⟩ dX6_fail_33 ?_
      obtain rfl := Option.some.inj h
      exact g_iret rfl C hr rfl dX6_fail_36
    · replace h := (if_neg hc_2).symm.trans h
      refine g_iload_n (j := 2) C dX6_fail_21 rfl rfl ?_
      refine g_aload_n (j := 0) C dX6_fail_22 rfl rfl ?_
      refine g_getr (k := 1) (N := 27) C sM_0 rfl zin_RX6 (by decide) rfl zfl_RX6_9 rfl dX6_fail_23 ?_
      refine g_iconst (v := (nI 0)) C dX6_fail_26 (by decide) ?_
      refine g_iald C sM_1 (by decide) dX6_fail_27 ?_
      refine g_icmp_ge C dX6_fail_28 (tgt := 37) (by decide) (fun hc_5 => ?_) (fun hc_5 => ?_)
      · replace h := (if_pos hc_5).symm.trans h
        refine g_aload_n (j := 0) C dX6_fail_37 rfl rfl ?_
        refine g_iload_n (j := 1) C dX6_fail_38 rfl rfl ?_
        refine g_iconst (v := (nI 3)) C dX6_fail_39 (by decide) ?_
        obtain ⟨q_6, hq_7, h⟩ := bind_isome h
        refine g_vi (ws' := (zW cy ad shM E X)) (As := [.int v1, .int (nI 3)]) (rest := []) (res := q_6) C (c_X6_hallAt l D cy ad E X v1 (nI 3) hq_7) zml_RX6_95 zcv_X6_hallAt (zW_get X sM_0) rfl rfl rfl ⟨Nat.le_of_ble_eq_true rfl, Nat.le_of_ble_eq_true rfl⟩ rfl rfl (Nat.le_of_ble_eq_true rfl) ⟨Nat.zero_le _, Nat.zero_le _⟩ dX6_fail_40 ?_
        refine g_iconst (v := (-1 : Int32)) C dX6_fail_43 (by decide) ?_
        refine g_icmp_eq C dX6_fail_44 (tgt := 53) (by decide) (fun hc_8 => ?_) (fun hc_8 => ?_)
        · replace h := (if_pos hc_8).symm.trans h
          refine g_aload_n (j := 0) C dX6_fail_53 rfl rfl ?_
          obtain ⟨q_9, hq_10, h⟩ := bind_isome h
          refine g_vv (ws' := (zW cy ad shM E q_9)) (As := []) (rest := []) C (c_X6_remembers l D cy ad E X hq_10) zml_RX6_68 zcv_X6_remembers (zW_get X sM_0) rfl rfl rfl ⟨Nat.le_of_ble_eq_true rfl, Nat.le_of_ble_eq_true rfl⟩ rfl rfl (Nat.le_of_ble_eq_true rfl) ⟨Nat.zero_le _, Nat.zero_le _⟩ dX6_fail_54 ?_
          refine g_aload_n (j := 0) C dX6_fail_57 rfl rfl ?_
          refine g_getr (k := 1) (N := 27) C sM_0 rfl zin_RX6 (by decide) rfl zfl_RX6_9 rfl dX6_fail_58 ?_
          refine g_bipush (v := (nI 30)) C dX6_fail_61 (by decide) ?_
          refine g_iconst (v := (nI 4)) C dX6_fail_63 (by decide) ?_
          refine g_iload_n (j := 1) C dX6_fail_64 rfl rfl ?_
          refine g_imul C dX6_fail_65 ?_
          refine g_iadd C dX6_fail_66 ?_
          refine g_iconst (v := (nI 3)) C dX6_fail_67 (by decide) ?_
          refine g_iadd C dX6_fail_68 ?_
          refine g_iload_n (j := 2) C dX6_fail_69 rfl rfl ?_
          obtain ⟨hi_11, h⟩ := ite_inone h
          refine g_iast C sM_1 hi_11 dX6_fail_70 ?_
          obtain ⟨X_12, e_13, h⟩ := zlet_ex h
          rw [← e_13]
          refine g_aload_n (j := 0) C dX6_fail_71 rfl rfl ?_
          refine g_getr (k := 1) (N := 27) C sM_0 rfl zin_RX6 (by decide) rfl zfl_RX6_9 rfl dX6_fail_72 ?_
          refine g_bipush (v := (nI 6)) C dX6_fail_75 (by decide) ?_
          refine g_iconst (v := (nI 0)) C dX6_fail_77 (by decide) ?_
          refine g_iast C sM_1 (by decide) dX6_fail_78 ?_
          obtain ⟨X_14, e_15, h⟩ := zlet_ex h
          rw [← e_15]
          refine g_aload_n (j := 0) C dX6_fail_79 rfl rfl ?_
          refine g_getr (k := 1) (N := 27) C sM_0 rfl zin_RX6 (by decide) rfl zfl_RX6_9 rfl dX6_fail_80 ?_
          refine g_bipush (v := (nI 7)) C dX6_fail_83 (by decide) ?_
          refine g_iconst (v := (nI 1)) C dX6_fail_85 (by decide) ?_
          refine g_iast C sM_1 (by decide) dX6_fail_86 ?_
          obtain ⟨X_16, e_17, h⟩ := zlet_ex h
          rw [← e_17]
          refine g_iconst (v := (nI 0)) C dX6_fail_87 (by decide) ?_
          refine g_istore_n (L' := [(3, .int (nI 0)), (0, .ref (ad 0)), (1, .int v1), (2, .int v2)]) C dX6_fail_88 rfl (by decide) rfl ?_
          refine zG_sub (L' := [(0, .ref (ad 0)), (1, .int v1), (2, .int v2), (3, .int (nI 0))]) [1, 2, 3, 0] rfl ?_
          refine w_X6_fail_L89 l D cy ad E _ v1 v2 C hr zFuel X_16 (nI 0) h ?_
          intro X_1031 h
          refine g_iconst (v := (nI 0)) C dX6_fail_150 (by decide) ?_
          refine g_istore_n (L' := [(3, .int (nI 0)), (0, .ref (ad 0))]) C dX6_fail_151 rfl (by decide) rfl ?_
          refine g_aload_n (j := 1) C dX6_fail_152 rfl rfl ?_
          obtain ⟨q_1032, hq_1033, h⟩ := bind_isome h
          refine g_vi (ws' := (zW cy ad shM E X_1031)) (As := []) (rest := []) (res := q_1032) C (c_X6_nextOut l D cy ad E X_1031 hq_1033) zml_RX6_224 zcv_X6_nextOut (zW_get X_1031 sM_0) rfl rfl rfl ⟨Nat.le_of_ble_eq_true rfl, Nat.le_of_ble_eq_true rfl⟩ rfl rfl (Nat.le_of_ble_eq_true rfl) ⟨Nat.zero_le _, Nat.zero_le _⟩ dX6_fail_153 ?_
          refine g_istore (L' := [(4, .int q_1032), (3, .int (nI 0)), (0, .ref (ad 0))]) C dX6_fail_156 (by decide) rfl ?_
          refine zG_sub (L' := [(0, .ref (ad 0)), (3, .int (nI 0)), (4, .int q_1032)]) [2, 1, 0] rfl ?_
          refine w_X6_fail_L158 l D cy ad E _ C hr zFuel X_1031 (nI 0) q_1032 h ?_
          intro X_2040 v3_2039 h
          refine g_aload_n (j := 0) C dX6_fail_182 rfl rfl ?_
          refine g_iload_n (j := 1) C dX6_fail_183 rfl rfl ?_
          obtain ⟨q_2041, e_2042, h⟩ := zlet_ex h
          refine g_vi (ws' := (zW cy ad shM E q_2041.2)) (As := [.int v3_2039]) (rest := []) (res := q_2041.1) C ((by rw [e_2042]; exact c_X6_done l D cy ad E X_2040 v3_2039)) zml_RX6_71 zcv_X6_done (zW_get X_2040 sM_0) rfl rfl rfl ⟨Nat.le_of_ble_eq_true rfl, Nat.le_of_ble_eq_true rfl⟩ rfl rfl (Nat.le_of_ble_eq_true rfl) ⟨Nat.zero_le _, Nat.zero_le _⟩ dX6_fail_184 ?_
          obtain rfl := Option.some.inj h
          exact g_iret rfl C hr rfl dX6_fail_187
        · replace h := (if_neg hc_8).symm.trans h
          refine g_aload_n (j := 0) C dX6_fail_47 rfl rfl ?_
          refine g_iconst (v := (nI 3)) C dX6_fail_48 (by decide) ?_
          obtain ⟨q_2043, e_2044, h⟩ := zlet_ex h
          refine g_vi (ws' := (zW cy ad shM E q_2043.2)) (As := [.int (nI 3)]) (rest := []) (res := q_2043.1) C ((by rw [e_2044]; exact c_X6_fails l D cy ad E X (nI 3))) zml_RX6_45 zcv_X6_fails (zW_get X sM_0) rfl rfl rfl ⟨Nat.le_of_ble_eq_true rfl, Nat.le_of_ble_eq_true rfl⟩ rfl rfl (Nat.le_of_ble_eq_true rfl) ⟨Nat.zero_le _, Nat.zero_le _⟩ dX6_fail_49 ?_
          obtain rfl := Option.some.inj h
          exact g_iret rfl C hr rfl dX6_fail_52
      · replace h := (if_neg hc_5).symm.trans h
        refine g_aload_n (j := 0) C dX6_fail_31 rfl rfl ?_
        refine g_iconst (v := (nI 2)) C dX6_fail_32 (by decide) ?_
        obtain ⟨q_2045, e_2046, h⟩ := zlet_ex h
        refine g_vi (ws' := (zW cy ad shM E q_2045.2)) (As := [.int (nI 2)]) (rest := []) (res := q_2045.1) C ((by rw [e_2046]; exact c_X6_fails l D cy ad E X (nI 2))) zml_RX6_45 zcv_X6_fails (zW_get X sM_0) rfl rfl rfl ⟨Nat.le_of_ble_eq_true rfl, Nat.le_of_ble_eq_true rfl⟩ rfl rfl (Nat.le_of_ble_eq_true rfl) ⟨Nat.zero_le _, Nat.zero_le _⟩ dX6_fail_33 ?_
        obtain rfl := Option.some.inj h
        exact g_iret rfl C hr rfl dX6_fail_36
  · replace h := (if_pos hc_1).symm.trans h
    refine g_aload_n (j := 0) C dX6_fail_8 rfl rfl ?_
    refine g_iconst (v := (nI 1)) C dX6_fail_9 (by decide) ?_
    obtain ⟨q_2047, e_2048, h⟩ := zlet_ex h
    refine g_vi (ws' := (zW cy ad shM E q_2047.2)) (As := [.int (nI 1)]) (rest := []) (res := q_2047.1) C ((by rw [e_2048]; exact c_X6_fails l D cy ad E X (nI 1))) zml_RX6_45 zcv_X6_fails (zW_get X sM_0) rfl rfl rfl ⟨Nat.le_of_ble_eq_true rfl, Nat.le_of_ble_eq_true rfl⟩ rfl rfl (Nat.le_of_ble_eq_true rfl) ⟨Nat.zero_le _, Nat.zero_le _⟩ dX6_fail_10 ?_
    obtain rfl := Option.some.inj h
    exact g_iret rfl C hr rfl dX6_fail_13
def f_X6_reopen (X : Nat → Nat → Int32) (v1 : Int32) : Option (Int32 × (Nat → Nat → Int32)) := (if (f_X6_isHall X v1) = 0 then (zlet (f_X6_fails X (nI 1)) fun q_16 => some (q_16.1, q_16.2)) else ((f_X6_hallAt X v1 (nI 3)).bind fun q_2 => (if q_2 = (-1 : Int32) then (zlet (f_X6_fails X (nI 2)) fun q_14 => some (q_14.1, q_14.2)) else ((f_X6_remembers X).bind fun q_5 => ((f_X6_hallAt q_5 v1 (nI 3)).bind fun q_7 => (if (((nI 30) + ((nI 4) * v1)) + (nI 3)) < 0 ∨ 580 ≤ (((nI 30) + ((nI 4) * v1)) + (nI 3)).toNatClampNeg then none else (zlet (zU q_5 1 (((nI 30) + ((nI 4) * v1)) + (nI 3)).toNatClampNeg (-1 : Int32)) fun X_10 => (zlet (f_X6_done X_10 q_7) fun q_12 => some (q_12.1, q_12.2)))))))))
set_option maxRecDepth 100000 in
set_option maxHeartbeats 4000000 in
theorem c_X6_reopen (l : Launch) (D : va_G) (cy : Nat → ClassId) (ad : Nat → Nat) (E : va_W) (X : Nat → Nat → Int32) (v1 : Int32) {res : Int32 × (Nat → Nat → Int32)} (h : f_X6_reopen X v1 = some res) : zMi l yX6_reopen cX6_reopen 3 (some .int) (zrm 4) D (zTy cy) (zW cy ad shM E X) [.ref (ad 0), .int v1] res.1 (zW cy ad shM E res.2) := by
  refine zMi.of (by decide) (Nat.le_of_ble_eq_true rfl) ?_
  intro p e s m below meth c A C hr
  unfold f_X6_reopen at h
  refine zG_L (L' := [(0, .ref (ad 0)), (1, .int v1)]) rfl ?_
  refine g_aload_n (j := 0) C dX6_reopen_0 rfl rfl ?_
  refine g_iload_n (j := 1) C dX6_reopen_1 rfl rfl ?_
  refine g_vi (ws' := (zW cy ad shM E X)) (As := [.int v1]) (rest := []) (res := (f_X6_isHall X v1)) C (c_X6_isHall l D cy ad E X v1) zml_RX6_104 zcv_X6_isHall (zW_get X sM_0) rfl rfl rfl ⟨Nat.le_of_ble_eq_true rfl, Nat.le_of_ble_eq_true rfl⟩ rfl rfl (Nat.le_of_ble_eq_true rfl) ⟨Nat.zero_le _, Nat.zero_le _⟩ dX6_reopen_2 ?_
  refine g_if_ne C dX6_reopen_5 (tgt := 14) (by decide) (fun hc_1 => ?_) (fun hc_1 => ?_)
  · replace h := (if_neg hc_1).symm.trans h
    refine g_aload_n (j := 0) C dX6_reopen_14 rfl rfl ?_
    refine g_iload_n (j := 1) C dX6_reopen_15 rfl rfl ?_
    refine g_iconst (v := (nI 3)) C dX6_reopen_16 (by decide) ?_
    obtain ⟨q_2, hq_3, h⟩ := bind_isome h
    refine g_vi (ws' := (zW cy ad shM E X)) (As := [.int v1, .int (nI 3)]) (rest := []) (res := q_2) C (c_X6_hallAt l D cy ad E X v1 (nI 3) hq_3) zml_RX6_95 zcv_X6_hallAt (zW_get X sM_0) rfl rfl rfl ⟨Nat.le_of_ble_eq_true rfl, Nat.le_of_ble_eq_true rfl⟩ rfl rfl (Nat.le_of_ble_eq_true rfl) ⟨Nat.zero_le _, Nat.zero_le _⟩ dX6_reopen_17 ?_
    refine g_iconst (v := (-1 : Int32)) C dX6_reopen_20 (by decide) ?_
    refine g_icmp_ne C dX6_reopen_21 (tgt := 30) (by decide) (fun hc_4 => ?_) (fun hc_4 => ?_)
    · replace h := (if_neg hc_4).symm.trans h
      refine g_aload_n (j := 0) C dX6_reopen_30 rfl rfl ?_
      obtain ⟨q_5, hq_6, h⟩ := bind_isome h
      refine g_vv (ws' := (zW cy ad shM E q_5)) (As := []) (rest := []) C (c_X6_remembers l D cy ad E X hq_6) zml_RX6_68 zcv_X6_remembers (zW_get X sM_0) rfl rfl rfl ⟨Nat.le_of_ble_eq_true rfl, Nat.le_of_ble_eq_true rfl⟩ rfl rfl (Nat.le_of_ble_eq_true rfl) ⟨Nat.zero_le _, Nat.zero_le _⟩ dX6_reopen_31 ?_
      refine g_aload_n (j := 0) C dX6_reopen_34 rfl rfl ?_
      refine g_iload_n (j := 1) C dX6_reopen_35 rfl rfl ?_
      refine g_iconst (v := (nI 3)) C dX6_reopen_36 (by decide) ?_
      obtain ⟨q_7, hq_8, h⟩ := bind_isome h
      refine g_vi (ws' := (zW cy ad shM E q_5)) (As := [.int v1, .int (nI 3)]) (rest := []) (res := q_7) C (c_X6_hallAt l D cy ad E q_5 v1 (nI 3) hq_8) zml_RX6_95 zcv_X6_hallAt (zW_get q_5 sM_0) rfl rfl rfl ⟨Nat.le_of_ble_eq_true rfl, Nat.le_of_ble_eq_true rfl⟩ rfl rfl (Nat.le_of_ble_eq_true rfl) ⟨Nat.zero_le _, Nat.zero_le _⟩ dX6_reopen_37 ?_
      refine g_istore_n (L' := [(2, .int q_7), (0, .ref (ad 0)), (1, .int v1)]) C dX6_reopen_40 rfl (by decide) rfl ?_
      refine g_aload_n (j := 1) C dX6_reopen_41 rfl rfl ?_
      refine g_getr (k := 1) (N := 27) C sM_0 rfl zin_RX6 (by decide) rfl zfl_RX6_9 rfl dX6_reopen_42 ?_
      refine g_bipush (v := (nI 30)) C dX6_reopen_45 (by decide) ?_
      refine g_iconst (v := (nI 4)) C dX6_reopen_47 (by decide) ?_
      refine g_iload_n (j := 2) C dX6_reopen_48 rfl rfl ?_
      refine g_imul C dX6_reopen_49 ?_
      refine g_iadd C dX6_reopen_50 ?_
      refine g_iconst (v := (nI 3)) C dX6_reopen_51 (by decide) ?_
      refine g_iadd C dX6_reopen_52 ?_
      refine g_iconst (v := (-1 : Int32)) C dX6_reopen_53 (by decide) ?_
      obtain ⟨hi_9, h⟩ := ite_inone h
      refine g_iast C sM_1 hi_9 dX6_reopen_54 ?_
      obtain ⟨X_10, e_11, h⟩ := zlet_ex h
      rw [← e_11]
      refine g_aload_n (j := 1) C dX6_reopen_55 rfl rfl ?_
      refine g_iload_n (j := 0) C dX6_reopen_56 rfl rfl ?_
      obtain ⟨q_12, e_13, h⟩ := zlet_ex h
      refine g_vi (ws' := (zW cy ad shM E q_12.2)) (As := [.int q_7]) (rest := []) (res := q_12.1) C ((by rw [e_13]; exact c_X6_done l D cy ad E X_10 q_7)) zml_RX6_71 zcv_X6_done (zW_get X_10 sM_0) rfl rfl rfl ⟨Nat.le_of_ble_eq_true rfl, Nat.le_of_ble_eq_true rfl⟩ rfl rfl (Nat.le_of_ble_eq_true rfl) ⟨Nat.zero_le _, Nat.zero_le _⟩ dX6_reopen_57 ?_
      obtain rfl := Option.some.inj h
      exact g_iret rfl C hr rfl dX6_reopen_60
    · replace h := (if_pos hc_4).symm.trans h
      refine g_aload_n (j := 0) C dX6_reopen_24 rfl rfl ?_
      refine g_iconst (v := (nI 2)) C dX6_reopen_25 (by decide) ?_
      obtain ⟨q_14, e_15, h⟩ := zlet_ex h
      refine g_vi (ws' := (zW cy ad shM E q_14.2)) (As := [.int (nI 2)]) (rest := []) (res := q_14.1) C ((by rw [e_15]; exact c_X6_fails l D cy ad E X (nI 2))) zml_RX6_45 zcv_X6_fails (zW_get X sM_0) rfl rfl rfl ⟨Nat.le_of_ble_eq_true rfl, Nat.le_of_ble_eq_true rfl⟩ rfl rfl (Nat.le_of_ble_eq_true rfl) ⟨Nat.zero_le _, Nat.zero_le _⟩ dX6_reopen_26 ?_
      obtain rfl := Option.some.inj h
      exact g_iret rfl C hr rfl dX6_reopen_29
  · replace h := (if_pos hc_1).symm.trans h
    refine g_aload_n (j := 0) C dX6_reopen_8 rfl rfl ?_
    refine g_iconst (v := (nI 1)) C dX6_reopen_9 (by decide) ?_
    obtain ⟨q_16, e_17, h⟩ := zlet_ex h
    refine g_vi (ws' := (zW cy ad shM E q_16.2)) (As := [.int (nI 1)]) (rest := []) (res := q_16.1) C ((by rw [e_17]; exact c_X6_fails l D cy ad E X (nI 1))) zml_RX6_45 zcv_X6_fails (zW_get X sM_0) rfl rfl rfl ⟨Nat.le_of_ble_eq_true rfl, Nat.le_of_ble_eq_true rfl⟩ rfl rfl (Nat.le_of_ble_eq_true rfl) ⟨Nat.zero_le _, Nat.zero_le _⟩ dX6_reopen_10 ?_
    obtain rfl := Option.some.inj h
    exact g_iret rfl C hr rfl dX6_reopen_13
def f_X6_line (X : Nat → Nat → Int32) (v1 v2 : Int32) : Option (Int32 × (Nat → Nat → Int32)) := (if (X 1 (nI 7).toNatClampNeg) = 0 then (zlet (f_X6_fails X (nI 1)) fun q_2 => some (q_2.1, q_2.2)) else (if (f_X6_in v1 (nI 0) ((X 1 (nI 6).toNatClampNeg) - (nI 1))) = 0 then (zlet (f_X6_fails X (nI 1)) fun q_11 => some (q_11.1, q_11.2)) else (if (f_X6_in v2 (nI 0) (nI 4)) = 0 then (zlet (f_X6_fails X (nI 2)) fun q_6 => some (q_6.1, q_6.2)) else (if (((nI 428) + ((nI 5) * v1)) + v2) < 0 ∨ 580 ≤ (((nI 428) + ((nI 5) * v1)) + v2).toNatClampNeg then none else (zlet (f_X6_done X (X 1 (((nI 428) + ((nI 5) * v1)) + v2).toNatClampNeg)) fun q_9 => some (q_9.1, q_9.2))))))
set_option maxRecDepth 100000 in
set_option maxHeartbeats 4000000 in
theorem c_X6_line (l : Launch) (D : va_G) (cy : Nat → ClassId) (ad : Nat → Nat) (E : va_W) (X : Nat → Nat → Int32) (v1 v2 : Int32) {res : Int32 × (Nat → Nat → Int32)} (h : f_X6_line X v1 v2 = some res) : zMi l yX6_line cX6_line 3 (some .int) (zrm 2) D (zTy cy) (zW cy ad shM E X) [.ref (ad 0), .int v1, .int v2] res.1 (zW cy ad shM E res.2) := by
  refine zMi.of (by decide) (Nat.le_of_ble_eq_true rfl) ?_
  intro p e s m below meth c A C hr
  unfold f_X6_line at h
  refine zG_L (L' := [(0, .ref (ad 0)), (1, .int v1), (2, .int v2)]) rfl ?_
  refine g_aload_n (j := 0) C dX6_line_0 rfl rfl ?_
  refine g_getr (k := 1) (N := 27) C sM_0 rfl zin_RX6 (by decide) rfl zfl_RX6_9 rfl dX6_line_1 ?_
  refine g_bipush (v := (nI 7)) C dX6_line_4 (by decide) ?_
  refine g_iald C sM_1 (by decide) dX6_line_6 ?_
  refine g_if_eq C dX6_line_7 (tgt := 27) (by decide) (fun hc_1 => ?_) (fun hc_1 => ?_)
  · replace h := (if_pos hc_1).symm.trans h
    refine g_aload_n (j := 0) C dX6_line_27 rfl rfl ?_
    refine g_iconst (v := (nI 1)) C dX6_line_28 (by decide) ?_
    obtain ⟨q_2, e_3, h⟩ := zlet_ex h
    refine g_vi (ws' := (zW cy ad shM E q_2.2)) (As := [.int (nI 1)]) (rest := []) (res := q_2.1) C ((by rw [e_3]; exact c_X6_fails l D cy ad E X (nI 1))) zml_RX6_45 zcv_X6_fails (zW_get X sM_0) rfl rfl rfl ⟨Nat.le_of_ble_eq_true rfl, Nat.le_of_ble_eq_true rfl⟩ rfl rfl (Nat.le_of_ble_eq_true rfl) ⟨Nat.zero_le _, Nat.zero_le _⟩ dX6_line_29 ?_
    obtain rfl := Option.some.inj h
    exact g_iret rfl C hr rfl dX6_line_32
  · replace h := (if_neg hc_1).symm.trans h
    refine g_iload_n (j := 1) C dX6_line_10 rfl rfl ?_
    refine g_iconst (v := (nI 0)) C dX6_line_11 (by decide) ?_
    refine g_aload_n (j := 0) C dX6_line_12 rfl rfl ?_
    refine g_getr (k := 1) (N := 27) C sM_0 rfl zin_RX6 (by decide) rfl zfl_RX6_9 rfl dX6_line_13 ?_
    refine g_bipush (v := (nI 6)) C dX6_line_16 (by decide) ?_
    refine g_iald C sM_1 (by decide) dX6_line_18 ?_
    refine g_iconst (v := (nI 1)) C dX6_line_19 (by decide) ?_
    refine g_isub C dX6_line_20 ?_
    refine g_si (ws' := (zW cy ad shM E X)) (As := [.int v1, .int (nI 0), .int ((X 1 (nI 6).toNatClampNeg) - (nI 1))]) (rest := []) (res := (f_X6_in v1 (nI 0) ((X 1 (nI 6).toNatClampNeg) - (nI 1)))) C (c_X6_in l D cy (zW cy ad shM E X) v1 (nI 0) ((X 1 (nI 6).toNatClampNeg) - (nI 1))) zml_RX6_64 zcs_X6_in rfl rfl ⟨Nat.le_of_ble_eq_true rfl, Nat.le_of_ble_eq_true rfl⟩ rfl rfl (Nat.le_of_ble_eq_true rfl) ⟨Nat.zero_le _, Nat.zero_le _⟩ dX6_line_21 ?_
    refine g_if_ne C dX6_line_24 (tgt := 33) (by decide) (fun hc_4 => ?_) (fun hc_4 => ?_)
    · replace h := (if_neg hc_4).symm.trans h
      refine g_iload_n (j := 2) C dX6_line_33 rfl rfl ?_
      refine g_iconst (v := (nI 0)) C dX6_line_34 (by decide) ?_
      refine g_iconst (v := (nI 4)) C dX6_line_35 (by decide) ?_
      refine g_si (ws' := (zW cy ad shM E X)) (As := [.int v2, .int (nI 0), .int (nI 4)]) (rest := []) (res := (f_X6_in v2 (nI 0) (nI 4))) C (c_X6_in l D cy (zW cy ad shM E X) v2 (nI 0) (nI 4)) zml_RX6_64 zcs_X6_in rfl rfl ⟨Nat.le_of_ble_eq_true rfl, Nat.le_of_ble_eq_true rfl⟩ rfl rfl (Nat.le_of_ble_eq_true rfl) ⟨Nat.zero_le _, Nat.zero_le _⟩ dX6_line_36 ?_
      refine g_if_eq C dX6_line_39 (tgt := 63) (by decide) (fun hc_5 => ?_) (fun hc_5 => ?_)
      · replace h := (if_pos hc_5).symm.trans h
        refine g_aload_n (j := 0) C dX6_line_63 rfl rfl ?_
        refine g_iconst (v := (nI 2)) C dX6_line_64 (by decide) ?_
        obtain ⟨q_6, e_7, h⟩ := zlet_ex h
        refine g_vi (ws' := (zW cy ad shM E q_6.2)) (As := [.int (nI 2)]) (rest := []) (res := q_6.1) C ((by rw [e_7]; exact c_X6_fails l D cy ad E X (nI 2))) zml_RX6_45 zcv_X6_fails (zW_get X sM_0) rfl rfl rfl ⟨Nat.le_of_ble_eq_true rfl, Nat.le_of_ble_eq_true rfl⟩ rfl rfl (Nat.le_of_ble_eq_true rfl) ⟨Nat.zero_le _, Nat.zero_le _⟩ dX6_line_65 ?_
        obtain rfl := Option.some.inj h
        exact g_iret rfl C hr rfl dX6_line_68
      · replace h := (if_neg hc_5).symm.trans h
        refine g_aload_n (j := 0) C dX6_line_42 rfl rfl ?_
        refine g_aload_n (j := 0) C dX6_line_43 rfl rfl ?_
        refine g_getr (k := 1) (N := 27) C sM_0 rfl zin_RX6 (by decide) rfl zfl_RX6_9 rfl dX6_line_44 ?_
        refine g_sipush (v := (nI 428)) C dX6_line_47 (by decide) ?_
        refine g_iconst (v := (nI 5)) C dX6_line_50 (by decide) ?_
        refine g_iload_n (j := 1) C dX6_line_51 rfl rfl ?_
        refine g_imul C dX6_line_52 ?_
        refine g_iadd C dX6_line_53 ?_
        refine g_iload_n (j := 2) C dX6_line_54 rfl rfl ?_
        refine g_iadd C dX6_line_55 ?_
        obtain ⟨hi_8, h⟩ := ite_inone h
        refine g_iald C sM_1 hi_8 dX6_line_56 ?_
        obtain ⟨q_9, e_10, h⟩ := zlet_ex h
        refine g_vi (ws' := (zW cy ad shM E q_9.2)) (As := [.int (X 1 (((nI 428) + ((nI 5) * v1)) + v2).toNatClampNeg)]) (rest := []) (res := q_9.1) C ((by rw [e_10]; exact c_X6_done l D cy ad E X (X 1 (((nI 428) + ((nI 5) * v1)) + v2).toNatClampNeg))) zml_RX6_71 zcv_X6_done (zW_get X sM_0) rfl rfl rfl ⟨Nat.le_of_ble_eq_true rfl, Nat.le_of_ble_eq_true rfl⟩ rfl rfl (Nat.le_of_ble_eq_true rfl) ⟨Nat.zero_le _, Nat.zero_le _⟩ dX6_line_57 ?_
        refine g_goto C dX6_line_60 (tgt := 68) (by decide) ?_
        obtain rfl := Option.some.inj h
        exact g_iret rfl C hr rfl dX6_line_68
    · replace h := (if_pos hc_4).symm.trans h
      refine g_aload_n (j := 0) C dX6_line_27 rfl rfl ?_
      refine g_iconst (v := (nI 1)) C dX6_line_28 (by decide) ?_
      obtain ⟨q_11, e_12, h⟩ := zlet_ex h
      refine g_vi (ws' := (zW cy ad shM E q_11.2)) (As := [.int (nI 1)]) (rest := []) (res := q_11.1) C ((by rw [e_12]; exact c_X6_fails l D cy ad E X (nI 1))) zml_RX6_45 zcv_X6_fails (zW_get X sM_0) rfl rfl rfl ⟨Nat.le_of_ble_eq_true rfl, Nat.le_of_ble_eq_true rfl⟩ rfl rfl (Nat.le_of_ble_eq_true rfl) ⟨Nat.zero_le _, Nat.zero_le _⟩ dX6_line_29 ?_
      obtain rfl := Option.some.inj h
      exact g_iret rfl C hr rfl dX6_line_32
def f_X6_upTo (v0 : Int32) : Int32 := (if (nI 960) ≤ v0 then (nI 960) else v0)
set_option maxRecDepth 100000 in
set_option maxHeartbeats 4000000 in
theorem c_X6_upTo (l : Launch) (D : va_G) (cy : Nat → ClassId) (ws : va_W) (v0 : Int32) : zMi l yX6_upTo cX6_upTo 1 (some .int) (zrm 1) D (zTy cy) ws [.int v0] (f_X6_upTo v0) ws := by
  refine zMi.of (by decide) (Nat.le_of_ble_eq_true rfl) ?_
  intro p e s m below meth c A C hr
  generalize h : f_X6_upTo v0 = res
  unfold f_X6_upTo at h
  refine zG_L (L' := [(0, .int v0)]) rfl ?_
  refine g_iload_n (j := 0) C dX6_upTo_0 rfl rfl ?_
  refine g_sipush (v := (nI 960)) C dX6_upTo_1 (by decide) ?_
  refine g_icmp_ge C dX6_upTo_4 (tgt := 11) (by decide) (fun hc_1 => ?_) (fun hc_1 => ?_)
  · replace h := (if_pos hc_1).symm.trans h
    refine g_sipush (v := (nI 960)) C dX6_upTo_11 (by decide) ?_
    subst h
    exact g_iret rfl C hr rfl dX6_upTo_14
  · replace h := (if_neg hc_1).symm.trans h
    refine g_iload_n (j := 0) C dX6_upTo_7 rfl rfl ?_
    refine g_goto C dX6_upTo_8 (tgt := 14) (by decide) ?_
    subst h
    exact g_iret rfl C hr rfl dX6_upTo_14
def f_X6_used_L51 (k : Int32 → Int32 → Int32 → Int32 → Option (Int32 × (Nat → Nat → Int32))) (X : Nat → Nat → Int32) (v1 : Int32) (v2 : Int32) (v3 : Int32) : Nat → Int32 → Int32 → Int32 → Int32 → Int32 → Option (Int32 × (Nat → Nat → Int32))
  | 0, _, _, _, _, _ => none
  | fu + 1, v4, v5, v6, v7, v8 => (if (X 1 (nI 4).toNatClampNeg) ≤ v8 then k v4 v5 v6 v7 else ((f_X6_stands X v8).bind fun q_1007 => (if q_1007 = 0 then f_X6_used_L51 k X v1 v2 v3 fu v4 v5 v6 v7 (v8 + 1) else ((f_X6_showAt X v8 (nI 0)).bind fun q_1010 => (if q_1010 = v1 then ((f_X6_showAt X v8 (nI 2)).bind fun q_1013 => (if q_1013 = v2 then ((f_X6_minutesOf X v8).bind fun q_1016 => ((f_X6_endOf X v8).bind fun q_1018 => ((f_X6_cleanOf X v8).bind fun q_1020 => ((f_X6_endOf X v8).bind fun q_1022 => (if v6 = (-1 : Int32) then ((f_X6_showAt X v8 (nI 3)).bind fun q_1025 => ((f_X6_endOf X v8).bind fun q_1027 => (if q_1027 ≤ v7 then f_X6_used_L51 k X v1 v2 v3 fu (v4 + q_1016) (v5 + ((f_X6_upTo (q_1018 + q_1020)) - (f_X6_upTo q_1022))) q_1025 v7 (v8 + 1) else ((f_X6_endOf X v8).bind fun q_1030 => f_X6_used_L51 k X v1 v2 v3 fu (v4 + q_1016) (v5 + ((f_X6_upTo (q_1018 + q_1020)) - (f_X6_upTo q_1022))) q_1025 q_1030 (v8 + 1))))) else ((f_X6_showAt X v8 (nI 3)).bind fun q_1032 => (if v6 ≤ q_1032 then ((f_X6_endOf X v8).bind fun q_1035 => (if q_1035 ≤ v7 then f_X6_used_L51 k X v1 v2 v3 fu (v4 + q_1016) (v5 + ((f_X6_upTo (q_1018 + q_1020)) - (f_X6_upTo q_1022))) v6 v7 (v8 + 1) else ((f_X6_endOf X v8).bind fun q_1038 => f_X6_used_L51 k X v1 v2 v3 fu (v4 + q_1016) (v5 + ((f_X6_upTo (q_1018 + q_1020)) - (f_X6_upTo q_1022))) v6 q_1038 (v8 + 1)))) else ((f_X6_showAt X v8 (nI 3)).bind fun q_1040 => ((f_X6_endOf X v8).bind fun q_1042 => (if q_1042 ≤ v7 then f_X6_used_L51 k X v1 v2 v3 fu (v4 + q_1016) (v5 + ((f_X6_upTo (q_1018 + q_1020)) - (f_X6_upTo q_1022))) q_1040 v7 (v8 + 1) else ((f_X6_endOf X v8).bind fun q_1045 => f_X6_used_L51 k X v1 v2 v3 fu (v4 + q_1016) (v5 + ((f_X6_upTo (q_1018 + q_1020)) - (f_X6_upTo q_1022))) q_1040 q_1045 (v8 + 1)))))))))))) else f_X6_used_L51 k X v1 v2 v3 fu v4 v5 v6 v7 (v8 + 1))) else f_X6_used_L51 k X v1 v2 v3 fu v4 v5 v6 v7 (v8 + 1))))))
set_option maxRecDepth 100000 in
set_option maxHeartbeats 4000000 in
theorem w_X6_used_L51 {p : Program} {e : Env} {s : State} {m : MethodId} {args : Array Value} {below : List Frame} {meth : Method} {c : Code} {A : Nat → Prop} (l : Launch) (D : va_G) (cy : Nat → ClassId) (ad : Nat → Nat) (E : va_W) (k : Int32 → Int32 → Int32 → Int32 → Option (Int32 × (Nat → Nat → Int32))) (X : Nat → Nat → Int32) (v1 : Int32) (v2 : Int32) (v3 : Int32) {res : Int32 × (Nat → Nat → Int32)} (C : zC p s m args meth c cX6_used 9 RX6 D (zTy cy) A) (hr : meth.sig.returnType = (some .int)) : ∀ (fu : Nat) (v4 v5 v6 v7 v8 : Int32) (h : f_X6_used_L51 k X v1 v2 v3 fu v4 v5 v6 v7 v8 = some res) (hk : ∀ (v4 v5 v6 v7 : Int32), k v4 v5 v6 v7 = some res → zG p l e (zrm 4) s m args below meth c 9 D A 0 0 (MQ below (va_Qi (fun (r : Int32) (_ : Unit) => r = res.1) (fun _ t => zB D (zTy cy) A (zW cy ad shM E res.2) t) A) args s 0 0 A) (zW cy ad shM E X) 197 [(0, .ref (ad 0)), (3, .int v3), (4, .int v4), (5, .int v5), (6, .int v6), (7, .int v7)] []), zG p l e (zrm 4) s m args below meth c 9 D A 0 0 (MQ below (va_Qi (fun (r : Int32) (_ : Unit) => r = res.1) (fun _ t => zB D (zTy cy) A (zW cy ad shM E res.2) t) A) args s 0 0 A) (zW cy ad shM E X) 51 [(0, .ref (ad 0)), (1, .int v1), (2, .int v2), (3, .int v3), (4, .int v4), (5, .int v5), (6, .int v6), (7, .int v7), (8, .int v8)] [] := by
  intro fu
  induction fu with
  | zero => intro v4 v5 v6 v7 v8 h hk; simp [f_X6_used_L51] at h
  | succ fu ih =>
    intro v4 v5 v6 v7 v8 h hk
    rw [f_X6_used_L51] at h
    refine g_iload (j := 8) C dX6_used_51 rfl ?_
    refine g_aload_n (j := 0) C dX6_used_53 rfl rfl ?_
    refine g_getr (k := 1) (N := 27) C sM_0 rfl zin_RX6 (by decide) rfl zfl_RX6_9 rfl dX6_used_54 ?_
    refine g_iconst (v := (nI 4)) C dX6_used_57 (by decide) ?_
    refine g_iald C sM_1 (by decide) dX6_used_58 ?_
    refine g_icmp_ge C dX6_used_59 (tgt := 197) (by decide) (fun hc_1006 => ?_) (fun hc_1006 => ?_)
    · replace h := (if_pos hc_1006).symm.trans h
      refine zG_sub (L' := [(0, .ref (ad 0)), (3, .int v3), (4, .int v4), (5, .int v5), (6, .int v6), (7, .int v7)]) [0, 3, 4, 5, 6, 7] rfl ?_
      exact hk v4 v5 v6 v7 h
    · replace h := (if_neg hc_1006).symm.trans h
      refine g_aload_n (j := 0) C dX6_used_62 rfl rfl ?_
      refine g_iload (j := 8) C dX6_used_63 rfl ?_
      obtain ⟨q_1007, hq_1008, h⟩ := bind_isome h
      refine g_vi (ws' := (zW cy ad shM E X)) (As := [.int v8]) (rest := []) (res := q_1007) C (c_X6_stands l D cy ad E X v8 hq_1008) zml_RX6_107 zcv_X6_stands (zW_get X sM_0) rfl rfl rfl ⟨Nat.le_of_ble_eq_true rfl, Nat.le_of_ble_eq_true rfl⟩ rfl rfl (Nat.le_of_ble_eq_true rfl) ⟨Nat.zero_le _, Nat.zero_le _⟩ dX6_used_65 ?_
      refine g_if_eq C dX6_used_68 (tgt := 191) (by decide) (fun hc_1009 => ?_) (fun hc_1009 => ?_)
      · replace h := (if_pos hc_1009).symm.trans h
        refine g_iinc (k := 8) (L' := [(8, .int (v8 + 1)), (0, .ref (ad 0)), (1, .int v1), (2, .int v2), (3, .int v3), (4, .int v4), (5, .int v5), (6, .int v6), (7, .int v7)]) C dX6_used_191 rfl (z_iinc (by decide)) (by decide) rfl ?_
        refine g_goto C dX6_used_194 (tgt := 51) (by decide) ?_
        refine zG_sub (L' := [(0, .ref (ad 0)), (1, .int v1), (2, .int v2), (3, .int v3), (4, .int v4), (5, .int v5), (6, .int v6), (7, .int v7), (8, .int (v8 + 1))]) [1, 2, 3, 4, 5, 6, 7, 8, 0] rfl ?_
        exact ih v4 v5 v6 v7 (v8 + 1) h hk
      · replace h := (if_neg hc_1009).symm.trans h
        refine g_aload_n (j := 0) C dX6_used_71 rfl rfl ?_
        refine g_iload (j := 8) C dX6_used_72 rfl ?_
        refine g_iconst (v := (nI 0)) C dX6_used_74 (by decide) ?_
        obtain ⟨q_1010, hq_1011, h⟩ := bind_isome h
        refine g_vi (ws' := (zW cy ad shM E X)) (As := [.int v8, .int (nI 0)]) (rest := []) (res := q_1010) C (c_X6_showAt l D cy ad E X v8 (nI 0) hq_1011) zml_RX6_89 zcv_X6_showAt (zW_get X sM_0) rfl rfl rfl ⟨Nat.le_of_ble_eq_true rfl, Nat.le_of_ble_eq_true rfl⟩ rfl rfl (Nat.le_of_ble_eq_true rfl) ⟨Nat.zero_le _, Nat.zero_le _⟩ dX6_used_75 ?_
        refine g_iload_n (j := 1) C dX6_used_78 rfl rfl ?_
        refine g_icmp_ne C dX6_used_79 (tgt := 191) (by decide) (fun hc_1012 => ?_) (fun hc_1012 => ?_)
        · replace h := (if_neg hc_1012).symm.trans h
          refine g_iinc (k := 8) (L' := [(8, .int (v8 + 1)), (0, .ref (ad 0)), (1, .int v1), (2, .int v2), (3, .int v3), (4, .int v4), (5, .int v5), (6, .int v6), (7, .int v7)]) C dX6_used_191 rfl (z_iinc (by decide)) (by decide) rfl ?_
          refine g_goto C dX6_used_194 (tgt := 51) (by decide) ?_
          refine zG_sub (L' := [(0, .ref (ad 0)), (1, .int v1), (2, .int v2), (3, .int v3), (4, .int v4), (5, .int v5), (6, .int v6), (7, .int v7), (8, .int (v8 + 1))]) [1, 2, 3, 4, 5, 6, 7, 8, 0] rfl ?_
          exact ih v4 v5 v6 v7 (v8 + 1) h hk
        · replace h := (if_pos hc_1012).symm.trans h
          refine g_aload_n (j := 0) C dX6_used_82 rfl rfl ?_
          refine g_iload (j := 8) C dX6_used_83 rfl ?_
          refine g_iconst (v := (nI 2)) C dX6_used_85 (by decide) ?_
          obtain ⟨q_1013, hq_1014, h⟩ := bind_isome h
          refine g_vi (ws' := (zW cy ad shM E X)) (As := [.int v8, .int (nI 2)]) (rest := []) (res := q_1013) C (c_X6_showAt l D cy ad E X v8 (nI 2) hq_1014) zml_RX6_89 zcv_X6_showAt (zW_get X sM_0) rfl rfl rfl ⟨Nat.le_of_ble_eq_true rfl, Nat.le_of_ble_eq_true rfl⟩ rfl rfl (Nat.le_of_ble_eq_true rfl) ⟨Nat.zero_le _, Nat.zero_le _⟩ dX6_used_86 ?_
          refine g_iload_n (j := 2) C dX6_used_89 rfl rfl ?_
          refine g_icmp_ne C dX6_used_90 (tgt := 191) (by decide) (fun hc_1015 => ?_) (fun hc_1015 => ?_)
          · replace h := (if_neg hc_1015).symm.trans h
            refine g_iinc (k := 8) (L' := [(8, .int (v8 + 1)), (0, .ref (ad 0)), (1, .int v1), (2, .int v2), (3, .int v3), (4, .int v4), (5, .int v5), (6, .int v6), (7, .int v7)]) C dX6_used_191 rfl (z_iinc (by decide)) (by decide) rfl ?_
            refine g_goto C dX6_used_194 (tgt := 51) (by decide) ?_
            refine zG_sub (L' := [(0, .ref (ad 0)), (1, .int v1), (2, .int v2), (3, .int v3), (4, .int v4), (5, .int v5), (6, .int v6), (7, .int v7), (8, .int (v8 + 1))]) [1, 2, 3, 4, 5, 6, 7, 8, 0] rfl ?_
            exact ih v4 v5 v6 v7 (v8 + 1) h hk
          · replace h := (if_pos hc_1015).symm.trans h
            refine g_iload (j := 4) C dX6_used_93 rfl ?_
            refine g_aload_n (j := 0) C dX6_used_95 rfl rfl ?_
            refine g_iload (j := 8) C dX6_used_96 rfl ?_
            obtain ⟨q_1016, hq_1017, h⟩ := bind_isome h
            refine g_vi (ws' := (zW cy ad shM E X)) (As := [.int v8]) (rest := [.int v4]) (res := q_1016) C (c_X6_minutesOf l D cy ad E X v8 hq_1017) zml_RX6_92 zcv_X6_minutesOf (zW_get X sM_0) rfl rfl rfl ⟨Nat.le_of_ble_eq_true rfl, Nat.le_of_ble_eq_true rfl⟩ rfl rfl (Nat.le_of_ble_eq_true rfl) ⟨Nat.zero_le _, Nat.zero_le _⟩ dX6_used_98 ?_
            refine g_iadd C dX6_used_101 ?_
            refine g_istore (L' := [(4, .int (v4 + q_1016)), (0, .ref (ad 0)), (1, .int v1), (2, .int v2), (3, .int v3), (5, .int v5), (6, .int v6), (7, .int v7), (8, .int v8)]) C dX6_used_102 (by decide) rfl ?_
            refine g_iload (j := 5) C dX6_used_104 rfl ?_
            refine g_aload_n (j := 1) C dX6_used_106 rfl rfl ?_
            refine g_iload (j := 8) C dX6_used_107 rfl ?_
            obtain ⟨q_1018, hq_1019, h⟩ := bind_isome h
            refine g_vi (ws' := (zW cy ad shM E X)) (As := [.int v8]) (rest := [.int v5]) (res := q_1018) C (c_X6_endOf l D cy ad E X v8 hq_1019) zml_RX6_151 zcv_X6_endOf (zW_get X sM_0) rfl rfl rfl ⟨Nat.le_of_ble_eq_true rfl, Nat.le_of_ble_eq_true rfl⟩ rfl rfl (Nat.le_of_ble_eq_true rfl) ⟨Nat.zero_le _, Nat.zero_le _⟩ dX6_used_109 ?_
            refine g_aload_n (j := 1) C dX6_used_112 rfl rfl ?_
            refine g_iload (j := 8) C dX6_used_113 rfl ?_
            obtain ⟨q_1020, hq_1021, h⟩ := bind_isome h
            refine g_vi (ws' := (zW cy ad shM E X)) (As := [.int v8]) (rest := [.int q_1018, .int v5]) (res := q_1020) C (c_X6_cleanOf l D cy ad E X v8 hq_1021) zml_RX6_154 zcv_X6_cleanOf (zW_get X sM_0) rfl rfl rfl ⟨Nat.le_of_ble_eq_true rfl, Nat.le_of_ble_eq_true rfl⟩ rfl rfl (Nat.le_of_ble_eq_true rfl) ⟨Nat.zero_le _, Nat.zero_le _⟩ dX6_used_115 ?_
            refine g_iadd C dX6_used_118 ?_
            refine g_si (ws' := (zW cy ad shM E X)) (As := [.int (q_1018 + q_1020)]) (rest := [.int v5]) (res := (f_X6_upTo (q_1018 + q_1020))) C (c_X6_upTo l D cy (zW cy ad shM E X) (q_1018 + q_1020)) zml_RX6_230 zcs_X6_upTo rfl rfl ⟨Nat.le_of_ble_eq_true rfl, Nat.le_of_ble_eq_true rfl⟩ rfl rfl (Nat.le_of_ble_eq_true rfl) ⟨Nat.zero_le _, Nat.zero_le _⟩ dX6_used_119 ?_
            refine g_aload_n (j := 1) C dX6_used_122 rfl rfl ?_
            refine g_iload (j := 8) C dX6_used_123 rfl ?_
            obtain ⟨q_1022, hq_1023, h⟩ := bind_isome h
            refine g_vi (ws' := (zW cy ad shM E X)) (As := [.int v8]) (rest := [.int (f_X6_upTo (q_1018 + q_1020)), .int v5]) (res := q_1022) C (c_X6_endOf l D cy ad E X v8 hq_1023) zml_RX6_151 zcv_X6_endOf (zW_get X sM_0) rfl rfl rfl ⟨Nat.le_of_ble_eq_true rfl, Nat.le_of_ble_eq_true rfl⟩ rfl rfl (Nat.le_of_ble_eq_true rfl) ⟨Nat.zero_le _, Nat.zero_le _⟩ dX6_used_125 ?_
            refine g_si (ws' := (zW cy ad shM E X)) (As := [.int q_1022]) (rest := [.int (f_X6_upTo (q_1018 + q_1020)), .int v5]) (res := (f_X6_upTo q_1022)) C (c_X6_upTo l D cy (zW cy ad shM E X) q_1022) zml_RX6_230 zcs_X6_upTo rfl rfl ⟨Nat.le_of_ble_eq_true rfl, Nat.le_of_ble_eq_true rfl⟩ rfl rfl (Nat.le_of_ble_eq_true rfl) ⟨Nat.zero_le _, Nat.zero_le _⟩ dX6_used_128 ?_
            refine g_isub C dX6_used_131 ?_
            refine g_iadd C dX6_used_132 ?_
            refine g_istore (L' := [(5, .int (v5 + ((f_X6_upTo (q_1018 + q_1020)) - (f_X6_upTo q_1022)))), (4, .int (v4 + q_1016)), (0, .ref (ad 0)), (1, .int v1), (2, .int v2), (3, .int v3), (6, .int v6), (7, .int v7), (8, .int v8)]) C dX6_used_133 (by decide) rfl ?_
            refine g_iload (j := 6) C dX6_used_135 rfl ?_
            refine g_iconst (v := (-1 : Int32)) C dX6_used_137 (by decide) ?_
            refine g_icmp_eq C dX6_used_138 (tgt := 153) (by decide) (fun hc_1024 => ?_) (fun hc_1024 => ?_)
            · replace h := (if_pos hc_1024).symm.trans h
              refine g_aload_n (j := 2) C dX6_used_153 rfl rfl ?_
              refine g_iload (j := 8) C dX6_used_154 rfl ?_
              refine g_iconst (v := (nI 3)) C dX6_used_156 (by decide) ?_
              obtain ⟨q_1025, hq_1026, h⟩ := bind_isome h
              refine g_vi (ws' := (zW cy ad shM E X)) (As := [.int v8, .int (nI 3)]) (rest := []) (res := q_1025) C (c_X6_showAt l D cy ad E X v8 (nI 3) hq_1026) zml_RX6_89 zcv_X6_showAt (zW_get X sM_0) rfl rfl rfl ⟨Nat.le_of_ble_eq_true rfl, Nat.le_of_ble_eq_true rfl⟩ rfl rfl (Nat.le_of_ble_eq_true rfl) ⟨Nat.zero_le _, Nat.zero_le _⟩ dX6_used_157 ?_
              refine g_goto C dX6_used_160 (tgt := 165) (by decide) ?_
              refine g_istore (L' := [(6, .int q_1025), (5, .int (v5 + ((f_X6_upTo (q_1018 + q_1020)) - (f_X6_upTo q_1022)))), (4, .int (v4 + q_1016)), (0, .ref (ad 0)), (1, .int v1), (2, .int v2), (3, .int v3), (7, .int v7), (8, .int v8)]) C dX6_used_165 (by decide) rfl ?_
              refine g_aload_n (j := 3) C dX6_used_167 rfl rfl ?_
              refine g_iload (j := 8) C dX6_used_168 rfl ?_
              obtain ⟨q_1027, hq_1028, h⟩ := bind_isome h
              refine g_vi (ws' := (zW cy ad shM E X)) (As := [.int v8]) (rest := []) (res := q_1027) C (c_X6_endOf l D cy ad E X v8 hq_1028) zml_RX6_151 zcv_X6_endOf (zW_get X sM_0) rfl rfl rfl ⟨Nat.le_of_ble_eq_true rfl, Nat.le_of_ble_eq_true rfl⟩ rfl rfl (Nat.le_of_ble_eq_true rfl) ⟨Nat.zero_le _, Nat.zero_le _⟩ dX6_used_170 ?_
              refine g_iload (j := 7) C dX6_used_173 rfl ?_
              refine g_icmp_le C dX6_used_175 (tgt := 187) (by decide) (fun hc_1029 => ?_) (fun hc_1029 => ?_)
              · replace h := (if_pos hc_1029).symm.trans h
                refine g_iload (j := 7) C dX6_used_187 rfl ?_
                refine g_istore (L' := [(7, .int v7), (6, .int q_1025), (5, .int (v5 + ((f_X6_upTo (q_1018 + q_1020)) - (f_X6_upTo q_1022)))), (4, .int (v4 + q_1016)), (0, .ref (ad 0)), (1, .int v1), (2, .int v2), (3, .int v3), (8, .int v8)]) C dX6_used_189 (by decide) rfl ?_
                refine g_iinc (k := 8) (L' := [(8, .int (v8 + 1)), (7, .int v7), (6, .int q_1025), (5, .int (v5 + ((f_X6_upTo (q_1018 + q_1020)) - (f_X6_upTo q_1022)))), (4, .int (v4 + q_1016)), (0, .ref (ad 0)), (1, .int v1), (2, .int v2), (3, .int v3)]) C dX6_used_191 rfl (z_iinc (by decide)) (by decide) rfl ?_
                refine g_goto C dX6_used_194 (tgt := 51) (by decide) ?_
                refine zG_sub (L' := [(0, .ref (ad 0)), (1, .int v1), (2, .int v2), (3, .int v3), (4, .int (v4 + q_1016)), (5, .int (v5 + ((f_X6_upTo (q_1018 + q_1020)) - (f_X6_upTo q_1022)))), (6, .int q_1025), (7, .int v7), (8, .int (v8 + 1))]) [5, 6, 7, 8, 4, 3, 2, 1, 0] rfl ?_
                exact ih (v4 + q_1016) (v5 + ((f_X6_upTo (q_1018 + q_1020)) - (f_X6_upTo q_1022))) q_1025 v7 (v8 + 1) h hk
              · replace h := (if_neg hc_1029).symm.trans h
                refine g_aload_n (j := 3) C dX6_used_178 rfl rfl ?_
                refine g_iload (j := 8) C dX6_used_179 rfl ?_
                obtain ⟨q_1030, hq_1031, h⟩ := bind_isome h
                refine g_vi (ws' := (zW cy ad shM E X)) (As := [.int v8]) (rest := []) (res := q_1030) C (c_X6_endOf l D cy ad E X v8 hq_1031) zml_RX6_151 zcv_X6_endOf (zW_get X sM_0) rfl rfl rfl ⟨Nat.le_of_ble_eq_true rfl, Nat.le_of_ble_eq_true rfl⟩ rfl rfl (Nat.le_of_ble_eq_true rfl) ⟨Nat.zero_le _, Nat.zero_le _⟩ dX6_used_181 ?_
                refine g_goto C dX6_used_184 (tgt := 189) (by decide) ?_
                refine g_istore (L' := [(7, .int q_1030), (6, .int q_1025), (5, .int (v5 + ((f_X6_upTo (q_1018 + q_1020)) - (f_X6_upTo q_1022)))), (4, .int (v4 + q_1016)), (0, .ref (ad 0)), (1, .int v1), (2, .int v2), (3, .int v3), (8, .int v8)]) C dX6_used_189 (by decide) rfl ?_
                refine g_iinc (k := 8) (L' := [(8, .int (v8 + 1)), (7, .int q_1030), (6, .int q_1025), (5, .int (v5 + ((f_X6_upTo (q_1018 + q_1020)) - (f_X6_upTo q_1022)))), (4, .int (v4 + q_1016)), (0, .ref (ad 0)), (1, .int v1), (2, .int v2), (3, .int v3)]) C dX6_used_191 rfl (z_iinc (by decide)) (by decide) rfl ?_
                refine g_goto C dX6_used_194 (tgt := 51) (by decide) ?_
                refine zG_sub (L' := [(0, .ref (ad 0)), (1, .int v1), (2, .int v2), (3, .int v3), (4, .int (v4 + q_1016)), (5, .int (v5 + ((f_X6_upTo (q_1018 + q_1020)) - (f_X6_upTo q_1022)))), (6, .int q_1025), (7, .int q_1030), (8, .int (v8 + 1))]) [5, 6, 7, 8, 4, 3, 2, 1, 0] rfl ?_
                exact ih (v4 + q_1016) (v5 + ((f_X6_upTo (q_1018 + q_1020)) - (f_X6_upTo q_1022))) q_1025 q_1030 (v8 + 1) h hk
            · replace h := (if_neg hc_1024).symm.trans h
              refine g_aload_n (j := 2) C dX6_used_141 rfl rfl ?_
              refine g_iload (j := 8) C dX6_used_142 rfl ?_
              refine g_iconst (v := (nI 3)) C dX6_used_144 (by decide) ?_
              obtain ⟨q_1032, hq_1033, h⟩ := bind_isome h
              refine g_vi (ws' := (zW cy ad shM E X)) (As := [.int v8, .int (nI 3)]) (rest := []) (res := q_1032) C (c_X6_showAt l D cy ad E X v8 (nI 3) hq_1033) zml_RX6_89 zcv_X6_showAt (zW_get X sM_0) rfl rfl rfl ⟨Nat.le_of_ble_eq_true rfl, Nat.le_of_ble_eq_true rfl⟩ rfl rfl (Nat.le_of_ble_eq_true rfl) ⟨Nat.zero_le _, Nat.zero_le _⟩ dX6_used_145 ?_
              refine g_iload (j := 6) C dX6_used_148 rfl ?_
              refine g_icmp_ge C dX6_used_150 (tgt := 163) (by decide) (fun hc_1034 => ?_) (fun hc_1034 => ?_)
              · replace h := (if_pos hc_1034).symm.trans h
                refine g_iload (j := 6) C dX6_used_163 rfl ?_
                refine g_istore (L' := [(6, .int v6), (5, .int (v5 + ((f_X6_upTo (q_1018 + q_1020)) - (f_X6_upTo q_1022)))), (4, .int (v4 + q_1016)), (0, .ref (ad 0)), (1, .int v1), (2, .int v2), (3, .int v3), (7, .int v7), (8, .int v8)]) C dX6_used_165 (by decide) rfl ?_
                refine g_aload_n (j := 3) C dX6_used_167 rfl rfl ?_
                refine g_iload (j := 8) C dX6_used_168 rfl ?_
                obtain ⟨q_1035, hq_1036, h⟩ := bind_isome h
                refine g_vi (ws' := (zW cy ad shM E X)) (As := [.int v8]) (rest := []) (res := q_1035) C (c_X6_endOf l D cy ad E X v8 hq_1036) zml_RX6_151 zcv_X6_endOf (zW_get X sM_0) rfl rfl rfl ⟨Nat.le_of_ble_eq_true rfl, Nat.le_of_ble_eq_true rfl⟩ rfl rfl (Nat.le_of_ble_eq_true rfl) ⟨Nat.zero_le _, Nat.zero_le _⟩ dX6_used_170 ?_
                refine g_iload (j := 7) C dX6_used_173 rfl ?_
                refine g_icmp_le C dX6_used_175 (tgt := 187) (by decide) (fun hc_1037 => ?_) (fun hc_1037 => ?_)
                · replace h := (if_pos hc_1037).symm.trans h
                  refine g_iload (j := 7) C dX6_used_187 rfl ?_
                  refine g_istore (L' := [(7, .int v7), (6, .int v6), (5, .int (v5 + ((f_X6_upTo (q_1018 + q_1020)) - (f_X6_upTo q_1022)))), (4, .int (v4 + q_1016)), (0, .ref (ad 0)), (1, .int v1), (2, .int v2), (3, .int v3), (8, .int v8)]) C dX6_used_189 (by decide) rfl ?_
                  refine g_iinc (k := 8) (L' := [(8, .int (v8 + 1)), (7, .int v7), (6, .int v6), (5, .int (v5 + ((f_X6_upTo (q_1018 + q_1020)) - (f_X6_upTo q_1022)))), (4, .int (v4 + q_1016)), (0, .ref (ad 0)), (1, .int v1), (2, .int v2), (3, .int v3)]) C dX6_used_191 rfl (z_iinc (by decide)) (by decide) rfl ?_
                  refine g_goto C dX6_used_194 (tgt := 51) (by decide) ?_
                  refine zG_sub (L' := [(0, .ref (ad 0)), (1, .int v1), (2, .int v2), (3, .int v3), (4, .int (v4 + q_1016)), (5, .int (v5 + ((f_X6_upTo (q_1018 + q_1020)) - (f_X6_upTo q_1022)))), (6, .int v6), (7, .int v7), (8, .int (v8 + 1))]) [5, 6, 7, 8, 4, 3, 2, 1, 0] rfl ?_
                  exact ih (v4 + q_1016) (v5 + ((f_X6_upTo (q_1018 + q_1020)) - (f_X6_upTo q_1022))) v6 v7 (v8 + 1) h hk
                · replace h := (if_neg hc_1037).symm.trans h
                  refine g_aload_n (j := 3) C dX6_used_178 rfl rfl ?_
                  refine g_iload (j := 8) C dX6_used_179 rfl ?_
                  obtain ⟨q_1038, hq_1039, h⟩ := bind_isome h
                  refine g_vi (ws' := (zW cy ad shM E X)) (As := [.int v8]) (rest := []) (res := q_1038) C (c_X6_endOf l D cy ad E X v8 hq_1039) zml_RX6_151 zcv_X6_endOf (zW_get X sM_0) rfl rfl rfl ⟨Nat.le_of_ble_eq_true rfl, Nat.le_of_ble_eq_true rfl⟩ rfl rfl (Nat.le_of_ble_eq_true rfl) ⟨Nat.zero_le _, Nat.zero_le _⟩ dX6_used_181 ?_
                  refine g_goto C dX6_used_184 (tgt := 189) (by decide) ?_
                  refine g_istore (L' := [(7, .int q_1038), (6, .int v6), (5, .int (v5 + ((f_X6_upTo (q_1018 + q_1020)) - (f_X6_upTo q_1022)))), (4, .int (v4 + q_1016)), (0, .ref (ad 0)), (1, .int v1), (2, .int v2), (3, .int v3), (8, .int v8)]) C dX6_used_189 (by decide) rfl ?_
                  refine g_iinc (k := 8) (L' := [(8, .int (v8 + 1)), (7, .int q_1038), (6, .int v6), (5, .int (v5 + ((f_X6_upTo (q_1018 + q_1020)) - (f_X6_upTo q_1022)))), (4, .int (v4 + q_1016)), (0, .ref (ad 0)), (1, .int v1), (2, .int v2), (3, .int v3)]) C dX6_used_191 rfl (z_iinc (by decide)) (by decide) rfl ?_
                  refine g_goto C dX6_used_194 (tgt := 51) (by decide) ?_
                  refine zG_sub (L' := [(0, .ref (ad 0)), (1, .int v1), (2, .int v2), (3, .int v3), (4, .int (v4 + q_1016)), (5, .int (v5 + ((f_X6_upTo (q_1018 + q_1020)) - (f_X6_upTo q_1022)))), (6, .int v6), (7, .int q_1038), (8, .int (v8 + 1))]) [5, 6, 7, 8, 4, 3, 2, 1, 0] rfl ?_
                  exact ih (v4 + q_1016) (v5 + ((f_X6_upTo (q_1018 + q_1020)) - (f_X6_upTo q_1022))) v6 q_1038 (v8 + 1) h hk
              · replace h := (if_neg hc_1034).symm.trans h
                refine g_aload_n (j := 2) C dX6_used_153 rfl rfl ?_
                refine g_iload (j := 8) C dX6_used_154 rfl ?_
                refine g_iconst (v := (nI 3)) C dX6_used_156 (by decide) ?_
                obtain ⟨q_1040, hq_1041, h⟩ := bind_isome h
                refine g_vi (ws' := (zW cy ad shM E X)) (As := [.int v8, .int (nI 3)]) (rest := []) (res := q_1040) C (c_X6_showAt l D cy ad E X v8 (nI 3) hq_1041) zml_RX6_89 zcv_X6_showAt (zW_get X sM_0) rfl rfl rfl ⟨Nat.le_of_ble_eq_true rfl, Nat.le_of_ble_eq_true rfl⟩ rfl rfl (Nat.le_of_ble_eq_true rfl) ⟨Nat.zero_le _, Nat.zero_le _⟩ dX6_used_157 ?_
                refine g_goto C dX6_used_160 (tgt := 165) (by decide) ?_
                refine g_istore (L' := [(6, .int q_1040), (5, .int (v5 + ((f_X6_upTo (q_1018 + q_1020)) - (f_X6_upTo q_1022)))), (4, .int (v4 + q_1016)), (0, .ref (ad 0)), (1, .int v1), (2, .int v2), (3, .int v3), (7, .int v7), (8, .int v8)]) C dX6_used_165 (by decide) rfl ?_
                refine g_aload_n (j := 3) C dX6_used_167 rfl rfl ?_
                refine g_iload (j := 8) C dX6_used_168 rfl ?_
                obtain ⟨q_1042, hq_1043, h⟩ := bind_isome h
                refine g_vi (ws' := (zW cy ad shM E X)) (As := [.int v8]) (rest := []) (res := q_1042) C (c_X6_endOf l D cy ad E X v8 hq_1043) zml_RX6_151 zcv_X6_endOf (zW_get X sM_0) rfl rfl rfl ⟨Nat.le_of_ble_eq_true rfl, Nat.le_of_ble_eq_true rfl⟩ rfl rfl (Nat.le_of_ble_eq_true rfl) ⟨Nat.zero_le _, Nat.zero_le _⟩ dX6_used_170 ?_
                refine g_iload (j := 7) C dX6_used_173 rfl ?_
                refine g_icmp_le C dX6_used_175 (tgt := 187) (by decide) (fun hc_1044 => ?_) (fun hc_1044 => ?_)
                · replace h := (if_pos hc_1044).symm.trans h
                  refine g_iload (j := 7) C dX6_used_187 rfl ?_
                  refine g_istore (L' := [(7, .int v7), (6, .int q_1040), (5, .int (v5 + ((f_X6_upTo (q_1018 + q_1020)) - (f_X6_upTo q_1022)))), (4, .int (v4 + q_1016)), (0, .ref (ad 0)), (1, .int v1), (2, .int v2), (3, .int v3), (8, .int v8)]) C dX6_used_189 (by decide) rfl ?_
                  refine g_iinc (k := 8) (L' := [(8, .int (v8 + 1)), (7, .int v7), (6, .int q_1040), (5, .int (v5 + ((f_X6_upTo (q_1018 + q_1020)) - (f_X6_upTo q_1022)))), (4, .int (v4 + q_1016)), (0, .ref (ad 0)), (1, .int v1), (2, .int v2), (3, .int v3)]) C dX6_used_191 rfl (z_iinc (by decide)) (by decide) rfl ?_
                  refine g_goto C dX6_used_194 (tgt := 51) (by decide) ?_
                  refine zG_sub (L' := [(0, .ref (ad 0)), (1, .int v1), (2, .int v2), (3, .int v3), (4, .int (v4 + q_1016)), (5, .int (v5 + ((f_X6_upTo (q_1018 + q_1020)) - (f_X6_upTo q_1022)))), (6, .int q_1040), (7, .int v7), (8, .int (v8 + 1))]) [5, 6, 7, 8, 4, 3, 2, 1, 0] rfl ?_
                  exact ih (v4 + q_1016) (v5 + ((f_X6_upTo (q_1018 + q_1020)) - (f_X6_upTo q_1022))) q_1040 v7 (v8 + 1) h hk
                · replace h := (if_neg hc_1044).symm.trans h
                  refine g_aload_n (j := 3) C dX6_used_178 rfl rfl ?_
                  refine g_iload (j := 8) C dX6_used_179 rfl ?_
                  obtain ⟨q_1045, hq_1046, h⟩ := bind_isome h
                  refine g_vi (ws' := (zW cy ad shM E X)) (As := [.int v8]) (rest := []) (res := q_1045) C (c_X6_endOf l D cy ad E X v8 hq_1046) zml_RX6_151 zcv_X6_endOf (zW_get X sM_0) rfl rfl rfl ⟨Nat.le_of_ble_eq_true rfl, Nat.le_of_ble_eq_true rfl⟩ rfl rfl (Nat.le_of_ble_eq_true rfl) ⟨Nat.zero_le _, Nat.zero_le _⟩ dX6_used_181 ?_
                  refine g_goto C dX6_used_184 (tgt := 189) (by decide) ?_
                  refine g_istore (L' := [(7, .int q_1045), (6, .int q_1040), (5, .int (v5 + ((f_X6_upTo (q_1018 + q_1020)) - (f_X6_upTo q_1022)))), (4, .int (v4 + q_1016)), (0, .ref (ad 0)), (1, .int v1), (2, .int v2), (3, .int v3), (8, .int v8)]) C dX6_used_189 (by decide) rfl ?_
                  refine g_iinc (k := 8) (L' := [(8, .int (v8 + 1)), (7, .int q_1045), (6, .int q_1040), (5, .int (v5 + ((f_X6_upTo (q_1018 + q_1020)) - (f_X6_upTo q_1022)))), (4, .int (v4 + q_1016)), (0, .ref (ad 0)), (1, .int v1), (2, .int v2), (3, .int v3)]) C dX6_used_191 rfl (z_iinc (by decide)) (by decide) rfl ?_
                  refine g_goto C dX6_used_194 (tgt := 51) (by decide) ?_
                  refine zG_sub (L' := [(0, .ref (ad 0)), (1, .int v1), (2, .int v2), (3, .int v3), (4, .int (v4 + q_1016)), (5, .int (v5 + ((f_X6_upTo (q_1018 + q_1020)) - (f_X6_upTo q_1022)))), (6, .int q_1040), (7, .int q_1045), (8, .int (v8 + 1))]) [5, 6, 7, 8, 4, 3, 2, 1, 0] rfl ?_
                  exact ih (v4 + q_1016) (v5 + ((f_X6_upTo (q_1018 + q_1020)) - (f_X6_upTo q_1022))) q_1040 q_1045 (v8 + 1) h hk
def f_X6_used (X : Nat → Nat → Int32) (v1 v2 v3 : Int32) : Option (Int32 × (Nat → Nat → Int32)) := (if (f_X6_isHall X v1) = 0 then (zlet (f_X6_fails X (nI 1)) fun q_1067 => some (q_1067.1, q_1067.2)) else (if (f_X6_isDay v2) = 0 then (zlet (f_X6_fails X (nI 2)) fun q_3 => some (q_3.1, q_3.2)) else (if (f_X6_in v3 (nI 0) (nI 4)) = 0 then (zlet (f_X6_fails X (nI 2)) fun q_1065 => some (q_1065.1, q_1065.2)) else f_X6_used_L51 (fun v4_1047 v5_1048 v6_1049 v7_1050 => (if v3 = 0 then (zlet (f_X6_done X v4_1047) fun q_1063 => some (q_1063.1, q_1063.2)) else (if v3 = (nI 1) then (zlet (f_X6_done X v5_1048) fun q_1061 => some (q_1061.1, q_1061.2)) else (if v3 = (nI 2) then (zlet (f_X6_done X (((nI 960) - v4_1047) - v5_1048)) fun q_1059 => some (q_1059.1, q_1059.2)) else (if v3 = (nI 3) then (zlet (f_X6_done X v6_1049) fun q_1057 => some (q_1057.1, q_1057.2)) else (zlet (f_X6_done X v7_1050) fun q_1055 => some (q_1055.1, q_1055.2))))))) X v1 v2 v3 zFuel (nI 0) (nI 0) (-1 : Int32) (-1 : Int32) (nI 0))))
set_option maxRecDepth 100000 in
set_option maxHeartbeats 4000000 in
theorem c_X6_used (l : Launch) (D : va_G) (cy : Nat → ClassId) (ad : Nat → Nat) (E : va_W) (X : Nat → Nat → Int32) (v1 v2 v3 : Int32) {res : Int32 × (Nat → Nat → Int32)} (h : f_X6_used X v1 v2 v3 = some res) : zMi l yX6_used cX6_used 9 (some .int) (zrm 4) D (zTy cy) (zW cy ad shM E X) [.ref (ad 0), .int v1, .int v2, .int v3] res.1 (zW cy ad shM E res.2) := by
  refine zMi.of (by decide) (Nat.le_of_ble_eq_true rfl) ?_
  intro p e s m below meth c A C hr
  unfold f_X6_used at h
  refine zG_L (L' := [(0, .ref (ad 0)), (1, .int v1), (2, .int v2), (3, .int v3)]) rfl ?_
  refine g_aload_n (j := 0) C dX6_used_0 rfl rfl ?_
  refine g_iload_n (j := 1) C dX6_used_1 rfl rfl ?_
  refine g_vi (ws' := (zW cy ad shM E X)) (As := [.int v1]) (rest := []) (res := (f_X6_isHall X v1)) C (c_X6_isHall l D cy ad E X v1) zml_RX6_104 zcv_X6_isHall (zW_get X sM_0) rfl rfl rfl ⟨Nat.le_of_ble_eq_true rfl, Nat.le_of_ble_eq_true rfl⟩ rfl rfl (Nat.le_of_ble_eq_true rfl) ⟨Nat.zero_le _, Nat.zero_le _⟩ dX6_used_2 ?_
  refine g_if_ne C dX6_used_5 (tgt := 14) (by decide) (fun hc_1 => ?_) (fun hc_1 => ?_)
  · replace h := (if_neg hc_1).symm.trans h
    refine g_iload_n (j := 2) C dX6_used_14 rfl rfl ?_
    refine g_si (ws' := (zW cy ad shM E X)) (As := [.int v2]) (rest := []) (res := (f_X6_isDay v2)) C (c_X6_isDay l D cy (zW cy ad shM E X) v2) zml_RX6_74 zcs_X6_isDay rfl rfl ⟨Nat.le_of_ble_eq_true rfl, Nat.le_of_ble_eq_true rfl⟩ rfl rfl (Nat.le_of_ble_eq_true rfl) ⟨Nat.zero_le _, Nat.zero_le _⟩ dX6_used_15 ?_
    refine g_if_eq C dX6_used_18 (tgt := 30) (by decide) (fun hc_2 => ?_) (fun hc_2 => ?_)
    · replace h := (if_pos hc_2).symm.trans h
      refine g_aload_n (j := 0) C dX6_used_30 rfl rfl ?_
      refine g_iconst (v := (nI 2)) C dX6_used_31 (by decide) ?_
      obtain ⟨q_3, e_4, h⟩ := zlet_ex h
      refine g_vi (ws' := (zW cy ad shM E q_3.2)) (As := [.int (nI 2)]) (rest := []) (res := q_3.1) C ((by rw [e_4]; exact c_X6_fails l D cy ad E X (nI 2))) zml_RX6_45 zcv_X6_fails (zW_get X sM_0) rfl rfl rfl ⟨Nat.le_of_ble_eq_true rfl, Nat.le_of_ble_eq_true rfl⟩ rfl rfl (Nat.le_of_ble_eq_true rfl) ⟨Nat.zero_le _, Nat.zero_le _⟩ dX6_used_32 ?_
      obtain rfl := Option.some.inj h
      exact g_iret rfl C hr rfl dX6_used_35
    · replace h := (if_neg hc_2).symm.trans h
      refine g_iload_n (j := 3) C dX6_used_21 rfl rfl ?_
      refine g_iconst (v := (nI 0)) C dX6_used_22 (by decide) ?_
      refine g_iconst (v := (nI 4)) C dX6_used_23 (by decide) ?_
      refine g_si (ws' := (zW cy ad shM E X)) (As := [.int v3, .int (nI 0), .int (nI 4)]) (rest := []) (res := (f_X6_in v3 (nI 0) (nI 4))) C (c_X6_in l D cy (zW cy ad shM E X) v3 (nI 0) (nI 4)) zml_RX6_64 zcs_X6_in rfl rfl ⟨Nat.le_of_ble_eq_true rfl, Nat.le_of_ble_eq_true rfl⟩ rfl rfl (Nat.le_of_ble_eq_true rfl) ⟨Nat.zero_le _, Nat.zero_le _⟩ dX6_used_24 ?_
      refine g_if_ne C dX6_used_27 (tgt := 36) (by decide) (fun hc_5 => ?_) (fun hc_5 => ?_)
      · replace h := (if_neg hc_5).symm.trans h
        refine g_iconst (v := (nI 0)) C dX6_used_36 (by decide) ?_
        refine g_istore (L' := [(4, .int (nI 0)), (0, .ref (ad 0)), (1, .int v1), (2, .int v2), (3, .int v3)]) C dX6_used_37 (by decide) rfl ?_
        refine g_iconst (v := (nI 0)) C dX6_used_39 (by decide) ?_
        refine g_istore (L' := [(5, .int (nI 0)), (4, .int (nI 0)), (0, .ref (ad 0)), (1, .int v1), (2, .int v2), (3, .int v3)]) C dX6_used_40 (by decide) rfl ?_
        refine g_iconst (v := (-1 : Int32)) C dX6_used_42 (by decide) ?_
        refine g_istore (L' := [(6, .int (-1 : Int32)), (5, .int (nI 0)), (4, .int (nI 0)), (0, .ref (ad 0)), (1, .int v1), (2, .int v2), (3, .int v3)]) C dX6_used_43 (by decide) rfl ?_
        refine g_iconst (v := (-1 : Int32)) C dX6_used_45 (by decide) ?_
        refine g_istore (L' := [(7, .int (-1 : Int32)), (6, .int (-1 : Int32)), (5, .int (nI 0)), (4, .int (nI 0)), (0, .ref (ad 0)), (1, .int v1), (2, .int v2), (3, .int v3)]) C dX6_used_46 (by decide) rfl ?_
        refine g_iconst (v := (nI 0)) C dX6_used_48 (by decide) ?_
        refine g_istore (L' := [(8, .int (nI 0)), (7, .int (-1 : Int32)), (6, .int (-1 : Int32)), (5, .int (nI 0)), (4, .int (nI 0)), (0, .ref (ad 0)), (1, .int v1), (2, .int v2), (3, .int v3)]) C dX6_used_49 (by decide) rfl ?_
        refine zG_sub (L' := [(0, .ref (ad 0)), (1, .int v1), (2, .int v2), (3, .int v3), (4, .int (nI 0)), (5, .int (nI 0)), (6, .int (-1 : Int32)), (7, .int (-1 : Int32)), (8, .int (nI 0))]) [5, 6, 7, 8, 4, 3, 2, 1, 0] rfl ?_
        refine w_X6_used_L51 l D cy ad E _ X v1 v2 v3 C hr zFuel (nI 0) (nI 0) (-1 : Int32) (-1 : Int32) (nI 0) h ?_
        intro v4_1047 v5_1048 v6_1049 v7_1050 h
        refine g_aload_n (j := 0) C dX6_used_197 rfl rfl ?_
        refine g_iload_n (j := 1) C dX6_used_198 rfl rfl ?_
        refine g_if_ne C dX6_used_199 (tgt := 207) (by decide) (fun hc_1051 => ?_) (fun hc_1051 => ?_)
        · replace h := (if_neg hc_1051).symm.trans h
          refine g_iload_n (j := 1) C dX6_used_207 rfl rfl ?_
          refine g_iconst (v := (nI 1)) C dX6_used_208 (by decide) ?_
          refine g_icmp_ne C dX6_used_209 (tgt := 217) (by decide) (fun hc_1052 => ?_) (fun hc_1052 => ?_)
          · replace h := (if_neg hc_1052).symm.trans h
            refine g_iload_n (j := 1) C dX6_used_217 rfl rfl ?_
            refine g_iconst (v := (nI 2)) C dX6_used_218 (by decide) ?_
            refine g_icmp_ne C dX6_used_219 (tgt := 234) (by decide) (fun hc_1053 => ?_) (fun hc_1053 => ?_)
            · replace h := (if_neg hc_1053).symm.trans h
              refine g_iload_n (j := 1) C dX6_used_234 rfl rfl ?_
              refine g_iconst (v := (nI 3)) C dX6_used_235 (by decide) ?_
              refine g_icmp_ne C dX6_used_236 (tgt := 244) (by decide) (fun hc_1054 => ?_) (fun hc_1054 => ?_)
              · replace h := (if_neg hc_1054).symm.trans h
                refine g_iload (j := 5) C dX6_used_244 rfl ?_
                obtain ⟨q_1055, e_1056, h⟩ := zlet_ex h
                refine g_vi (ws' := (zW cy ad shM E q_1055.2)) (As := [.int v7_1050]) (rest := []) (res := q_1055.1) C ((by rw [e_1056]; exact c_X6_done l D cy ad E X v7_1050)) zml_RX6_71 zcv_X6_done (zW_get X sM_0) rfl rfl rfl ⟨Nat.le_of_ble_eq_true rfl, Nat.le_of_ble_eq_true rfl⟩ rfl rfl (Nat.le_of_ble_eq_true rfl) ⟨Nat.zero_le _, Nat.zero_le _⟩ dX6_used_246 ?_
                obtain rfl := Option.some.inj h
                exact g_iret rfl C hr rfl dX6_used_249
              · replace h := (if_pos hc_1054).symm.trans h
                refine g_iload (j := 4) C dX6_used_239 rfl ?_
                refine g_goto C dX6_used_241 (tgt := 246) (by decide) ?_
                obtain ⟨q_1057, e_1058, h⟩ := zlet_ex h
                refine g_vi (ws' := (zW cy ad shM E q_1057.2)) (As := [.int v6_1049]) (rest := []) (res := q_1057.1) C ((by rw [e_1058]; exact c_X6_done l D cy ad E X v6_1049)) zml_RX6_71 zcv_X6_done (zW_get X sM_0) rfl rfl rfl ⟨Nat.le_of_ble_eq_true rfl, Nat.le_of_ble_eq_true rfl⟩ rfl rfl (Nat.le_of_ble_eq_true rfl) ⟨Nat.zero_le _, Nat.zero_le _⟩ dX6_used_246 ?_
                obtain rfl := Option.some.inj h
                exact g_iret rfl C hr rfl dX6_used_249
            · replace h := (if_pos hc_1053).symm.trans h
              refine g_sipush (v := (nI 960)) C dX6_used_222 (by decide) ?_
              refine g_iload (j := 2) C dX6_used_225 rfl ?_
              refine g_isub C dX6_used_227 ?_
              refine g_iload (j := 3) C dX6_used_228 rfl ?_
              refine g_isub C dX6_used_230 ?_
              refine g_goto C dX6_used_231 (tgt := 246) (by decide) ?_
              obtain ⟨q_1059, e_1060, h⟩ := zlet_ex h
              refine g_vi (ws' := (zW cy ad shM E q_1059.2)) (As := [.int (((nI 960) - v4_1047) - v5_1048)]) (rest := []) (res := q_1059.1) C ((by rw [e_1060]; exact c_X6_done l D cy ad E X (((nI 960) - v4_1047) - v5_1048))) zml_RX6_71 zcv_X6_done (zW_get X sM_0) rfl rfl rfl ⟨Nat.le_of_ble_eq_true rfl, Nat.le_of_ble_eq_true rfl⟩ rfl rfl (Nat.le_of_ble_eq_true rfl) ⟨Nat.zero_le _, Nat.zero_le _⟩ dX6_used_246 ?_
              obtain rfl := Option.some.inj h
              exact g_iret rfl C hr rfl dX6_used_249
          · replace h := (if_pos hc_1052).symm.trans h
            refine g_iload (j := 3) C dX6_used_212 rfl ?_
            refine g_goto C dX6_used_214 (tgt := 246) (by decide) ?_
            obtain ⟨q_1061, e_1062, h⟩ := zlet_ex h
            refine g_vi (ws' := (zW cy ad shM E q_1061.2)) (As := [.int v5_1048]) (rest := []) (res := q_1061.1) C ((by rw [e_1062]; exact c_X6_done l D cy ad E X v5_1048)) zml_RX6_71 zcv_X6_done (zW_get X sM_0) rfl rfl rfl ⟨Nat.le_of_ble_eq_true rfl, Nat.le_of_ble_eq_true rfl⟩ rfl rfl (Nat.le_of_ble_eq_true rfl) ⟨Nat.zero_le _, Nat.zero_le _⟩ dX6_used_246 ?_
            obtain rfl := Option.some.inj h
            exact g_iret rfl C hr rfl dX6_used_249
        · replace h := (if_pos hc_1051).symm.trans h
          refine g_iload (j := 2) C dX6_used_202 rfl ?_
          refine g_goto C dX6_used_204 (tgt := 246) (by decide) ?_
          obtain ⟨q_1063, e_1064, h⟩ := zlet_ex h
          refine g_vi (ws' := (zW cy ad shM E q_1063.2)) (As := [.int v4_1047]) (rest := []) (res := q_1063.1) C ((by rw [e_1064]; exact c_X6_done l D cy ad E X v4_1047)) zml_RX6_71 zcv_X6_done (zW_get X sM_0) rfl rfl rfl ⟨Nat.le_of_ble_eq_true rfl, Nat.le_of_ble_eq_true rfl⟩ rfl rfl (Nat.le_of_ble_eq_true rfl) ⟨Nat.zero_le _, Nat.zero_le _⟩ dX6_used_246 ?_
          obtain rfl := Option.some.inj h
          exact g_iret rfl C hr rfl dX6_used_249
      · replace h := (if_pos hc_5).symm.trans h
        refine g_aload_n (j := 0) C dX6_used_30 rfl rfl ?_
        refine g_iconst (v := (nI 2)) C dX6_used_31 (by decide) ?_
        obtain ⟨q_1065, e_1066, h⟩ := zlet_ex h
        refine g_vi (ws' := (zW cy ad shM E q_1065.2)) (As := [.int (nI 2)]) (rest := []) (res := q_1065.1) C ((by rw [e_1066]; exact c_X6_fails l D cy ad E X (nI 2))) zml_RX6_45 zcv_X6_fails (zW_get X sM_0) rfl rfl rfl ⟨Nat.le_of_ble_eq_true rfl, Nat.le_of_ble_eq_true rfl⟩ rfl rfl (Nat.le_of_ble_eq_true rfl) ⟨Nat.zero_le _, Nat.zero_le _⟩ dX6_used_32 ?_
        obtain rfl := Option.some.inj h
        exact g_iret rfl C hr rfl dX6_used_35
  · replace h := (if_pos hc_1).symm.trans h
    refine g_aload_n (j := 0) C dX6_used_8 rfl rfl ?_
    refine g_iconst (v := (nI 1)) C dX6_used_9 (by decide) ?_
    obtain ⟨q_1067, e_1068, h⟩ := zlet_ex h
    refine g_vi (ws' := (zW cy ad shM E q_1067.2)) (As := [.int (nI 1)]) (rest := []) (res := q_1067.1) C ((by rw [e_1068]; exact c_X6_fails l D cy ad E X (nI 1))) zml_RX6_45 zcv_X6_fails (zW_get X sM_0) rfl rfl rfl ⟨Nat.le_of_ble_eq_true rfl, Nat.le_of_ble_eq_true rfl⟩ rfl rfl (Nat.le_of_ble_eq_true rfl) ⟨Nat.zero_le _, Nat.zero_le _⟩ dX6_used_10 ?_
    obtain rfl := Option.some.inj h
    exact g_iret rfl C hr rfl dX6_used_13
def f_X6_at_L48 (k : Int32 → Int32 → Int32 → Int32 → Option (Int32 × (Nat → Nat → Int32))) (X : Nat → Nat → Int32) (v1 : Int32) (v2 : Int32) (v3 : Int32) : Nat → Int32 → Int32 → Int32 → Int32 → Int32 → Option (Int32 × (Nat → Nat → Int32))
  | 0, _, _, _, _, _ => none
  | fu + 1, v4, v5, v6, v7, v8 => (if (X 1 (nI 4).toNatClampNeg) ≤ v8 then k v4 v5 v6 v7 else ((f_X6_stands X v8).bind fun q_1009 => (if q_1009 = 0 then f_X6_at_L48 k X v1 v2 v3 fu v4 v5 v6 v7 (v8 + 1) else ((f_X6_showAt X v8 (nI 2)).bind fun q_1012 => (if q_1012 = v1 then ((f_X6_showAt X v8 (nI 3)).bind fun q_1015 => ((f_X6_endOf X v8).bind fun q_1017 => (if (f_X6_in v2 q_1015 (q_1017 - (nI 1))) = 0 then ((f_X6_endOf X v8).bind fun q_1020 => ((f_X6_endOf X v8).bind fun q_1022 => ((f_X6_cleanOf X v8).bind fun q_1024 => (if (f_X6_in v2 q_1020 ((q_1022 + q_1024) - (nI 1))) = 0 then f_X6_at_L48 k X v1 v2 v3 fu (v4 + (nI 0)) (v5 + (nI 0)) (v6 + (nI 0)) v7 (v8 + 1) else f_X6_at_L48 k X v1 v2 v3 fu (v4 + (nI 0)) (v5 + (nI 1)) (v6 + (nI 0)) v7 (v8 + 1))))) else ((f_X6_showAt X v8 (nI 0)).bind fun q_1027 => ((f_X6_hallAt X q_1027 (nI 0)).bind fun q_1029 => (if v7 = (-1 : Int32) then ((f_X6_endOf X v8).bind fun q_1039 => ((f_X6_endOf X v8).bind fun q_1041 => ((f_X6_cleanOf X v8).bind fun q_1043 => (if (f_X6_in v2 q_1039 ((q_1041 + q_1043) - (nI 1))) = 0 then f_X6_at_L48 k X v1 v2 v3 fu (v4 + (nI 1)) (v5 + (nI 0)) (v6 + q_1029) v8 (v8 + 1) else f_X6_at_L48 k X v1 v2 v3 fu (v4 + (nI 1)) (v5 + (nI 1)) (v6 + q_1029) v8 (v8 + 1))))) else ((f_X6_endOf X v8).bind fun q_1032 => ((f_X6_endOf X v8).bind fun q_1034 => ((f_X6_cleanOf X v8).bind fun q_1036 => (if (f_X6_in v2 q_1032 ((q_1034 + q_1036) - (nI 1))) = 0 then f_X6_at_L48 k X v1 v2 v3 fu (v4 + (nI 1)) (v5 + (nI 0)) (v6 + q_1029) v7 (v8 + 1) else f_X6_at_L48 k X v1 v2 v3 fu (v4 + (nI 1)) (v5 + (nI 1)) (v6 + q_1029) v7 (v8 + 1))))))))))) else f_X6_at_L48 k X v1 v2 v3 fu v4 v5 v6 v7 (v8 + 1))))))
set_option maxRecDepth 100000 in
set_option maxHeartbeats 4000000 in
theorem w_X6_at_L48 {p : Program} {e : Env} {s : State} {m : MethodId} {args : Array Value} {below : List Frame} {meth : Method} {c : Code} {A : Nat → Prop} (l : Launch) (D : va_G) (cy : Nat → ClassId) (ad : Nat → Nat) (E : va_W) (k : Int32 → Int32 → Int32 → Int32 → Option (Int32 × (Nat → Nat → Int32))) (X : Nat → Nat → Int32) (v1 : Int32) (v2 : Int32) (v3 : Int32) {res : Int32 × (Nat → Nat → Int32)} (C : zC p s m args meth c cX6_at 10 RX6 D (zTy cy) A) (hr : meth.sig.returnType = (some .int)) : ∀ (fu : Nat) (v4 v5 v6 v7 v8 : Int32) (h : f_X6_at_L48 k X v1 v2 v3 fu v4 v5 v6 v7 v8 = some res) (hk : ∀ (v4 v5 v6 v7 : Int32), k v4 v5 v6 v7 = some res → zG p l e (zrm 4) s m args below meth c 10 D A 0 0 (MQ below (va_Qi (fun (r : Int32) (_ : Unit) => r = res.1) (fun _ t => zB D (zTy cy) A (zW cy ad shM E res.2) t) A) args s 0 0 A) (zW cy ad shM E X) 205 [(0, .ref (ad 0)), (3, .int v3), (4, .int v4), (5, .int v5), (6, .int v6), (7, .int v7)] []), zG p l e (zrm 4) s m args below meth c 10 D A 0 0 (MQ below (va_Qi (fun (r : Int32) (_ : Unit) => r = res.1) (fun _ t => zB D (zTy cy) A (zW cy ad shM E res.2) t) A) args s 0 0 A) (zW cy ad shM E X) 48 [(0, .ref (ad 0)), (1, .int v1), (2, .int v2), (3, .int v3), (4, .int v4), (5, .int v5), (6, .int v6), (7, .int v7), (8, .int v8)] [] := by
  intro fu
  induction fu with
  | zero => intro v4 v5 v6 v7 v8 h hk; simp [f_X6_at_L48] at h
  | succ fu ih =>
    intro v4 v5 v6 v7 v8 h hk
    rw [f_X6_at_L48] at h
    refine g_iload (j := 8) C dX6_at_48 rfl ?_
    refine g_aload_n (j := 0) C dX6_at_50 rfl rfl ?_
    refine g_getr (k := 1) (N := 27) C sM_0 rfl zin_RX6 (by decide) rfl zfl_RX6_9 rfl dX6_at_51 ?_
    refine g_iconst (v := (nI 4)) C dX6_at_54 (by decide) ?_
    refine g_iald C sM_1 (by decide) dX6_at_55 ?_
    refine g_icmp_ge C dX6_at_56 (tgt := 205) (by decide) (fun hc_1008 => ?_) (fun hc_1008 => ?_)
    · replace h := (if_pos hc_1008).symm.trans h
      refine zG_sub (L' := [(0, .ref (ad 0)), (3, .int v3), (4, .int v4), (5, .int v5), (6, .int v6), (7, .int v7)]) [0, 3, 4, 5, 6, 7] rfl ?_
      exact hk v4 v5 v6 v7 h
    · replace h := (if_neg hc_1008).symm.trans h
      refine g_aload_n (j := 0) C dX6_at_59 rfl rfl ?_
      refine g_iload (j := 8) C dX6_at_60 rfl ?_
      obtain ⟨q_1009, hq_1010, h⟩ := bind_isome h
      refine g_vi (ws' := (zW cy ad shM E X)) (As := [.int v8]) (rest := []) (res := q_1009) C (c_X6_stands l D cy ad E X v8 hq_1010) zml_RX6_107 zcv_X6_stands (zW_get X sM_0) rfl rfl rfl ⟨Nat.le_of_ble_eq_true rfl, Nat.le_of_ble_eq_true rfl⟩ rfl rfl (Nat.le_of_ble_eq_true rfl) ⟨Nat.zero_le _, Nat.zero_le _⟩ dX6_at_62 ?_
      refine g_if_eq C dX6_at_65 (tgt := 199) (by decide) (fun hc_1011 => ?_) (fun hc_1011 => ?_)
      · replace h := (if_pos hc_1011).symm.trans h
        refine g_iinc (k := 8) (L' := [(8, .int (v8 + 1)), (0, .ref (ad 0)), (1, .int v1), (2, .int v2), (3, .int v3), (4, .int v4), (5, .int v5), (6, .int v6), (7, .int v7)]) C dX6_at_199 rfl (z_iinc (by decide)) (by decide) rfl ?_
        refine g_goto C dX6_at_202 (tgt := 48) (by decide) ?_
        refine zG_sub (L' := [(0, .ref (ad 0)), (1, .int v1), (2, .int v2), (3, .int v3), (4, .int v4), (5, .int v5), (6, .int v6), (7, .int v7), (8, .int (v8 + 1))]) [1, 2, 3, 4, 5, 6, 7, 8, 0] rfl ?_
        exact ih v4 v5 v6 v7 (v8 + 1) h hk
      · replace h := (if_neg hc_1011).symm.trans h
        refine g_aload_n (j := 0) C dX6_at_68 rfl rfl ?_
        refine g_iload (j := 8) C dX6_at_69 rfl ?_
        refine g_iconst (v := (nI 2)) C dX6_at_71 (by decide) ?_
        obtain ⟨q_1012, hq_1013, h⟩ := bind_isome h
        refine g_vi (ws' := (zW cy ad shM E X)) (As := [.int v8, .int (nI 2)]) (rest := []) (res := q_1012) C (c_X6_showAt l D cy ad E X v8 (nI 2) hq_1013) zml_RX6_89 zcv_X6_showAt (zW_get X sM_0) rfl rfl rfl ⟨Nat.le_of_ble_eq_true rfl, Nat.le_of_ble_eq_true rfl⟩ rfl rfl (Nat.le_of_ble_eq_true rfl) ⟨Nat.zero_le _, Nat.zero_le _⟩ dX6_at_72 ?_
        refine g_iload_n (j := 1) C dX6_at_75 rfl rfl ?_
        refine g_icmp_ne C dX6_at_76 (tgt := 199) (by decide) (fun hc_1014 => ?_) (fun hc_1014 => ?_)
        · replace h := (if_neg hc_1014).symm.trans h
          refine g_iinc (k := 8) (L' := [(8, .int (v8 + 1)), (0, .ref (ad 0)), (1, .int v1), (2, .int v2), (3, .int v3), (4, .int v4), (5, .int v5), (6, .int v6), (7, .int v7)]) C dX6_at_199 rfl (z_iinc (by decide)) (by decide) rfl ?_
          refine g_goto C dX6_at_202 (tgt := 48) (by decide) ?_
          refine zG_sub (L' := [(0, .ref (ad 0)), (1, .int v1), (2, .int v2), (3, .int v3), (4, .int v4), (5, .int v5), (6, .int v6), (7, .int v7), (8, .int (v8 + 1))]) [1, 2, 3, 4, 5, 6, 7, 8, 0] rfl ?_
          exact ih v4 v5 v6 v7 (v8 + 1) h hk
        · replace h := (if_pos hc_1014).symm.trans h
          refine g_iload_n (j := 2) C dX6_at_79 rfl rfl ?_
          refine g_aload_n (j := 0) C dX6_at_80 rfl rfl ?_
          refine g_iload (j := 8) C dX6_at_81 rfl ?_
          refine g_iconst (v := (nI 3)) C dX6_at_83 (by decide) ?_
          obtain ⟨q_1015, hq_1016, h⟩ := bind_isome h
          refine g_vi (ws' := (zW cy ad shM E X)) (As := [.int v8, .int (nI 3)]) (rest := [.int v2]) (res := q_1015) C (c_X6_showAt l D cy ad E X v8 (nI 3) hq_1016) zml_RX6_89 zcv_X6_showAt (zW_get X sM_0) rfl rfl rfl ⟨Nat.le_of_ble_eq_true rfl, Nat.le_of_ble_eq_true rfl⟩ rfl rfl (Nat.le_of_ble_eq_true rfl) ⟨Nat.zero_le _, Nat.zero_le _⟩ dX6_at_84 ?_
          refine g_aload_n (j := 0) C dX6_at_87 rfl rfl ?_
          refine g_iload (j := 8) C dX6_at_88 rfl ?_
          obtain ⟨q_1017, hq_1018, h⟩ := bind_isome h
          refine g_vi (ws' := (zW cy ad shM E X)) (As := [.int v8]) (rest := [.int q_1015, .int v2]) (res := q_1017) C (c_X6_endOf l D cy ad E X v8 hq_1018) zml_RX6_151 zcv_X6_endOf (zW_get X sM_0) rfl rfl rfl ⟨Nat.le_of_ble_eq_true rfl, Nat.le_of_ble_eq_true rfl⟩ rfl rfl (Nat.le_of_ble_eq_true rfl) ⟨Nat.zero_le _, Nat.zero_le _⟩ dX6_at_90 ?_
          refine g_iconst (v := (nI 1)) C dX6_at_93 (by decide) ?_
          refine g_isub C dX6_at_94 ?_
          refine g_si (ws' := (zW cy ad shM E X)) (As := [.int v2, .int q_1015, .int (q_1017 - (nI 1))]) (rest := []) (res := (f_X6_in v2 q_1015 (q_1017 - (nI 1)))) C (c_X6_in l D cy (zW cy ad shM E X) v2 q_1015 (q_1017 - (nI 1))) zml_RX6_64 zcs_X6_in rfl rfl ⟨Nat.le_of_ble_eq_true rfl, Nat.le_of_ble_eq_true rfl⟩ rfl rfl (Nat.le_of_ble_eq_true rfl) ⟨Nat.zero_le _, Nat.zero_le _⟩ dX6_at_95 ?_
          refine g_istore (L' := [(9, .int (f_X6_in v2 q_1015 (q_1017 - (nI 1)))), (0, .ref (ad 0)), (1, .int v1), (2, .int v2), (3, .int v3), (4, .int v4), (5, .int v5), (6, .int v6), (7, .int v7), (8, .int v8)]) C dX6_at_98 (by decide) rfl ?_
          refine g_iload (j := 5) C dX6_at_100 rfl ?_
          refine g_iload (j := 0) C dX6_at_102 rfl ?_
          refine g_if_eq C dX6_at_104 (tgt := 111) (by decide) (fun hc_1019 => ?_) (fun hc_1019 => ?_)
          · replace h := (if_pos hc_1019).symm.trans h
            refine g_iconst (v := (nI 0)) C dX6_at_111 (by decide) ?_
            refine g_iadd C dX6_at_112 ?_
            refine g_istore (L' := [(4, .int (v4 + (nI 0))), (9, .int (f_X6_in v2 q_1015 (q_1017 - (nI 1)))), (0, .ref (ad 0)), (1, .int v1), (2, .int v2), (3, .int v3), (5, .int v5), (6, .int v6), (7, .int v7), (8, .int v8)]) C dX6_at_113 (by decide) rfl ?_
            refine g_iload (j := 7) C dX6_at_115 rfl ?_
            refine g_iload (j := 1) C dX6_at_117 rfl ?_
            refine g_if_eq C dX6_at_119 (tgt := 137) (by decide) (fun _ => ?_) (fun h9 => absurd hc_1019 h9)
            refine g_iconst (v := (nI 0)) C dX6_at_137 (by decide) ?_
            refine g_iadd C dX6_at_138 ?_
            refine g_istore (L' := [(6, .int (v6 + (nI 0))), (4, .int (v4 + (nI 0))), (9, .int (f_X6_in v2 q_1015 (q_1017 - (nI 1)))), (0, .ref (ad 0)), (1, .int v1), (2, .int v2), (3, .int v3), (5, .int v5), (7, .int v7), (8, .int v8)]) C dX6_at_139 (by decide) rfl ?_
            refine g_iload (j := 2) C dX6_at_141 rfl ?_
            refine g_if_eq C dX6_at_143 (tgt := 157) (by decide) (fun _ => ?_) (fun h9 => absurd hc_1019 h9)
            refine g_iload (j := 8) C dX6_at_157 rfl ?_
            refine g_istore (L' := [(7, .int v7), (6, .int (v6 + (nI 0))), (4, .int (v4 + (nI 0))), (9, .int (f_X6_in v2 q_1015 (q_1017 - (nI 1)))), (0, .ref (ad 0)), (1, .int v1), (2, .int v2), (3, .int v3), (5, .int v5), (8, .int v8)]) C dX6_at_159 (by decide) rfl ?_
            refine g_iload (j := 8) C dX6_at_161 rfl ?_
            refine g_iload_n (j := 6) C dX6_at_163 rfl rfl ?_
            refine g_aload_n (j := 4) C dX6_at_164 rfl rfl ?_
            refine g_iload (j := 9) C dX6_at_165 rfl ?_
            obtain ⟨q_1020, hq_1021, h⟩ := bind_isome h
            refine g_vi (ws' := (zW cy ad shM E X)) (As := [.int v8]) (rest := [.int v2, .int v5]) (res := q_1020) C (c_X6_endOf l D cy ad E X v8 hq_1021) zml_RX6_151 zcv_X6_endOf (zW_get X sM_0) rfl rfl rfl ⟨Nat.le_of_ble_eq_true rfl, Nat.le_of_ble_eq_true rfl⟩ rfl rfl (Nat.le_of_ble_eq_true rfl) ⟨Nat.zero_le _, Nat.zero_le _⟩ dX6_at_167 ?_
            refine g_aload_n (j := 4) C dX6_at_170 rfl rfl ?_
            refine g_iload (j := 9) C dX6_at_171 rfl ?_
            obtain ⟨q_1022, hq_1023, h⟩ := bind_isome h
            refine g_vi (ws' := (zW cy ad shM E X)) (As := [.int v8]) (rest := [.int q_1020, .int v2, .int v5]) (res := q_1022) C (c_X6_endOf l D cy ad E X v8 hq_1023) zml_RX6_151 zcv_X6_endOf (zW_get X sM_0) rfl rfl rfl ⟨Nat.le_of_ble_eq_true rfl, Nat.le_of_ble_eq_true rfl⟩ rfl rfl (Nat.le_of_ble_eq_true rfl) ⟨Nat.zero_le _, Nat.zero_le _⟩ dX6_at_173 ?_
            refine g_aload_n (j := 4) C dX6_at_176 rfl rfl ?_
            refine g_iload (j := 9) C dX6_at_177 rfl ?_
            obtain ⟨q_1024, hq_1025, h⟩ := bind_isome h
            refine g_vi (ws' := (zW cy ad shM E X)) (As := [.int v8]) (rest := [.int q_1022, .int q_1020, .int v2, .int v5]) (res := q_1024) C (c_X6_cleanOf l D cy ad E X v8 hq_1025) zml_RX6_154 zcv_X6_cleanOf (zW_get X sM_0) rfl rfl rfl ⟨Nat.le_of_ble_eq_true rfl, Nat.le_of_ble_eq_true rfl⟩ rfl rfl (Nat.le_of_ble_eq_true rfl) ⟨Nat.zero_le _, Nat.zero_le _⟩ dX6_at_179 ?_
            refine g_iadd C dX6_at_182 ?_
            refine g_iconst (v := (nI 1)) C dX6_at_183 (by decide) ?_
            refine g_isub C dX6_at_184 ?_
            refine g_si (ws' := (zW cy ad shM E X)) (As := [.int v2, .int q_1020, .int ((q_1022 + q_1024) - (nI 1))]) (rest := [.int v5]) (res := (f_X6_in v2 q_1020 ((q_1022 + q_1024) - (nI 1)))) C (c_X6_in l D cy (zW cy ad shM E X) v2 q_1020 ((q_1022 + q_1024) - (nI 1))) zml_RX6_64 zcs_X6_in rfl rfl ⟨Nat.le_of_ble_eq_true rfl, Nat.le_of_ble_eq_true rfl⟩ rfl rfl (Nat.le_of_ble_eq_true rfl) ⟨Nat.zero_le _, Nat.zero_le _⟩ dX6_at_185 ?_
            refine g_if_eq C dX6_at_188 (tgt := 195) (by decide) (fun hc_1026 => ?_) (fun hc_1026 => ?_)
            · replace h := (if_pos hc_1026).symm.trans h
              refine g_iconst (v := (nI 0)) C dX6_at_195 (by decide) ?_
              refine g_iadd C dX6_at_196 ?_
              refine g_istore (L' := [(5, .int (v5 + (nI 0))), (7, .int v7), (6, .int (v6 + (nI 0))), (4, .int (v4 + (nI 0))), (9, .int (f_X6_in v2 q_1015 (q_1017 - (nI 1)))), (0, .ref (ad 0)), (1, .int v1), (2, .int v2), (3, .int v3), (8, .int v8)]) C dX6_at_197 (by decide) rfl ?_
              refine g_iinc (k := 9) (L' := [(8, .int (v8 + 1)), (5, .int (v5 + (nI 0))), (7, .int v7), (6, .int (v6 + (nI 0))), (4, .int (v4 + (nI 0))), (9, .int (f_X6_in v2 q_1015 (q_1017 - (nI 1)))), (0, .ref (ad 0)), (1, .int v1), (2, .int v2), (3, .int v3)]) C dX6_at_199 rfl (z_iinc (by decide)) (by decide) rfl ?_
              refine g_goto C dX6_at_202 (tgt := 48) (by decide) ?_
              refine zG_sub (L' := [(0, .ref (ad 0)), (1, .int v1), (2, .int v2), (3, .int v3), (4, .int (v4 + (nI 0))), (5, .int (v5 + (nI 0))), (6, .int (v6 + (nI 0))), (7, .int v7), (8, .int (v8 + 1))]) [6, 7, 8, 9, 4, 1, 3, 2, 0] rfl ?_
              exact ih (v4 + (nI 0)) (v5 + (nI 0)) (v6 + (nI 0)) v7 (v8 + 1) h hk
            · replace h := (if_neg hc_1026).symm.trans h
              refine g_iconst (v := (nI 1)) C dX6_at_191 (by decide) ?_
              refine g_goto C dX6_at_192 (tgt := 196) (by decide) ?_
              refine g_iadd C dX6_at_196 ?_
              refine g_istore (L' := [(5, .int (v5 + (nI 1))), (7, .int v7), (6, .int (v6 + (nI 0))), (4, .int (v4 + (nI 0))), (9, .int (f_X6_in v2 q_1015 (q_1017 - (nI 1)))), (0, .ref (ad 0)), (1, .int v1), (2, .int v2), (3, .int v3), (8, .int v8)]) C dX6_at_197 (by decide) rfl ?_
              refine g_iinc (k := 9) (L' := [(8, .int (v8 + 1)), (5, .int (v5 + (nI 1))), (7, .int v7), (6, .int (v6 + (nI 0))), (4, .int (v4 + (nI 0))), (9, .int (f_X6_in v2 q_1015 (q_1017 - (nI 1)))), (0, .ref (ad 0)), (1, .int v1), (2, .int v2), (3, .int v3)]) C dX6_at_199 rfl (z_iinc (by decide)) (by decide) rfl ?_
              refine g_goto C dX6_at_202 (tgt := 48) (by decide) ?_
              refine zG_sub (L' := [(0, .ref (ad 0)), (1, .int v1), (2, .int v2), (3, .int v3), (4, .int (v4 + (nI 0))), (5, .int (v5 + (nI 1))), (6, .int (v6 + (nI 0))), (7, .int v7), (8, .int (v8 + 1))]) [6, 7, 8, 9, 4, 1, 3, 2, 0] rfl ?_
              exact ih (v4 + (nI 0)) (v5 + (nI 1)) (v6 + (nI 0)) v7 (v8 + 1) h hk
          · replace h := (if_neg hc_1019).symm.trans h
            refine g_iconst (v := (nI 1)) C dX6_at_107 (by decide) ?_
            refine g_goto C dX6_at_108 (tgt := 112) (by decide) ?_
            refine g_iadd C dX6_at_112 ?_
            refine g_istore (L' := [(4, .int (v4 + (nI 1))), (9, .int (f_X6_in v2 q_1015 (q_1017 - (nI 1)))), (0, .ref (ad 0)), (1, .int v1), (2, .int v2), (3, .int v3), (5, .int v5), (6, .int v6), (7, .int v7), (8, .int v8)]) C dX6_at_113 (by decide) rfl ?_
            refine g_iload (j := 7) C dX6_at_115 rfl ?_
            refine g_iload (j := 1) C dX6_at_117 rfl ?_
            refine g_if_eq C dX6_at_119 (tgt := 137) (by decide) (fun h9 => absurd h9 hc_1019) (fun _ => ?_)
            refine g_aload_n (j := 2) C dX6_at_122 rfl rfl ?_
            refine g_aload_n (j := 2) C dX6_at_123 rfl rfl ?_
            refine g_iload (j := 9) C dX6_at_124 rfl ?_
            refine g_iconst (v := (nI 0)) C dX6_at_126 (by decide) ?_
            obtain ⟨q_1027, hq_1028, h⟩ := bind_isome h
            refine g_vi (ws' := (zW cy ad shM E X)) (As := [.int v8, .int (nI 0)]) (rest := [.ref (ad 0), .int v6]) (res := q_1027) C (c_X6_showAt l D cy ad E X v8 (nI 0) hq_1028) zml_RX6_89 zcv_X6_showAt (zW_get X sM_0) rfl rfl rfl ⟨Nat.le_of_ble_eq_true rfl, Nat.le_of_ble_eq_true rfl⟩ rfl rfl (Nat.le_of_ble_eq_true rfl) ⟨Nat.zero_le _, Nat.zero_le _⟩ dX6_at_127 ?_
            refine g_iconst (v := (nI 0)) C dX6_at_130 (by decide) ?_
            obtain ⟨q_1029, hq_1030, h⟩ := bind_isome h
            refine g_vi (ws' := (zW cy ad shM E X)) (As := [.int q_1027, .int (nI 0)]) (rest := [.int v6]) (res := q_1029) C (c_X6_hallAt l D cy ad E X q_1027 (nI 0) hq_1030) zml_RX6_95 zcv_X6_hallAt (zW_get X sM_0) rfl rfl rfl ⟨Nat.le_of_ble_eq_true rfl, Nat.le_of_ble_eq_true rfl⟩ rfl rfl (Nat.le_of_ble_eq_true rfl) ⟨Nat.zero_le _, Nat.zero_le _⟩ dX6_at_131 ?_
            refine g_goto C dX6_at_134 (tgt := 138) (by decide) ?_
            refine g_iadd C dX6_at_138 ?_
            refine g_istore (L' := [(6, .int (v6 + q_1029)), (4, .int (v4 + (nI 1))), (9, .int (f_X6_in v2 q_1015 (q_1017 - (nI 1)))), (0, .ref (ad 0)), (1, .int v1), (2, .int v2), (3, .int v3), (5, .int v5), (7, .int v7), (8, .int v8)]) C dX6_at_139 (by decide) rfl ?_
            refine g_iload (j := 2) C dX6_at_141 rfl ?_
            refine g_if_eq C dX6_at_143 (tgt := 157) (by decide) (fun h9 => absurd h9 hc_1019) (fun _ => ?_)
            refine g_iload (j := 8) C dX6_at_146 rfl ?_
            refine g_iconst (v := (-1 : Int32)) C dX6_at_148 (by decide) ?_
            refine g_icmp_ne C dX6_at_149 (tgt := 157) (by decide) (fun hc_1031 => ?_) (fun hc_1031 => ?_)
            · replace h := (if_neg hc_1031).symm.trans h
              refine g_iload (j := 8) C dX6_at_157 rfl ?_
              refine g_istore (L' := [(7, .int v7), (6, .int (v6 + q_1029)), (4, .int (v4 + (nI 1))), (9, .int (f_X6_in v2 q_1015 (q_1017 - (nI 1)))), (0, .ref (ad 0)), (1, .int v1), (2, .int v2), (3, .int v3), (5, .int v5), (8, .int v8)]) C dX6_at_159 (by decide) rfl ?_
              refine g_iload (j := 8) C dX6_at_161 rfl ?_
              refine g_iload_n (j := 6) C dX6_at_163 rfl rfl ?_
              refine g_aload_n (j := 4) C dX6_at_164 rfl rfl ?_
              refine g_iload (j := 9) C dX6_at_165 rfl ?_
              obtain ⟨q_1032, hq_1033, h⟩ := bind_isome h
              refine g_vi (ws' := (zW cy ad shM E X)) (As := [.int v8]) (rest := [.int v2, .int v5]) (res := q_1032) C (c_X6_endOf l D cy ad E X v8 hq_1033) zml_RX6_151 zcv_X6_endOf (zW_get X sM_0) rfl rfl rfl ⟨Nat.le_of_ble_eq_true rfl, Nat.le_of_ble_eq_true rfl⟩ rfl rfl (Nat.le_of_ble_eq_true rfl) ⟨Nat.zero_le _, Nat.zero_le _⟩ dX6_at_167 ?_
              refine g_aload_n (j := 4) C dX6_at_170 rfl rfl ?_
              refine g_iload (j := 9) C dX6_at_171 rfl ?_
              obtain ⟨q_1034, hq_1035, h⟩ := bind_isome h
              refine g_vi (ws' := (zW cy ad shM E X)) (As := [.int v8]) (rest := [.int q_1032, .int v2, .int v5]) (res := q_1034) C (c_X6_endOf l D cy ad E X v8 hq_1035) zml_RX6_151 zcv_X6_endOf (zW_get X sM_0) rfl rfl rfl ⟨Nat.le_of_ble_eq_true rfl, Nat.le_of_ble_eq_true rfl⟩ rfl rfl (Nat.le_of_ble_eq_true rfl) ⟨Nat.zero_le _, Nat.zero_le _⟩ dX6_at_173 ?_
              refine g_aload_n (j := 4) C dX6_at_176 rfl rfl ?_
              refine g_iload (j := 9) C dX6_at_177 rfl ?_
              obtain ⟨q_1036, hq_1037, h⟩ := bind_isome h
              refine g_vi (ws' := (zW cy ad shM E X)) (As := [.int v8]) (rest := [.int q_1034, .int q_1032, .int v2, .int v5]) (res := q_1036) C (c_X6_cleanOf l D cy ad E X v8 hq_1037) zml_RX6_154 zcv_X6_cleanOf (zW_get X sM_0) rfl rfl rfl ⟨Nat.le_of_ble_eq_true rfl, Nat.le_of_ble_eq_true rfl⟩ rfl rfl (Nat.le_of_ble_eq_true rfl) ⟨Nat.zero_le _, Nat.zero_le _⟩ dX6_at_179 ?_
              refine g_iadd C dX6_at_182 ?_
              refine g_iconst (v := (nI 1)) C dX6_at_183 (by decide) ?_
              refine g_isub C dX6_at_184 ?_
              refine g_si (ws' := (zW cy ad shM E X)) (As := [.int v2, .int q_1032, .int ((q_1034 + q_1036) - (nI 1))]) (rest := [.int v5]) (res := (f_X6_in v2 q_1032 ((q_1034 + q_1036) - (nI 1)))) C (c_X6_in l D cy (zW cy ad shM E X) v2 q_1032 ((q_1034 + q_1036) - (nI 1))) zml_RX6_64 zcs_X6_in rfl rfl ⟨Nat.le_of_ble_eq_true rfl, Nat.le_of_ble_eq_true rfl⟩ rfl rfl (Nat.le_of_ble_eq_true rfl) ⟨Nat.zero_le _, Nat.zero_le _⟩ dX6_at_185 ?_
              refine g_if_eq C dX6_at_188 (tgt := 195) (by decide) (fun hc_1038 => ?_) (fun hc_1038 => ?_)
              · replace h := (if_pos hc_1038).symm.trans h
                refine g_iconst (v := (nI 0)) C dX6_at_195 (by decide) ?_
                refine g_iadd C dX6_at_196 ?_
                refine g_istore (L' := [(5, .int (v5 + (nI 0))), (7, .int v7), (6, .int (v6 + q_1029)), (4, .int (v4 + (nI 1))), (9, .int (f_X6_in v2 q_1015 (q_1017 - (nI 1)))), (0, .ref (ad 0)), (1, .int v1), (2, .int v2), (3, .int v3), (8, .int v8)]) C dX6_at_197 (by decide) rfl ?_
                refine g_iinc (k := 9) (L' := [(8, .int (v8 + 1)), (5, .int (v5 + (nI 0))), (7, .int v7), (6, .int (v6 + q_1029)), (4, .int (v4 + (nI 1))), (9, .int (f_X6_in v2 q_1015 (q_1017 - (nI 1)))), (0, .ref (ad 0)), (1, .int v1), (2, .int v2), (3, .int v3)]) C dX6_at_199 rfl (z_iinc (by decide)) (by decide) rfl ?_
                refine g_goto C dX6_at_202 (tgt := 48) (by decide) ?_
                refine zG_sub (L' := [(0, .ref (ad 0)), (1, .int v1), (2, .int v2), (3, .int v3), (4, .int (v4 + (nI 1))), (5, .int (v5 + (nI 0))), (6, .int (v6 + q_1029)), (7, .int v7), (8, .int (v8 + 1))]) [6, 7, 8, 9, 4, 1, 3, 2, 0] rfl ?_
                exact ih (v4 + (nI 1)) (v5 + (nI 0)) (v6 + q_1029) v7 (v8 + 1) h hk
              · replace h := (if_neg hc_1038).symm.trans h
                refine g_iconst (v := (nI 1)) C dX6_at_191 (by decide) ?_
                refine g_goto C dX6_at_192 (tgt := 196) (by decide) ?_
                refine g_iadd C dX6_at_196 ?_
                refine g_istore (L' := [(5, .int (v5 + (nI 1))), (7, .int v7), (6, .int (v6 + q_1029)), (4, .int (v4 + (nI 1))), (9, .int (f_X6_in v2 q_1015 (q_1017 - (nI 1)))), (0, .ref (ad 0)), (1, .int v1), (2, .int v2), (3, .int v3), (8, .int v8)]) C dX6_at_197 (by decide) rfl ?_
                refine g_iinc (k := 9) (L' := [(8, .int (v8 + 1)), (5, .int (v5 + (nI 1))), (7, .int v7), (6, .int (v6 + q_1029)), (4, .int (v4 + (nI 1))), (9, .int (f_X6_in v2 q_1015 (q_1017 - (nI 1)))), (0, .ref (ad 0)), (1, .int v1), (2, .int v2), (3, .int v3)]) C dX6_at_199 rfl (z_iinc (by decide)) (by decide) rfl ?_
                refine g_goto C dX6_at_202 (tgt := 48) (by decide) ?_
                refine zG_sub (L' := [(0, .ref (ad 0)), (1, .int v1), (2, .int v2), (3, .int v3), (4, .int (v4 + (nI 1))), (5, .int (v5 + (nI 1))), (6, .int (v6 + q_1029)), (7, .int v7), (8, .int (v8 + 1))]) [6, 7, 8, 9, 4, 1, 3, 2, 0] rfl ?_
                exact ih (v4 + (nI 1)) (v5 + (nI 1)) (v6 + q_1029) v7 (v8 + 1) h hk
            · replace h := (if_pos hc_1031).symm.trans h
              refine g_iload (j := 9) C dX6_at_152 rfl ?_
              refine g_goto C dX6_at_154 (tgt := 159) (by decide) ?_
              refine g_istore (L' := [(7, .int v8), (6, .int (v6 + q_1029)), (4, .int (v4 + (nI 1))), (9, .int (f_X6_in v2 q_1015 (q_1017 - (nI 1)))), (0, .ref (ad 0)), (1, .int v1), (2, .int v2), (3, .int v3), (5, .int v5), (8, .int v8)]) C dX6_at_159 (by decide) rfl ?_
              refine g_iload (j := 8) C dX6_at_161 rfl ?_
              refine g_iload_n (j := 6) C dX6_at_163 rfl rfl ?_
              refine g_aload_n (j := 4) C dX6_at_164 rfl rfl ?_
              refine g_iload (j := 9) C dX6_at_165 rfl ?_
              obtain ⟨q_1039, hq_1040, h⟩ := bind_isome h
              refine g_vi (ws' := (zW cy ad shM E X)) (As := [.int v8]) (rest := [.int v2, .int v5]) (res := q_1039) C (c_X6_endOf l D cy ad E X v8 hq_1040) zml_RX6_151 zcv_X6_endOf (zW_get X sM_0) rfl rfl rfl ⟨Nat.le_of_ble_eq_true rfl, Nat.le_of_ble_eq_true rfl⟩ rfl rfl (Nat.le_of_ble_eq_true rfl) ⟨Nat.zero_le _, Nat.zero_le _⟩ dX6_at_167 ?_
              refine g_aload_n (j := 4) C dX6_at_170 rfl rfl ?_
              refine g_iload (j := 9) C dX6_at_171 rfl ?_
              obtain ⟨q_1041, hq_1042, h⟩ := bind_isome h
              refine g_vi (ws' := (zW cy ad shM E X)) (As := [.int v8]) (rest := [.int q_1039, .int v2, .int v5]) (res := q_1041) C (c_X6_endOf l D cy ad E X v8 hq_1042) zml_RX6_151 zcv_X6_endOf (zW_get X sM_0) rfl rfl rfl ⟨Nat.le_of_ble_eq_true rfl, Nat.le_of_ble_eq_true rfl⟩ rfl rfl (Nat.le_of_ble_eq_true rfl) ⟨Nat.zero_le _, Nat.zero_le _⟩ dX6_at_173 ?_
              refine g_aload_n (j := 4) C dX6_at_176 rfl rfl ?_
              refine g_iload (j := 9) C dX6_at_177 rfl ?_
              obtain ⟨q_1043, hq_1044, h⟩ := bind_isome h
              refine g_vi (ws' := (zW cy ad shM E X)) (As := [.int v8]) (rest := [.int q_1041, .int q_1039, .int v2, .int v5]) (res := q_1043) C (c_X6_cleanOf l D cy ad E X v8 hq_1044) zml_RX6_154 zcv_X6_cleanOf (zW_get X sM_0) rfl rfl rfl ⟨Nat.le_of_ble_eq_true rfl, Nat.le_of_ble_eq_true rfl⟩ rfl rfl (Nat.le_of_ble_eq_true rfl) ⟨Nat.zero_le _, Nat.zero_le _⟩ dX6_at_179 ?_
              refine g_iadd C dX6_at_182 ?_
              refine g_iconst (v := (nI 1)) C dX6_at_183 (by decide) ?_
              refine g_isub C dX6_at_184 ?_
              refine g_si (ws' := (zW cy ad shM E X)) (As := [.int v2, .int q_1039, .int ((q_1041 + q_1043) - (nI 1))]) (rest := [.int v5]) (res := (f_X6_in v2 q_1039 ((q_1041 + q_1043) - (nI 1)))) C (c_X6_in l D cy (zW cy ad shM E X) v2 q_1039 ((q_1041 + q_1043) - (nI 1))) zml_RX6_64 zcs_X6_in rfl rfl ⟨Nat.le_of_ble_eq_true rfl, Nat.le_of_ble_eq_true rfl⟩ rfl rfl (Nat.le_of_ble_eq_true rfl) ⟨Nat.zero_le _, Nat.zero_le _⟩ dX6_at_185 ?_
              refine g_if_eq C dX6_at_188 (tgt := 195) (by decide) (fun hc_1045 => ?_) (fun hc_1045 => ?_)
              · replace h := (if_pos hc_1045).symm.trans h
                refine g_iconst (v := (nI 0)) C dX6_at_195 (by decide) ?_
                refine g_iadd C dX6_at_196 ?_
                refine g_istore (L' := [(5, .int (v5 + (nI 0))), (7, .int v8), (6, .int (v6 + q_1029)), (4, .int (v4 + (nI 1))), (9, .int (f_X6_in v2 q_1015 (q_1017 - (nI 1)))), (0, .ref (ad 0)), (1, .int v1), (2, .int v2), (3, .int v3), (8, .int v8)]) C dX6_at_197 (by decide) rfl ?_
                refine g_iinc (k := 9) (L' := [(8, .int (v8 + 1)), (5, .int (v5 + (nI 0))), (7, .int v8), (6, .int (v6 + q_1029)), (4, .int (v4 + (nI 1))), (9, .int (f_X6_in v2 q_1015 (q_1017 - (nI 1)))), (0, .ref (ad 0)), (1, .int v1), (2, .int v2), (3, .int v3)]) C dX6_at_199 rfl (z_iinc (by decide)) (by decide) rfl ?_
                refine g_goto C dX6_at_202 (tgt := 48) (by decide) ?_
                refine zG_sub (L' := [(0, .ref (ad 0)), (1, .int v1), (2, .int v2), (3, .int v3), (4, .int (v4 + (nI 1))), (5, .int (v5 + (nI 0))), (6, .int (v6 + q_1029)), (7, .int v8), (8, .int (v8 + 1))]) [6, 7, 8, 9, 4, 1, 3, 2, 0] rfl ?_
                exact ih (v4 + (nI 1)) (v5 + (nI 0)) (v6 + q_1029) v8 (v8 + 1) h hk
              · replace h := (if_neg hc_1045).symm.trans h
                refine g_iconst (v := (nI 1)) C dX6_at_191 (by decide) ?_
                refine g_goto C dX6_at_192 (tgt := 196) (by decide) ?_
                refine g_iadd C dX6_at_196 ?_
                refine g_istore (L' := [(5, .int (v5 + (nI 1))), (7, .int v8), (6, .int (v6 + q_1029)), (4, .int (v4 + (nI 1))), (9, .int (f_X6_in v2 q_1015 (q_1017 - (nI 1)))), (0, .ref (ad 0)), (1, .int v1), (2, .int v2), (3, .int v3), (8, .int v8)]) C dX6_at_197 (by decide) rfl ?_
                refine g_iinc (k := 9) (L' := [(8, .int (v8 + 1)), (5, .int (v5 + (nI 1))), (7, .int v8), (6, .int (v6 + q_1029)), (4, .int (v4 + (nI 1))), (9, .int (f_X6_in v2 q_1015 (q_1017 - (nI 1)))), (0, .ref (ad 0)), (1, .int v1), (2, .int v2), (3, .int v3)]) C dX6_at_199 rfl (z_iinc (by decide)) (by decide) rfl ?_
                refine g_goto C dX6_at_202 (tgt := 48) (by decide) ?_
                refine zG_sub (L' := [(0, .ref (ad 0)), (1, .int v1), (2, .int v2), (3, .int v3), (4, .int (v4 + (nI 1))), (5, .int (v5 + (nI 1))), (6, .int (v6 + q_1029)), (7, .int v8), (8, .int (v8 + 1))]) [6, 7, 8, 9, 4, 1, 3, 2, 0] rfl ?_
                exact ih (v4 + (nI 1)) (v5 + (nI 1)) (v6 + q_1029) v8 (v8 + 1) h hk
def f_X6_at (X : Nat → Nat → Int32) (v1 v2 v3 : Int32) : Option (Int32 × (Nat → Nat → Int32)) := (if (f_X6_isDay v1) = 0 then (zlet (f_X6_fails X (nI 1)) fun q_2 => some (q_2.1, q_2.2)) else (if (f_X6_in v2 (nI 0) (nI 1200)) = 0 then (zlet (f_X6_fails X (nI 1)) fun q_5 => some (q_5.1, q_5.2)) else (if (f_X6_in v3 (nI 0) (nI 3)) = 0 then (zlet (f_X6_fails X (nI 1)) fun q_1061 => some (q_1061.1, q_1061.2)) else f_X6_at_L48 (fun v4_1046 v5_1047 v6_1048 v7_1049 => (if v3 = 0 then (zlet (f_X6_done X v4_1046) fun q_1059 => some (q_1059.1, q_1059.2)) else (if v3 = (nI 1) then (zlet (f_X6_done X v5_1047) fun q_1057 => some (q_1057.1, q_1057.2)) else (if v3 = (nI 2) then (zlet (f_X6_done X v6_1048) fun q_1055 => some (q_1055.1, q_1055.2)) else (zlet (f_X6_done X v7_1049) fun q_1053 => some (q_1053.1, q_1053.2)))))) X v1 v2 v3 zFuel (nI 0) (nI 0) (nI 0) (-1 : Int32) (nI 0))))
set_option maxRecDepth 100000 in
set_option maxHeartbeats 4000000 in
theorem c_X6_at (l : Launch) (D : va_G) (cy : Nat → ClassId) (ad : Nat → Nat) (E : va_W) (X : Nat → Nat → Int32) (v1 v2 v3 : Int32) {res : Int32 × (Nat → Nat → Int32)} (h : f_X6_at X v1 v2 v3 = some res) : zMi l yX6_at cX6_at 10 (some .int) (zrm 4) D (zTy cy) (zW cy ad shM E X) [.ref (ad 0), .int v1, .int v2, .int v3] res.1 (zW cy ad shM E res.2) := by
  refine zMi.of (by decide) (Nat.le_of_ble_eq_true rfl) ?_
  intro p e s m below meth c A C hr
  unfold f_X6_at at h
  refine zG_L (L' := [(0, .ref (ad 0)), (1, .int v1), (2, .int v2), (3, .int v3)]) rfl ?_
  refine g_iload_n (j := 1) C dX6_at_0 rfl rfl ?_
  refine g_si (ws' := (zW cy ad shM E X)) (As := [.int v1]) (rest := []) (res := (f_X6_isDay v1)) C (c_X6_isDay l D cy (zW cy ad shM E X) v1) zml_RX6_74 zcs_X6_isDay rfl rfl ⟨Nat.le_of_ble_eq_true rfl, Nat.le_of_ble_eq_true rfl⟩ rfl rfl (Nat.le_of_ble_eq_true rfl) ⟨Nat.zero_le _, Nat.zero_le _⟩ dX6_at_1 ?_
  refine g_if_eq C dX6_at_4 (tgt := 27) (by decide) (fun hc_1 => ?_) (fun hc_1 => ?_)
  · replace h := (if_pos hc_1).symm.trans h
    refine g_aload_n (j := 0) C dX6_at_27 rfl rfl ?_
    refine g_iconst (v := (nI 1)) C dX6_at_28 (by decide) ?_
    obtain ⟨q_2, e_3, h⟩ := zlet_ex h
    refine g_vi (ws' := (zW cy ad shM E q_2.2)) (As := [.int (nI 1)]) (rest := []) (res := q_2.1) C ((by rw [e_3]; exact c_X6_fails l D cy ad E X (nI 1))) zml_RX6_45 zcv_X6_fails (zW_get X sM_0) rfl rfl rfl ⟨Nat.le_of_ble_eq_true rfl, Nat.le_of_ble_eq_true rfl⟩ rfl rfl (Nat.le_of_ble_eq_true rfl) ⟨Nat.zero_le _, Nat.zero_le _⟩ dX6_at_29 ?_
    obtain rfl := Option.some.inj h
    exact g_iret rfl C hr rfl dX6_at_32
  · replace h := (if_neg hc_1).symm.trans h
    refine g_iload_n (j := 2) C dX6_at_7 rfl rfl ?_
    refine g_iconst (v := (nI 0)) C dX6_at_8 (by decide) ?_
    refine g_sipush (v := (nI 1200)) C dX6_at_9 (by decide) ?_
    refine g_si (ws' := (zW cy ad shM E X)) (As := [.int v2, .int (nI 0), .int (nI 1200)]) (rest := []) (res := (f_X6_in v2 (nI 0) (nI 1200))) C (c_X6_in l D cy (zW cy ad shM E X) v2 (nI 0) (nI 1200)) zml_RX6_64 zcs_X6_in rfl rfl ⟨Nat.le_of_ble_eq_true rfl, Nat.le_of_ble_eq_true rfl⟩ rfl rfl (Nat.le_of_ble_eq_true rfl) ⟨Nat.zero_le _, Nat.zero_le _⟩ dX6_at_12 ?_
    refine g_if_eq C dX6_at_15 (tgt := 27) (by decide) (fun hc_4 => ?_) (fun hc_4 => ?_)
    · replace h := (if_pos hc_4).symm.trans h
      refine g_aload_n (j := 0) C dX6_at_27 rfl rfl ?_
      refine g_iconst (v := (nI 1)) C dX6_at_28 (by decide) ?_
      obtain ⟨q_5, e_6, h⟩ := zlet_ex h
      refine g_vi (ws' := (zW cy ad shM E q_5.2)) (As := [.int (nI 1)]) (rest := []) (res := q_5.1) C ((by rw [e_6]; exact c_X6_fails l D cy ad E X (nI 1))) zml_RX6_45 zcv_X6_fails (zW_get X sM_0) rfl rfl rfl ⟨Nat.le_of_ble_eq_true rfl, Nat.le_of_ble_eq_true rfl⟩ rfl rfl (Nat.le_of_ble_eq_true rfl) ⟨Nat.zero_le _, Nat.zero_le _⟩ dX6_at_29 ?_
      obtain rfl := Option.some.inj h
      exact g_iret rfl C hr rfl dX6_at_32
    · replace h := (if_neg hc_4).symm.trans h
      refine g_iload_n (j := 3) C dX6_at_18 rfl rfl ?_
      refine g_iconst (v := (nI 0)) C dX6_at_19 (by decide) ?_
      refine g_iconst (v := (nI 3)) C dX6_at_20 (by decide) ?_
      refine g_si (ws' := (zW cy ad shM E X)) (As := [.int v3, .int (nI 0), .int (nI 3)]) (rest := []) (res := (f_X6_in v3 (nI 0) (nI 3))) C (c_X6_in l D cy (zW cy ad shM E X) v3 (nI 0) (nI 3)) zml_RX6_64 zcs_X6_in rfl rfl ⟨Nat.le_of_ble_eq_true rfl, Nat.le_of_ble_eq_true rfl⟩ rfl rfl (Nat.le_of_ble_eq_true rfl) ⟨Nat.zero_le _, Nat.zero_le _⟩ dX6_at_21 ?_
      refine g_if_ne C dX6_at_24 (tgt := 33) (by decide) (fun hc_7 => ?_) (fun hc_7 => ?_)
      · replace h := (if_neg hc_7).symm.trans h
        refine g_iconst (v := (nI 0)) C dX6_at_33 (by decide) ?_
        refine g_istore (L' := [(4, .int (nI 0)), (0, .ref (ad 0)), (1, .int v1), (2, .int v2), (3, .int v3)]) C dX6_at_34 (by decide) rfl ?_
        refine g_iconst (v := (nI 0)) C dX6_at_36 (by decide) ?_
        refine g_istore (L' := [(5, .int (nI 0)), (4, .int (nI 0)), (0, .ref (ad 0)), (1, .int v1), (2, .int v2), (3, .int v3)]) C dX6_at_37 (by decide) rfl ?_
        refine g_iconst (v := (nI 0)) C dX6_at_39 (by decide) ?_
        refine g_istore (L' := [(6, .int (nI 0)), (5, .int (nI 0)), (4, .int (nI 0)), (0, .ref (ad 0)), (1, .int v1), (2, .int v2), (3, .int v3)]) C dX6_at_40 (by decide) rfl ?_
        refine g_iconst (v := (-1 : Int32)) C dX6_at_42 (by decide) ?_
        refine g_istore (L' := [(7, .int (-1 : Int32)), (6, .int (nI 0)), (5, .int (nI 0)), (4, .int (nI 0)), (0, .ref (ad 0)), (1, .int v1), (2, .int v2), (3, .int v3)]) C dX6_at_43 (by decide) rfl ?_
        refine g_iconst (v := (nI 0)) C dX6_at_45 (by decide) ?_
        refine g_istore (L' := [(8, .int (nI 0)), (7, .int (-1 : Int32)), (6, .int (nI 0)), (5, .int (nI 0)), (4, .int (nI 0)), (0, .ref (ad 0)), (1, .int v1), (2, .int v2), (3, .int v3)]) C dX6_at_46 (by decide) rfl ?_
        refine zG_sub (L' := [(0, .ref (ad 0)), (1, .int v1), (2, .int v2), (3, .int v3), (4, .int (nI 0)), (5, .int (nI 0)), (6, .int (nI 0)), (7, .int (-1 : Int32)), (8, .int (nI 0))]) [5, 6, 7, 8, 4, 3, 2, 1, 0] rfl ?_
        refine w_X6_at_L48 l D cy ad E _ X v1 v2 v3 C hr zFuel (nI 0) (nI 0) (nI 0) (-1 : Int32) (nI 0) h ?_
        intro v4_1046 v5_1047 v6_1048 v7_1049 h
        refine g_aload_n (j := 0) C dX6_at_205 rfl rfl ?_
        refine g_iload_n (j := 1) C dX6_at_206 rfl rfl ?_
        refine g_if_ne C dX6_at_207 (tgt := 215) (by decide) (fun hc_1050 => ?_) (fun hc_1050 => ?_)
        · replace h := (if_neg hc_1050).symm.trans h
          refine g_iload_n (j := 1) C dX6_at_215 rfl rfl ?_
          refine g_iconst (v := (nI 1)) C dX6_at_216 (by decide) ?_
          refine g_icmp_ne C dX6_at_217 (tgt := 225) (by decide) (fun hc_1051 => ?_) (fun hc_1051 => ?_)
          · replace h := (if_neg hc_1051).symm.trans h
            refine g_iload_n (j := 1) C dX6_at_225 rfl rfl ?_
            refine g_iconst (v := (nI 2)) C dX6_at_226 (by decide) ?_
            refine g_icmp_ne C dX6_at_227 (tgt := 235) (by decide) (fun hc_1052 => ?_) (fun hc_1052 => ?_)
            · replace h := (if_neg hc_1052).symm.trans h
              refine g_iload (j := 5) C dX6_at_235 rfl ?_
              obtain ⟨q_1053, e_1054, h⟩ := zlet_ex h
              refine g_vi (ws' := (zW cy ad shM E q_1053.2)) (As := [.int v7_1049]) (rest := []) (res := q_1053.1) C ((by rw [e_1054]; exact c_X6_done l D cy ad E X v7_1049)) zml_RX6_71 zcv_X6_done (zW_get X sM_0) rfl rfl rfl ⟨Nat.le_of_ble_eq_true rfl, Nat.le_of_ble_eq_true rfl⟩ rfl rfl (Nat.le_of_ble_eq_true rfl) ⟨Nat.zero_le _, Nat.zero_le _⟩ dX6_at_237 ?_
              obtain rfl := Option.some.inj h
              exact g_iret rfl C hr rfl dX6_at_240
            · replace h := (if_pos hc_1052).symm.trans h
              refine g_iload (j := 4) C dX6_at_230 rfl ?_
              refine g_goto C dX6_at_232 (tgt := 237) (by decide) ?_
              obtain ⟨q_1055, e_1056, h⟩ := zlet_ex h
              refine g_vi (ws' := (zW cy ad shM E q_1055.2)) (As := [.int v6_1048]) (rest := []) (res := q_1055.1) C ((by rw [e_1056]; exact c_X6_done l D cy ad E X v6_1048)) zml_RX6_71 zcv_X6_done (zW_get X sM_0) rfl rfl rfl ⟨Nat.le_of_ble_eq_true rfl, Nat.le_of_ble_eq_true rfl⟩ rfl rfl (Nat.le_of_ble_eq_true rfl) ⟨Nat.zero_le _, Nat.zero_le _⟩ dX6_at_237 ?_
              obtain rfl := Option.some.inj h
              exact g_iret rfl C hr rfl dX6_at_240
          · replace h := (if_pos hc_1051).symm.trans h
            refine g_iload (j := 3) C dX6_at_220 rfl ?_
            refine g_goto C dX6_at_222 (tgt := 237) (by decide) ?_
            obtain ⟨q_1057, e_1058, h⟩ := zlet_ex h
            refine g_vi (ws' := (zW cy ad shM E q_1057.2)) (As := [.int v5_1047]) (rest := []) (res := q_1057.1) C ((by rw [e_1058]; exact c_X6_done l D cy ad E X v5_1047)) zml_RX6_71 zcv_X6_done (zW_get X sM_0) rfl rfl rfl ⟨Nat.le_of_ble_eq_true rfl, Nat.le_of_ble_eq_true rfl⟩ rfl rfl (Nat.le_of_ble_eq_true rfl) ⟨Nat.zero_le _, Nat.zero_le _⟩ dX6_at_237 ?_
            obtain rfl := Option.some.inj h
            exact g_iret rfl C hr rfl dX6_at_240
        · replace h := (if_pos hc_1050).symm.trans h
          refine g_iload (j := 2) C dX6_at_210 rfl ?_
          refine g_goto C dX6_at_212 (tgt := 237) (by decide) ?_
          obtain ⟨q_1059, e_1060, h⟩ := zlet_ex h
          refine g_vi (ws' := (zW cy ad shM E q_1059.2)) (As := [.int v4_1046]) (rest := []) (res := q_1059.1) C ((by rw [e_1060]; exact c_X6_done l D cy ad E X v4_1046)) zml_RX6_71 zcv_X6_done (zW_get X sM_0) rfl rfl rfl ⟨Nat.le_of_ble_eq_true rfl, Nat.le_of_ble_eq_true rfl⟩ rfl rfl (Nat.le_of_ble_eq_true rfl) ⟨Nat.zero_le _, Nat.zero_le _⟩ dX6_at_237 ?_
          obtain rfl := Option.some.inj h
          exact g_iret rfl C hr rfl dX6_at_240
      · replace h := (if_pos hc_7).symm.trans h
        refine g_aload_n (j := 0) C dX6_at_27 rfl rfl ?_
        refine g_iconst (v := (nI 1)) C dX6_at_28 (by decide) ?_
        obtain ⟨q_1061, e_1062, h⟩ := zlet_ex h
        refine g_vi (ws' := (zW cy ad shM E q_1061.2)) (As := [.int (nI 1)]) (rest := []) (res := q_1061.1) C ((by rw [e_1062]; exact c_X6_fails l D cy ad E X (nI 1))) zml_RX6_45 zcv_X6_fails (zW_get X sM_0) rfl rfl rfl ⟨Nat.le_of_ble_eq_true rfl, Nat.le_of_ble_eq_true rfl⟩ rfl rfl (Nat.le_of_ble_eq_true rfl) ⟨Nat.zero_le _, Nat.zero_le _⟩ dX6_at_29 ?_
        obtain rfl := Option.some.inj h
        exact g_iret rfl C hr rfl dX6_at_32
