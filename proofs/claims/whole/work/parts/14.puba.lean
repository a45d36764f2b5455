/-! laid by wip/whole/mkparts.py -/
def f_X5_account (X : Nat → Nat → Int32) (v1 : Int32) : Option (Nat × Int32 × (Nat → Nat → Int32)) := (if (f_X5_isWithin v1 (nI 0) (nI 11)) = 0 then some (1, 0, X) else (if v1 = (nI 0) then some (0, (f_X4_size X 2 24), X) else (if v1 = (nI 1) then some (0, (f_X4_size X 4 96), X) else (if v1 = (nI 2) then some (0, (f_X4_size X 6 40), X) else (if v1 = (nI 3) then some (0, (f_X4_size X 8 360), X) else (if v1 = (nI 4) then ((f_X3_total X (nI 0) (-1 : Int32) (nI 0)).bind fun q_7 => some (0, ((f_X4_size X 8 360) - q_7), X)) else (if v1 = (nI 5) then ((f_X3_total X (nI 2) (-1 : Int32) (nI 0)).bind fun q_10 => some (0, q_10, X)) else (if v1 = (nI 6) then ((f_X3_total X (nI 3) (-1 : Int32) (nI 0)).bind fun q_13 => some (0, q_13, X)) else (if v1 = (nI 7) then ((f_X3_total X (nI 4) (-1 : Int32) (nI 0)).bind fun q_16 => some (0, q_16, X)) else (if v1 = (nI 8) then ((f_X3_total X (nI 3) (-1 : Int32) (nI 0)).bind fun q_19 => ((f_X3_total X (nI 4) (-1 : Int32) (nI 0)).bind fun q_21 => some (0, (q_19 - q_21), X))) else (if v1 = (nI 9) then some (0, (X 1 7), X) else (if v1 = (nI 10) then ((f_X3_total X (nI 1) (-1 : Int32) (nI 0)).bind fun q_25 => some (0, q_25, X)) else some (0, (X 1 6), X)))))))))))))
set_option maxRecDepth 100000 in
set_option maxHeartbeats 4000000 in
theorem c_X5_account (l : Launch) (hlt : l.stackTraces = false) (D : va_G) (cy : Nat → ClassId) (ad : Nat → Nat) (E : va_W) (X : Nat → Nat → Int32) (v1 : Int32) {res : Nat × Int32 × (Nat → Nat → Int32)} (h : f_X5_account X v1 = some res) : zMx l yX5_account cX5_account 2 (some .int) (zrmx 6) D (zTy cy) (zW cy ad shC E X) [.ref (ad 0), .int v1] res.1 res.2.1 (zW cy ad shC E res.2.2) := by
  refine zMx.of (by decide) (Nat.le_of_ble_eq_true rfl) ?_
  intro p e s m below meth c A C hr hT hout
  unfold f_X5_account at h
  refine zG_L (L' := [(0, .ref (ad 0)), (1, .int v1)]) rfl ?_
  refine g_iload_n (j := 1) C dX5_account_0 rfl rfl ?_
  refine g_iconst (v := (nI 0)) C dX5_account_1 (by decide) ?_
  refine g_bipush (v := (nI 11)) C dX5_account_2 (by decide) ?_
  refine g_si (ws' := (zW cy ad shC E X)) (As := [.int v1, .int (nI 0), .int (nI 11)]) (rest := []) (res := (f_X5_isWithin v1 (nI 0) (nI 11))) C (c_X5_isWithin l D cy (zW cy ad shC E X) v1 (nI 0) (nI 11)) zml_RX5_64 zcs_X5_isWithin rfl rfl ⟨Nat.le_of_ble_eq_true rfl, Nat.le_of_ble_eq_true rfl⟩ rfl rfl (Nat.le_of_ble_eq_true rfl) ⟨Nat.zero_le _, Nat.zero_le _⟩ dX5_account_4 ?_
  refine g_if_ne C dX5_account_7 (tgt := 20) (by decide) (fun hc_1 => ?_) (fun hc_1 => ?_)
  · replace h := (if_neg hc_1).symm.trans h
    refine g_iload_n (j := 1) C dX5_account_20 rfl rfl ?_
    by_cases hc_2 : v1 = (nI 0)
    · replace h := (if_pos hc_2).symm.trans h
      refine g_tabEq C dX5_account_21 hc_2 (by decide) (by decide) rfl (tgt := 80) (by decide) ?_
      refine g_aload_n (j := 0) C dX5_account_80 rfl rfl ?_
      refine g_getr (k := 0) (N := 11) C sC_0 rfl zin_RX5 (by decide) rfl zfl_RX5_10 rfl dX5_account_81 ?_
      refine g_getr (k := 0) (N := 8) C sC_1 rfl zin_RX3 (by decide) rfl zfl_RX5_75 rfl dX5_account_84 ?_
      refine g_vi (ws' := (zW cy ad shC E X)) (As := []) (rest := []) (res := (f_X4_size X 2 24)) C (c_X4_size l D cy ad E X 2 24 sC_2 sC_3 (by decide)) zml_RX5_79 zcv_X4_size (zW_get X sC_2) rfl rfl rfl ⟨Nat.le_of_ble_eq_true rfl, Nat.le_of_ble_eq_true rfl⟩ rfl rfl (Nat.le_of_ble_eq_true rfl) ⟨Nat.zero_le _, Nat.zero_le _⟩ dX5_account_87 ?_
      obtain rfl := Option.some.inj h
      exact g_xret C hr rfl dX5_account_90
    replace h := (if_neg hc_2).symm.trans h
    by_cases hc_3 : v1 = (nI 1)
    · replace h := (if_pos hc_3).symm.trans h
      refine g_tabEq C dX5_account_21 hc_3 (by decide) (by decide) rfl (tgt := 91) (by decide) ?_
      refine g_aload_n (j := 0) C dX5_account_91 rfl rfl ?_
      refine g_getr (k := 0) (N := 11) C sC_0 rfl zin_RX5 (by decide) rfl zfl_RX5_10 rfl dX5_account_92 ?_
      refine g_getr (k := 1) (N := 8) C sC_1 rfl zin_RX3 (by decide) rfl zfl_RX5_111 rfl dX5_account_95 ?_
      refine g_vi (ws' := (zW cy ad shC E X)) (As := []) (rest := []) (res := (f_X4_size X 4 96)) C (c_X4_size l D cy ad E X 4 96 sC_4 sC_5 (by decide)) zml_RX5_79 zcv_X4_size (zW_get X sC_4) rfl rfl rfl ⟨Nat.le_of_ble_eq_true rfl, Nat.le_of_ble_eq_true rfl⟩ rfl rfl (Nat.le_of_ble_eq_true rfl) ⟨Nat.zero_le _, Nat.zero_le _⟩ dX5_account_98 ?_
      obtain rfl := Option.some.inj h
      exact g_xret C hr rfl dX5_account_101
    replace h := (if_neg hc_3).symm.trans h
    by_cases hc_4 : v1 = (nI 2)
    · replace h := (if_pos hc_4).symm.trans h
      refine g_tabEq C dX5_account_21 hc_4 (by decide) (by decide) rfl (tgt := 102) (by decide) ?_
      refine g_aload_n (j := 0) C dX5_account_102 rfl rfl ?_
      refine g_getr (k := 0) (N := 11) C sC_0 rfl zin_RX5 (by decide) rfl zfl_RX5_10 rfl dX5_account_103 ?_
      refine g_getr (k := 2) (N := 8) C sC_1 rfl zin_RX3 (by decide) rfl zfl_RX5_130 rfl dX5_account_106 ?_
      refine g_vi (ws' := (zW cy ad shC E X)) (As := []) (rest := []) (res := (f_X4_size X 6 40)) C (c_X4_size l D cy ad E X 6 40 sC_6 sC_7 (by decide)) zml_RX5_79 zcv_X4_size (zW_get X sC_6) rfl rfl rfl ⟨Nat.le_of_ble_eq_true rfl, Nat.le_of_ble_eq_true rfl⟩ rfl rfl (Nat.le_of_ble_eq_true rfl) ⟨Nat.zero_le _, Nat.zero_le _⟩ dX5_account_109 ?_
      obtain rfl := Option.some.inj h
      exact g_xret C hr rfl dX5_account_112
    replace h := (if_neg hc_4).symm.trans h
    by_cases hc_5 : v1 = (nI 3)
    · replace h := (if_pos hc_5).symm.trans h
      refine g_tabEq C dX5_account_21 hc_5 (by decide) (by decide) rfl (tgt := 113) (by decide) ?_
      refine g_aload_n (j := 0) C dX5_account_113 rfl rfl ?_
      refine g_getr (k := 0) (N := 11) C sC_0 rfl zin_RX5 (by decide) rfl zfl_RX5_10 rfl dX5_account_114 ?_
      refine g_getr (k := 3) (N := 8) C sC_1 rfl zin_RX3 (by decide) rfl zfl_RX5_210 rfl dX5_account_117 ?_
      refine g_vi (ws' := (zW cy ad shC E X)) (As := []) (rest := []) (res := (f_X4_size X 8 360)) C (c_X4_size l D cy ad E X 8 360 sC_8 sC_9 (by decide)) zml_RX5_79 zcv_X4_size (zW_get X sC_8) rfl rfl rfl ⟨Nat.le_of_ble_eq_true rfl, Nat.le_of_ble_eq_true rfl⟩ rfl rfl (Nat.le_of_ble_eq_true rfl) ⟨Nat.zero_le _, Nat.zero_le _⟩ dX5_account_120 ?_
      obtain rfl := Option.some.inj h
      exact g_xret C hr rfl dX5_account_123
    replace h := (if_neg hc_5).symm.trans h
    by_cases hc_6 : v1 = (nI 4)
    · replace h := (if_pos hc_6).symm.trans h
      refine g_tabEq C dX5_account_21 hc_6 (by decide) (by decide) rfl (tgt := 124) (by decide) ?_
      refine g_aload_n (j := 0) C dX5_account_124 rfl rfl ?_
      refine g_getr (k := 0) (N := 11) C sC_0 rfl zin_RX5 (by decide) rfl zfl_RX5_10 rfl dX5_account_125 ?_
      refine g_getr (k := 3) (N := 8) C sC_1 rfl zin_RX3 (by decide) rfl zfl_RX5_210 rfl dX5_account_128 ?_
      refine g_vi (ws' := (zW cy ad shC E X)) (As := []) (rest := []) (res := (f_X4_size X 8 360)) C (c_X4_size l D cy ad E X 8 360 sC_8 sC_9 (by decide)) zml_RX5_79 zcv_X4_size (zW_get X sC_8) rfl rfl rfl ⟨Nat.le_of_ble_eq_true rfl, Nat.le_of_ble_eq_true rfl⟩ rfl rfl (Nat.le_of_ble_eq_true rfl) ⟨Nat.zero_le _, Nat.zero_le _⟩ dX5_account_131 ?_
      refine g_aload_n (j := 0) C dX5_account_134 rfl rfl ?_
      refine g_getr (k := 0) (N := 11) C sC_0 rfl zin_RX5 (by decide) rfl zfl_RX5_10 rfl dX5_account_135 ?_
      refine g_iconst (v := (nI 0)) C dX5_account_138 (by decide) ?_
      refine g_iconst (v := (-1 : Int32)) C dX5_account_139 (by decide) ?_
      refine g_iconst (v := (nI 0)) C dX5_account_140 (by decide) ?_
      obtain ⟨q_7, hq_8, h⟩ := bind_isome h
      refine g_vi (ws' := (zW cy ad shC E X)) (As := [.int (nI 0), .int (-1 : Int32), .int (nI 0)]) (rest := [.int (f_X4_size X 8 360)]) (res := q_7) C (c_X3_total l D cy ad E X (nI 0) (-1 : Int32) (nI 0) hq_8) zml_RX5_163 zcv_X3_total (zW_get X sC_1) rfl rfl rfl ⟨Nat.le_of_ble_eq_true rfl, Nat.le_of_ble_eq_true rfl⟩ rfl rfl (Nat.le_of_ble_eq_true rfl) ⟨Nat.zero_le _, Nat.zero_le _⟩ dX5_account_141 ?_
      refine g_isub C dX5_account_144 ?_
      obtain rfl := Option.some.inj h
      exact g_xret C hr rfl dX5_account_145
    replace h := (if_neg hc_6).symm.trans h
    by_cases hc_9 : v1 = (nI 5)
    · replace h := (if_pos hc_9).symm.trans h
      refine g_tabEq C dX5_account_21 hc_9 (by decide) (by decide) rfl (tgt := 146) (by decide) ?_
      refine g_aload_n (j := 0) C dX5_account_146 rfl rfl ?_
      refine g_getr (k := 0) (N := 11) C sC_0 rfl zin_RX5 (by decide) rfl zfl_RX5_10 rfl dX5_account_147 ?_
      refine g_iconst (v := (nI 2)) C dX5_account_150 (by decide) ?_
      refine g_iconst (v := (-1 : Int32)) C dX5_account_151 (by decide) ?_
      refine g_iconst (v := (nI 0)) C dX5_account_152 (by decide) ?_
      obtain ⟨q_10, hq_11, h⟩ := bind_isome h
      refine g_vi (ws' := (zW cy ad shC E X)) (As := [.int (nI 2), .int (-1 : Int32), .int (nI 0)]) (rest := []) (res := q_10) C (c_X3_total l D cy ad E X (nI 2) (-1 : Int32) (nI 0) hq_11) zml_RX5_163 zcv_X3_total (zW_get X sC_1) rfl rfl rfl ⟨Nat.le_of_ble_eq_true rfl, Nat.le_of_ble_eq_true rfl⟩ rfl rfl (Nat.le_of_ble_eq_true rfl) ⟨Nat.zero_le _, Nat.zero_le _⟩ dX5_account_153 ?_
      obtain rfl := Option.some.inj h
      exact g_xret C hr rfl dX5_account_156
    replace h := (if_neg hc_9).symm.trans h
    by_cases hc_12 : v1 = (nI 6)
    · replace h := (if_pos hc_12).symm.trans h
      refine g_tabEq C dX5_account_21 hc_12 (by decide) (by decide) rfl (tgt := 157) (by decide) ?_
      refine g_aload_n (j := 0) C dX5_account_157 rfl rfl ?_
      refine g_getr (k := 0) (N := 11) C sC_0 rfl zin_RX5 (by decide) rfl zfl_RX5_10 rfl dX5_account_158 ?_
      refine g_iconst (v := (nI 3)) C dX5_account_161 (by decide) ?_
      refine g_iconst (v := (-1 : Int32)) C dX5_account_162 (by decide) ?_
      refine g_iconst (v := (nI 0)) C dX5_account_163 (by decide) ?_
      obtain ⟨q_13, hq_14, h⟩ := bind_isome h
      refine g_vi (ws' := (zW cy ad shC E X)) (As := [.int (nI 3), .int (-1 : Int32), .int (nI 0)]) (rest := []) (res := q_13) C (c_X3_total l D cy ad E X (nI 3) (-1 : Int32) (nI 0) hq_14) zml_RX5_163 zcv_X3_total (zW_get X sC_1) rfl rfl rfl ⟨Nat.le_of_ble_eq_true rfl, Nat.le_of_ble_eq_true rfl⟩ rfl rfl (Nat.le_of_ble_eq_true rfl) ⟨Nat.zero_le _, Nat.zero_le _⟩ dX5_account_164 ?_
      obtain rfl := Option.some.inj h
      exact g_xret C hr rfl dX5_account_167
    replace h := (if_neg hc_12).symm.trans h
    by_cases hc_15 : v1 = (nI 7)
    · replace h := (if_pos hc_15).symm.trans h
      refine g_tabEq C dX5_account_21 hc_15 (by decide) (by decide) rfl (tgt := 168) (by decide) ?_
      refine g_aload_n (j := 0) C dX5_account_168 rfl rfl ?_
      refine g_getr (k := 0) (N := 11) C sC_0 rfl zin_RX5 (by decide) rfl zfl_RX5_10 rfl dX5_account_169 ?_
      refine g_iconst (v := (nI 4)) C dX5_account_172 (by decide) ?_
      refine g_iconst (v := (-1 : Int32)) C dX5_account_173 (by decide) ?_
      refine g_iconst (v := (nI 0)) C dX5_account_174 (by decide) ?_
      obtain ⟨q_16, hq_17, h⟩ := bind_isome h
      refine g_vi (ws' := (zW cy ad shC E X)) (As := [.int (nI 4), .int (-1 : Int32), .int (nI 0)]) (rest := []) (res := q_16) C (c_X3_total l D cy ad E X (nI 4) (-1 : Int32) (nI 0) hq_17) zml_RX5_163 zcv_X3_total (zW_get X sC_1) rfl rfl rfl ⟨Nat.le_of_ble_eq_true rfl, Nat.le_of_ble_eq_true rfl⟩ rfl rfl (Nat.le_of_ble_eq_true rfl) ⟨Nat.zero_le _, Nat.zero_le _⟩ dX5_account_175 ?_
      obtain rfl := Option.some.inj h
      exact g_xret C hr rfl dX5_account_178
    replace h := (if_neg hc_15).symm.trans h
    by_cases hc_18 : v1 = (nI 8)
    · replace h := (if_pos hc_18).symm.trans h
      refine g_tabEq C dX5_account_21 hc_18 (by decide) (by decide) rfl (tgt := 179) (by decide) ?_
      refine g_aload_n (j := 0) C dX5_account_179 rfl rfl ?_
      refine g_getr (k := 0) (N := 11) C sC_0 rfl zin_RX5 (by decide) rfl zfl_RX5_10 rfl dX5_account_180 ?_
      refine g_iconst (v := (nI 3)) C dX5_account_183 (by decide) ?_
      refine g_iconst (v := (-1 : Int32)) C dX5_account_184 (by decide) ?_
      refine g_iconst (v := (nI 0)) C dX5_account_185 (by decide) ?_
      obtain ⟨q_19, hq_20, h⟩ := bind_isome h
      refine g_vi (ws' := (zW cy ad shC E X)) (As := [.int (nI 3), .int (-1 : Int32), .int (nI 0)]) (rest := []) (res := q_19) C (c_X3_total l D cy ad E X (nI 3) (-1 : Int32) (nI 0) hq_20) zml_RX5_163 zcv_X3_total (zW_get X sC_1) rfl rfl rfl ⟨Nat.le_of_ble_eq_true rfl, Nat.le_of_ble_eq_true rfl⟩ rfl rfl (Nat.le_of_ble_eq_true rfl) ⟨Nat.zero_le _, Nat.zero_le _⟩ dX5_account_186 ?_
      refine g_aload_n (j := 0) C dX5_account_189 rfl rfl ?_
      refine g_getr (k := 0) (N := 11) C sC_0 rfl zin_RX5 (by decide) rfl zfl_RX5_10 rfl dX5_account_190 ?_
      refine g_iconst (v := (nI 4)) C dX5_account_193 (by decide) ?_
      refine g_iconst (v := (-1 : Int32)) C dX5_account_194 (by decide) ?_
      refine g_iconst (v := (nI 0)) C dX5_account_195 (by decide) ?_
      obtain ⟨q_21, hq_22, h⟩ := bind_isome h
      refine g_vi (ws' := (zW cy ad shC E X)) (As := [.int (nI 4), .int (-1 : Int32), .int (nI 0)]) (rest := [.int q_19]) (res := q_21) C (c_X3_total l D cy ad E X (nI 4) (-1 : Int32) (nI 0) hq_22) zml_RX5_163 zcv_X3_total (zW_get X sC_1) rfl rfl rfl ⟨Nat.le_of_ble_eq_true rfl, Nat.le_of_ble_eq_true rfl⟩ rfl rfl (Nat.le_of_ble_eq_true rfl) ⟨Nat.zero_le _, Nat.zero_le _⟩ dX5_account_196 ?_
      refine g_isub C dX5_account_199 ?_
      obtain rfl := Option.some.inj h
      exact g_xret C hr rfl dX5_account_200
    replace h := (if_neg hc_18).symm.trans h
    by_cases hc_23 : v1 = (nI 9)
    · replace h := (if_pos hc_23).symm.trans h
      refine g_tabEq C dX5_account_21 hc_23 (by decide) (by decide) rfl (tgt := 201) (by decide) ?_
      refine g_aload_n (j := 0) C dX5_account_201 rfl rfl ?_
      refine g_getr (k := 0) (N := 11) C sC_0 rfl zin_RX5 (by decide) rfl zfl_RX5_10 rfl dX5_account_202 ?_
      refine g_geti (k := 7) (N := 8) C sC_1 rfl zin_RX3 (by decide) rfl zfl_RX5_333 rfl dX5_account_205 ?_
      obtain rfl := Option.some.inj h
      exact g_xret C hr rfl dX5_account_208
    replace h := (if_neg hc_23).symm.trans h
    by_cases hc_24 : v1 = (nI 10)
    · replace h := (if_pos hc_24).symm.trans h
      refine g_tabEq C dX5_account_21 hc_24 (by decide) (by decide) rfl (tgt := 209) (by decide) ?_
      refine g_aload_n (j := 0) C dX5_account_209 rfl rfl ?_
      refine g_getr (k := 0) (N := 11) C sC_0 rfl zin_RX5 (by decide) rfl zfl_RX5_10 rfl dX5_account_210 ?_
      refine g_iconst (v := (nI 1)) C dX5_account_213 (by decide) ?_
      refine g_iconst (v := (-1 : Int32)) C dX5_account_214 (by decide) ?_
      refine g_iconst (v := (nI 0)) C dX5_account_215 (by decide) ?_
      obtain ⟨q_25, hq_26, h⟩ := bind_isome h
      refine g_vi (ws' := (zW cy ad shC E X)) (As := [.int (nI 1), .int (-1 : Int32), .int (nI 0)]) (rest := []) (res := q_25) C (c_X3_total l D cy ad E X (nI 1) (-1 : Int32) (nI 0) hq_26) zml_RX5_163 zcv_X3_total (zW_get X sC_1) rfl rfl rfl ⟨Nat.le_of_ble_eq_true rfl, Nat.le_of_ble_eq_true rfl⟩ rfl rfl (Nat.le_of_ble_eq_true rfl) ⟨Nat.zero_le _, Nat.zero_le _⟩ dX5_account_216 ?_
      obtain rfl := Option.some.inj h
      exact g_xret C hr rfl dX5_account_219
    replace h := (if_neg hc_24).symm.trans h
    refine g_tabOut C dX5_account_21 (z_tabout_11 (lo := 0) (hi := 10) hc_2 hc_3 hc_4 hc_5 hc_6 hc_9 hc_12 hc_15 hc_18 hc_23 hc_24 (by decide)) (tgt := 220) (by decide) ?_
    refine g_aload_n (j := 0) C dX5_account_220 rfl rfl ?_
    refine g_getr (k := 0) (N := 11) C sC_0 rfl zin_RX5 (by decide) rfl zfl_RX5_10 rfl dX5_account_221 ?_
    refine g_geti (k := 6) (N := 8) C sC_1 rfl zin_RX3 (by decide) rfl zfl_RX5_330 rfl dX5_account_224 ?_
    obtain rfl := Option.some.inj h
    exact g_xret C hr rfl dX5_account_227
  · replace h := (if_pos hc_1).symm.trans h
    obtain rfl := Option.some.inj h
    exact g_throw 1 0 C hT hlt hout rfl (by decide) ⟨by decide +kernel, by decide +kernel⟩ zcl_68 zini_1 (List.mem_of_getElem? (i := 13) rfl) zat_72 zgw_72 dX5_account_10 dX5_account_13 dX5_account_14 dX5_account_16 dX5_account_19 ⟨Nat.le_of_ble_eq_true rfl, Nat.le_of_ble_eq_true rfl, Nat.le_of_ble_eq_true rfl, Nat.le_of_ble_eq_true rfl⟩
def f_X5_addFilm (X : Nat → Nat → Int32) (v1 v2 v3 v4 v5 : Int32) : Option (Nat × Int32 × (Nat → Nat → Int32)) := (if (f_X5_isWithin v1 (nI 30) (nI 240)) = 0 then some (1, 0, X) else (if (f_X5_isRating v2) = 0 then some (1, 0, X) else (if (f_X5_isGenres v3) = 0 then some (1, 0, X) else (if (f_X5_isWithin v4 (nI 1) (nI 3)) = 0 then some (1, 0, X) else (if (f_X5_isDay v5) = 0 then some (1, 0, X) else (if (f_X4_size X 4 96) < (nI 8) then (zlet (f_X0_keep X) fun X_7 => ((f_X4_addRow X_7 4 96).bind fun q_9 => (zlet (f_X4_put q_9.2 4 96 q_9.1 (nI 0) v1) fun X_11 => (zlet (f_X4_put X_11 4 96 q_9.1 (nI 1) v2) fun X_13 => (zlet (f_X4_put X_13 4 96 q_9.1 (nI 2) v3) fun X_15 => (zlet (f_X4_put X_15 4 96 q_9.1 (nI 3) v4) fun X_17 => (zlet (f_X4_put X_17 4 96 q_9.1 (nI 4) v5) fun X_19 => (zlet (f_X4_put X_19 4 96 q_9.1 (nI 9) (nI 60)) fun X_21 => (zlet (f_X4_put X_21 4 96 q_9.1 (nI 10) (nI 10)) fun X_23 => (zlet (f_X4_put X_23 4 96 q_9.1 (nI 11) (nI 20)) fun X_25 => some (0, q_9.1, X_25))))))))))) else some (2, 0, X)))))))
set_option maxRecDepth 100000 in
set_option maxHeartbeats 4000000 in
theorem c_X5_addFilm (l : Launch) (hlt : l.stackTraces = false) (D : va_G) (cy : Nat → ClassId) (ad : Nat → Nat) (E : va_W) (X : Nat → Nat → Int32) (v1 v2 v3 v4 v5 : Int32) {res : Nat × Int32 × (Nat → Nat → Int32)} (h : f_X5_addFilm X v1 v2 v3 v4 v5 = some res) : zMx l yX5_addFilm cX5_addFilm 8 (some .int) (zrmx 5) D (zTy cy) (zW cy ad shC E X) [.ref (ad 0), .int v1, .int v2, .int v3, .int v4, .int v5] res.1 res.2.1 (zW cy ad shC E res.2.2) := by
  refine zMx.of (by decide) (Nat.le_of_ble_eq_true rfl) ?_
  intro p e s m below meth c A C hr hT hout
  unfold f_X5_addFilm at h
  refine zG_L (L' := [(0, .ref (ad 0)), (1, .int v1), (2, .int v2), (3, .int v3), (4, .int v4), (5, .int v5)]) rfl ?_
  refine g_iload_n (j := 1) C dX5_addFilm_0 rfl rfl ?_
  refine g_bipush (v := (nI 30)) C dX5_addFilm_1 (by decide) ?_
  refine g_sipush (v := (nI 240)) C dX5_addFilm_3 (by decide) ?_
  refine g_si (ws' := (zW cy ad shC E X)) (As := [.int v1, .int (nI 30), .int (nI 240)]) (rest := []) (res := (f_X5_isWithin v1 (nI 30) (nI 240))) C (c_X5_isWithin l D cy (zW cy ad shC E X) v1 (nI 30) (nI 240)) zml_RX5_64 zcs_X5_isWithin rfl rfl ⟨Nat.le_of_ble_eq_true rfl, Nat.le_of_ble_eq_true rfl⟩ rfl rfl (Nat.le_of_ble_eq_true rfl) ⟨Nat.zero_le _, Nat.zero_le _⟩ dX5_addFilm_6 ?_
  refine g_if_eq C dX5_addFilm_9 (tgt := 48) (by decide) (fun hc_1 => ?_) (fun hc_1 => ?_)
  · replace h := (if_pos hc_1).symm.trans h
    refine g_iconst (v := (nI 0)) C dX5_addFilm_48 (by decide) ?_
    refine g_istore (L' := [(6, .int (nI 0)), (0, .ref (ad 0)), (1, .int v1), (2, .int v2), (3, .int v3), (4, .int v4), (5, .int v5)]) C dX5_addFilm_49 (by decide) rfl ?_
    refine g_iload (j := 0) C dX5_addFilm_51 rfl ?_
    refine g_if_ne C dX5_addFilm_53 (tgt := 66) (by decide) (fun h9 => absurd h9 (by decide)) (fun _ => ?_)
    obtain rfl := Option.some.inj h
    exact g_throw 1 0 C hT hlt hout rfl (by decide) ⟨by decide +kernel, by decide +kernel⟩ zcl_68 zini_1 (List.mem_of_getElem? (i := 0) rfl) zat_72 zgw_72 dX5_addFilm_56 dX5_addFilm_59 dX5_addFilm_60 dX5_addFilm_62 dX5_addFilm_65 ⟨Nat.le_of_ble_eq_true rfl, Nat.le_of_ble_eq_true rfl, Nat.le_of_ble_eq_true rfl, Nat.le_of_ble_eq_true rfl⟩
  · replace h := (if_neg hc_1).symm.trans h
    refine g_iload_n (j := 2) C dX5_addFilm_12 rfl rfl ?_
    refine g_si (ws' := (zW cy ad shC E X)) (As := [.int v2]) (rest := []) (res := (f_X5_isRating v2)) C (c_X5_isRating l D cy (zW cy ad shC E X) v2) zml_RX5_101 zcs_X5_isRating rfl rfl ⟨Nat.le_of_ble_eq_true rfl, Nat.le_of_ble_eq_true rfl⟩ rfl rfl (Nat.le_of_ble_eq_true rfl) ⟨Nat.zero_le _, Nat.zero_le _⟩ dX5_addFilm_13 ?_
    refine g_if_eq C dX5_addFilm_16 (tgt := 48) (by decide) (fun hc_2 => ?_) (fun hc_2 => ?_)
    · replace h := (if_pos hc_2).symm.trans h
      refine g_iconst (v := (nI 0)) C dX5_addFilm_48 (by decide) ?_
      refine g_istore (L' := [(6, .int (nI 0)), (0, .ref (ad 0)), (1, .int v1), (2, .int v2), (3, .int v3), (4, .int v4), (5, .int v5)]) C dX5_addFilm_49 (by decide) rfl ?_
      refine g_iload (j := 0) C dX5_addFilm_51 rfl ?_
      refine g_if_ne C dX5_addFilm_53 (tgt := 66) (by decide) (fun h9 => absurd h9 (by decide)) (fun _ => ?_)
      obtain rfl := Option.some.inj h
      exact g_throw 1 0 C hT hlt hout rfl (by decide) ⟨by decide +kernel, by decide +kernel⟩ zcl_68 zini_1 (List.mem_of_getElem? (i := 0) rfl) zat_72 zgw_72 dX5_addFilm_56 dX5_addFilm_59 dX5_addFilm_60 dX5_addFilm_62 dX5_addFilm_65 ⟨Nat.le_of_ble_eq_true rfl, Nat.le_of_ble_eq_true rfl, Nat.le_of_ble_eq_true rfl, Nat.le_of_ble_eq_true rfl⟩
    · replace h := (if_neg hc_2).symm.trans h
      refine g_iload_n (j := 3) C dX5_addFilm_19 rfl rfl ?_
      refine g_si (ws' := (zW cy ad shC E X)) (As := [.int v3]) (rest := []) (res := (f_X5_isGenres v3)) C (c_X5_isGenres l D cy (zW cy ad shC E X) v3) zml_RX5_105 zcs_X5_isGenres rfl rfl ⟨Nat.le_of_ble_eq_true rfl, Nat.le_of_ble_eq_true rfl⟩ rfl rfl (Nat.le_of_ble_eq_true rfl) ⟨Nat.zero_le _, Nat.zero_le _⟩ dX5_addFilm_20 ?_
      refine g_if_eq C dX5_addFilm_23 (tgt := 48) (by decide) (fun hc_3 => ?_) (fun hc_3 => ?_)
      · replace h := (if_pos hc_3).symm.trans h
        refine g_iconst (v := (nI 0)) C dX5_addFilm_48 (by decide) ?_
        refine g_istore (L' := [(6, .int (nI 0)), (0, .ref (ad 0)), (1, .int v1), (2, .int v2), (3, .int v3), (4, .int v4), (5, .int v5)]) C dX5_addFilm_49 (by decide) rfl ?_
        refine g_iload (j := 0) C dX5_addFilm_51 rfl ?_
        refine g_if_ne C dX5_addFilm_53 (tgt := 66) (by decide) (fun h9 => absurd h9 (by decide)) (fun _ => ?_)
        obtain rfl := Option.some.inj h
        exact g_throw 1 0 C hT hlt hout rfl (by decide) ⟨by decide +kernel, by decide +kernel⟩ zcl_68 zini_1 (List.mem_of_getElem? (i := 0) rfl) zat_72 zgw_72 dX5_addFilm_56 dX5_addFilm_59 dX5_addFilm_60 dX5_addFilm_62 dX5_addFilm_65 ⟨Nat.le_of_ble_eq_true rfl, Nat.le_of_ble_eq_true rfl, Nat.le_of_ble_eq_true rfl, Nat.le_of_ble_eq_true rfl⟩
      · replace h := (if_neg hc_3).symm.trans h
        refine g_iload (j := 4) C dX5_addFilm_26 rfl ?_
        refine g_iconst (v := (nI 1)) C dX5_addFilm_28 (by decide) ?_
        refine g_iconst (v := (nI 3)) C dX5_addFilm_29 (by decide) ?_
        refine g_si (ws' := (zW cy ad shC E X)) (As := [.int v4, .int (nI 1), .int (nI 3)]) (rest := []) (res := (f_X5_isWithin v4 (nI 1) (nI 3))) C (c_X5_isWithin l D cy (zW cy ad shC E X) v4 (nI 1) (nI 3)) zml_RX5_64 zcs_X5_isWithin rfl rfl ⟨Nat.le_of_ble_eq_true rfl, Nat.le_of_ble_eq_true rfl⟩ rfl rfl (Nat.le_of_ble_eq_true rfl) ⟨Nat.zero_le _, Nat.zero_le _⟩ dX5_addFilm_30 ?_
        refine g_if_eq C dX5_addFilm_33 (tgt := 48) (by decide) (fun hc_4 => ?_) (fun hc_4 => ?_)
        · replace h := (if_pos hc_4).symm.trans h
          refine g_iconst (v := (nI 0)) C dX5_addFilm_48 (by decide) ?_
          refine g_istore (L' := [(6, .int (nI 0)), (0, .ref (ad 0)), (1, .int v1), (2, .int v2), (3, .int v3), (4, .int v4), (5, .int v5)]) C dX5_addFilm_49 (by decide) rfl ?_
          refine g_iload (j := 0) C dX5_addFilm_51 rfl ?_
          refine g_if_ne C dX5_addFilm_53 (tgt := 66) (by decide) (fun h9 => absurd h9 (by decide)) (fun _ => ?_)
          obtain rfl := Option.some.inj h
          exact g_throw 1 0 C hT hlt hout rfl (by decide) ⟨by decide +kernel, by decide +kernel⟩ zcl_68 zini_1 (List.mem_of_getElem? (i := 0) rfl) zat_72 zgw_72 dX5_addFilm_56 dX5_addFilm_59 dX5_addFilm_60 dX5_addFilm_62 dX5_addFilm_65 ⟨Nat.le_of_ble_eq_true rfl, Nat.le_of_ble_eq_true rfl, Nat.le_of_ble_eq_true rfl, Nat.le_of_ble_eq_true rfl⟩
        · replace h := (if_neg hc_4).symm.trans h
          refine g_iload (j := 5) C dX5_addFilm_36 rfl ?_
          refine g_si (ws' := (zW cy ad shC E X)) (As := [.int v5]) (rest := []) (res := (f_X5_isDay v5)) C (c_X5_isDay l D cy (zW cy ad shC E X) v5) zml_RX5_108 zcs_X5_isDay rfl rfl ⟨Nat.le_of_ble_eq_true rfl, Nat.le_of_ble_eq_true rfl⟩ rfl rfl (Nat.le_of_ble_eq_true rfl) ⟨Nat.zero_le _, Nat.zero_le _⟩ dX5_addFilm_38 ?_
          refine g_if_eq C dX5_addFilm_41 (tgt := 48) (by decide) (fun hc_5 => ?_) (fun hc_5 => ?_)
          · replace h := (if_pos hc_5).symm.trans h
            refine g_iconst (v := (nI 0)) C dX5_addFilm_48 (by decide) ?_
            refine g_istore (L' := [(6, .int (nI 0)), (0, .ref (ad 0)), (1, .int v1), (2, .int v2), (3, .int v3), (4, .int v4), (5, .int v5)]) C dX5_addFilm_49 (by decide) rfl ?_
            refine g_iload (j := 0) C dX5_addFilm_51 rfl ?_
            refine g_if_ne C dX5_addFilm_53 (tgt := 66) (by decide) (fun h9 => absurd h9 (by decide)) (fun _ => ?_)
            obtain rfl := Option.some.inj h
            exact g_throw 1 0 C hT hlt hout rfl (by decide) ⟨by decide +kernel, by decide +kernel⟩ zcl_68 zini_1 (List.mem_of_getElem? (i := 0) rfl) zat_72 zgw_72 dX5_addFilm_56 dX5_addFilm_59 dX5_addFilm_60 dX5_addFilm_62 dX5_addFilm_65 ⟨Nat.le_of_ble_eq_true rfl, Nat.le_of_ble_eq_true rfl, Nat.le_of_ble_eq_true rfl, Nat.le_of_ble_eq_true rfl⟩
          · replace h := (if_neg hc_5).symm.trans h
            refine g_iconst (v := (nI 1)) C dX5_addFilm_44 (by decide) ?_
            refine g_goto C dX5_addFilm_45 (tgt := 49) (by decide) ?_
            refine g_istore (L' := [(6, .int (nI 1)), (0, .ref (ad 0)), (1, .int v1), (2, .int v2), (3, .int v3), (4, .int v4), (5, .int v5)]) C dX5_addFilm_49 (by decide) rfl ?_
            refine g_iload (j := 0) C dX5_addFilm_51 rfl ?_
            refine g_if_ne C dX5_addFilm_53 (tgt := 66) (by decide) (fun _ => ?_) (fun h9 => absurd h9 (by decide))
            refine g_aload_n (j := 1) C dX5_addFilm_66 rfl rfl ?_
            refine g_getr (k := 0) (N := 11) C sC_0 rfl zin_RX5 (by decide) rfl zfl_RX5_10 rfl dX5_addFilm_67 ?_
            refine g_getr (k := 1) (N := 8) C sC_1 rfl zin_RX3 (by decide) rfl zfl_RX5_111 rfl dX5_addFilm_70 ?_
            refine g_vi (ws' := (zW cy ad shC E X)) (As := []) (rest := []) (res := (f_X4_size X 4 96)) C (c_X4_size l D cy ad E X 4 96 sC_4 sC_5 (by decide)) zml_RX5_79 zcv_X4_size (zW_get X sC_4) rfl rfl rfl ⟨Nat.le_of_ble_eq_true rfl, Nat.le_of_ble_eq_true rfl⟩ rfl rfl (Nat.le_of_ble_eq_true rfl) ⟨Nat.zero_le _, Nat.zero_le _⟩ dX5_addFilm_73 ?_
            refine g_bipush (v := (nI 8)) C dX5_addFilm_76 (by decide) ?_
            refine g_icmp_lt C dX5_addFilm_78 (tgt := 91) (by decide) (fun hc_6 => ?_) (fun hc_6 => ?_)
            · replace h := (if_pos hc_6).symm.trans h
              refine g_aload_n (j := 1) C dX5_addFilm_91 rfl rfl ?_
              refine g_getr (k := 2) (N := 11) C sC_0 rfl zin_RX5 (by decide) rfl zfl_RX5_22 rfl dX5_addFilm_92 ?_
              refine g_aload_n (j := 1) C dX5_addFilm_95 rfl rfl ?_
              refine g_getr (k := 0) (N := 11) C sC_0 rfl zin_RX5 (by decide) rfl zfl_RX5_10 rfl dX5_addFilm_96 ?_
              obtain ⟨X_7, e_8, h⟩ := zlet_ex h
              refine g_vv (ws' := (zW cy ad shC E X_7)) (As := [.ref (ad 1)]) (rest := []) C ((by rw [e_8]; exact c_X0_keep l D cy ad E X)) zml_RX5_90 zcv_X0_keep (zW_get X sC_27) rfl rfl rfl ⟨Nat.le_of_ble_eq_true rfl, Nat.le_of_ble_eq_true rfl⟩ rfl rfl (Nat.le_of_ble_eq_true rfl) ⟨Nat.zero_le _, Nat.zero_le _⟩ dX5_addFilm_99 ?_
              refine g_aload_n (j := 1) C dX5_addFilm_102 rfl rfl ?_
              refine g_getr (k := 0) (N := 11) C sC_0 rfl zin_RX5 (by decide) rfl zfl_RX5_10 rfl dX5_addFilm_103 ?_
              refine g_getr (k := 1) (N := 8) C sC_1 rfl zin_RX3 (by decide) rfl zfl_RX5_111 rfl dX5_addFilm_106 ?_
              obtain ⟨q_9, hq_10, h⟩ := bind_isome h
              refine g_vi (ws' := (zW cy ad shC E q_9.2)) (As := []) (rest := []) (res := q_9.1) C (c_X4_addRow l D cy ad E X_7 4 96 sC_4 sC_5 (by decide) hq_10) zml_RX5_94 zcv_X4_addRow (zW_get X_7 sC_4) rfl rfl rfl ⟨Nat.le_of_ble_eq_true rfl, Nat.le_of_ble_eq_true rfl⟩ rfl rfl (Nat.le_of_ble_eq_true rfl) ⟨Nat.zero_le _, Nat.zero_le _⟩ dX5_addFilm_109 ?_
              refine g_istore (L' := [(7, .int q_9.1), (6, .int (nI 1)), (0, .ref (ad 0)), (1, .int v1), (2, .int v2), (3, .int v3), (4, .int v4), (5, .int v5)]) C dX5_addFilm_112 (by decide) rfl ?_
              refine g_aload_n (j := 2) C dX5_addFilm_114 rfl rfl ?_
              refine g_getr (k := 0) (N := 11) C sC_0 rfl zin_RX5 (by decide) rfl zfl_RX5_10 rfl dX5_addFilm_115 ?_
              refine g_getr (k := 1) (N := 8) C sC_1 rfl zin_RX3 (by decide) rfl zfl_RX5_111 rfl dX5_addFilm_118 ?_
              refine g_iload (j := 0) C dX5_addFilm_121 rfl ?_
              refine g_iconst (v := (nI 0)) C dX5_addFilm_123 (by decide) ?_
              refine g_iload_n (j := 3) C dX5_addFilm_124 rfl rfl ?_
              obtain ⟨X_11, e_12, h⟩ := zlet_ex h
              refine g_vv (ws' := (zW cy ad shC E X_11)) (As := [.int q_9.1, .int (nI 0), .int v1]) (rest := []) C ((by rw [e_12]; exact c_X4_put l D cy ad E q_9.2 4 96 sC_4 sC_5 (by decide) q_9.1 (nI 0) v1)) zml_RX5_97 zcv_X4_put (zW_get q_9.2 sC_4) rfl rfl rfl ⟨Nat.le_of_ble_eq_true rfl, Nat.le_of_ble_eq_true rfl⟩ rfl rfl (Nat.le_of_ble_eq_true rfl) ⟨Nat.zero_le _, Nat.zero_le _⟩ dX5_addFilm_125 ?_
              refine g_aload_n (j := 2) C dX5_addFilm_128 rfl rfl ?_
              refine g_getr (k := 0) (N := 11) C sC_0 rfl zin_RX5 (by decide) rfl zfl_RX5_10 rfl dX5_addFilm_129 ?_
              refine g_getr (k := 1) (N := 8) C sC_1 rfl zin_RX3 (by decide) rfl zfl_RX5_111 rfl dX5_addFilm_132 ?_
              refine g_iload (j := 0) C dX5_addFilm_135 rfl ?_
              refine g_iconst (v := (nI 1)) C dX5_addFilm_137 (by decide) ?_
              refine g_iload_n (j := 4) C dX5_addFilm_138 rfl rfl ?_
              obtain ⟨X_13, e_14, h⟩ := zlet_ex h
              refine g_vv (ws' := (zW cy ad shC E X_13)) (As := [.int q_9.1, .int (nI 1), .int v2]) (rest := []) C ((by rw [e_14]; exact c_X4_put l D cy ad E X_11 4 96 sC_4 sC_5 (by decide) q_9.1 (nI 1) v2)) zml_RX5_97 zcv_X4_put (zW_get X_11 sC_4) rfl rfl rfl ⟨Nat.le_of_ble_eq_true rfl, Nat.le_of_ble_eq_true rfl⟩ rfl rfl (Nat.le_of_ble_eq_true rfl) ⟨Nat.zero_le _, Nat.zero_le _⟩ dX5_addFilm_139 ?_
              refine g_aload_n (j := 2) C dX5_addFilm_142 rfl rfl ?_
              refine g_getr (k := 0) (N := 11) C sC_0 rfl zin_RX5 (by decide) rfl zfl_RX5_10 rfl dX5_addFilm_143 ?_
              refine g_getr (k := 1) (N := 8) C sC_1 rfl zin_RX3 (by decide) rfl zfl_RX5_111 rfl dX5_addFilm_146 ?_
              refine g_iload (j := 0) C dX5_addFilm_149 rfl ?_
              refine g_iconst (v := (nI 2)) C dX5_addFilm_151 (by decide) ?_
              refine g_iload_n (j := 5) C dX5_addFilm_152 rfl rfl ?_
              obtain ⟨X_15, e_16, h⟩ := zlet_ex h
              refine g_vv (ws' := (zW cy ad shC E X_15)) (As := [.int q_9.1, .int (nI 2), .int v3]) (rest := []) C ((by rw [e_16]; exact c_X4_put l D cy ad E X_13 4 96 sC_4 sC_5 (by decide) q_9.1 (nI 2) v3)) zml_RX5_97 zcv_X4_put (zW_get X_13 sC_4) rfl rfl rfl ⟨Nat.le_of_ble_eq_true rfl, Nat.le_of_ble_eq_true rfl⟩ rfl rfl (Nat.le_of_ble_eq_true rfl) ⟨Nat.zero_le _, Nat.zero_le _⟩ dX5_addFilm_153 ?_
              refine g_aload_n (j := 2) C dX5_addFilm_156 rfl rfl ?_
              refine g_getr (k := 0) (N := 11) C sC_0 rfl zin_RX5 (by decide) rfl zfl_RX5_10 rfl dX5_addFilm_157 ?_
              refine g_getr (k := 1) (N := 8) C sC_1 rfl zin_RX3 (by decide) rfl zfl_RX5_111 rfl dX5_addFilm_160 ?_
              refine g_iload (j := 0) C dX5_addFilm_163 rfl ?_
              refine g_iconst (v := (nI 3)) C dX5_addFilm_165 (by decide) ?_
              refine g_iload (j := 6) C dX5_addFilm_166 rfl ?_
              obtain ⟨X_17, e_18, h⟩ := zlet_ex h
              refine g_vv (ws' := (zW cy ad shC E X_17)) (As := [.int q_9.1, .int (nI 3), .int v4]) (rest := []) C ((by rw [e_18]; exact c_X4_put l D cy ad E X_15 4 96 sC_4 sC_5 (by decide) q_9.1 (nI 3) v4)) zml_RX5_97 zcv_X4_put (zW_get X_15 sC_4) rfl rfl rfl ⟨Nat.le_of_ble_eq_true rfl, Nat.le_of_ble_eq_true rfl⟩ rfl rfl (Nat.le_of_ble_eq_true rfl) ⟨Nat.zero_le _, Nat.zero_le _⟩ dX5_addFilm_168 ?_
              refine g_aload_n (j := 2) C dX5_addFilm_171 rfl rfl ?_
              refine g_getr (k := 0) (N := 11) C sC_0 rfl zin_RX5 (by decide) rfl zfl_RX5_10 rfl dX5_addFilm_172 ?_
              refine g_getr (k := 1) (N := 8) C sC_1 rfl zin_RX3 (by decide) rfl zfl_RX5_111 rfl dX5_addFilm_175 ?_
              refine g_iload (j := 0) C dX5_addFilm_178 rfl ?_
              refine g_iconst (v := (nI 4)) C dX5_addFilm_180 (by decide) ?_
              refine g_iload (j := 7) C dX5_addFilm_181 rfl ?_
              obtain ⟨X_19, e_20, h⟩ := zlet_ex h
              refine g_vv (ws' := (zW cy ad shC E X_19)) (As := [.int q_9.1, .int (nI 4), .int v5]) (rest := []) C ((by rw [e_20]; exact c_X4_put l D cy ad E X_17 4 96 sC_4 sC_5 (by decide) q_9.1 (nI 4) v5)) zml_RX5_97 zcv_X4_put (zW_get X_17 sC_4) rfl rfl rfl ⟨Nat.le_of_ble_eq_true rfl, Nat.le_of_ble_eq_true rfl⟩ rfl rfl (Nat.le_of_ble_eq_true rfl) ⟨Nat.zero_le _, Nat.zero_le _⟩ dX5_addFilm_183 ?_
              refine g_aload_n (j := 2) C dX5_addFilm_186 rfl rfl ?_
              refine g_getr (k := 0) (N := 11) C sC_0 rfl zin_RX5 (by decide) rfl zfl_RX5_10 rfl dX5_addFilm_187 ?_
              refine g_getr (k := 1) (N := 8) C sC_1 rfl zin_RX3 (by decide) rfl zfl_RX5_111 rfl dX5_addFilm_190 ?_
              refine g_iload (j := 0) C dX5_addFilm_193 rfl ?_
              refine g_bipush (v := (nI 9)) C dX5_addFilm_195 (by decide) ?_
              refine g_bipush (v := (nI 60)) C dX5_addFilm_197 (by decide) ?_
              obtain ⟨X_21, e_22, h⟩ := zlet_ex h
              refine g_vv (ws' := (zW cy ad shC E X_21)) (As := [.int q_9.1, .int (nI 9), .int (nI 60)]) (rest := []) C ((by rw [e_22]; exact c_X4_put l D cy ad E X_19 4 96 sC_4 sC_5 (by decide) q_9.1 (nI 9) (nI 60))) zml_RX5_97 zcv_X4_put (zW_get X_19 sC_4) rfl rfl rfl ⟨Nat.le_of_ble_eq_true rfl, Nat.le_of_ble_eq_true rfl⟩ rfl rfl (Nat.le_of_ble_eq_true rfl) ⟨Nat.zero_le _, Nat.zero_le _⟩ dX5_addFilm_199 ?_
              refine g_aload_n (j := 2) C dX5_addFilm_202 rfl rfl ?_
              refine g_getr (k := 0) (N := 11) C sC_0 rfl zin_RX5 (by decide) rfl zfl_RX5_10 rfl dX5_addFilm_203 ?_
              refine g_getr (k := 1) (N := 8) C sC_1 rfl zin_RX3 (by decide) rfl zfl_RX5_111 rfl dX5_addFilm_206 ?_
              refine g_iload (j := 0) C dX5_addFilm_209 rfl ?_
              refine g_bipush (v := (nI 10)) C dX5_addFilm_211 (by decide) ?_
              refine g_bipush (v := (nI 10)) C dX5_addFilm_213 (by decide) ?_
              obtain ⟨X_23, e_24, h⟩ := zlet_ex h
              refine g_vv (ws' := (zW cy ad shC E X_23)) (As := [.int q_9.1, .int (nI 10), .int (nI 10)]) (rest := []) C ((by rw [e_24]; exact c_X4_put l D cy ad E X_21 4 96 sC_4 sC_5 (by decide) q_9.1 (nI 10) (nI 10))) zml_RX5_97 zcv_X4_put (zW_get X_21 sC_4) rfl rfl rfl ⟨Nat.le_of_ble_eq_true rfl, Nat.le_of_ble_eq_true rfl⟩ rfl rfl (Nat.le_of_ble_eq_true rfl) ⟨Nat.zero_le _, Nat.zero_le _⟩ dX5_addFilm_215 ?_
              refine g_aload_n (j := 2) C dX5_addFilm_218 rfl rfl ?_
              refine g_getr (k := 0) (N := 11) C sC_0 rfl zin_RX5 (by decide) rfl zfl_RX5_10 rfl dX5_addFilm_219 ?_
              refine g_getr (k := 1) (N := 8) C sC_1 rfl zin_RX3 (by decide) rfl zfl_RX5_111 rfl dX5_addFilm_222 ?_
              refine g_iload (j := 0) C dX5_addFilm_225 rfl ?_
              refine g_bipush (v := (nI 11)) C dX5_addFilm_227 (by decide) ?_
              refine g_bipush (v := (nI 20)) C dX5_addFilm_229 (by decide) ?_
              obtain ⟨X_25, e_26, h⟩ := zlet_ex h
              refine g_vv (ws' := (zW cy ad shC E X_25)) (As := [.int q_9.1, .int (nI 11), .int (nI 20)]) (rest := []) C ((by rw [e_26]; exact c_X4_put l D cy ad E X_23 4 96 sC_4 sC_5 (by decide) q_9.1 (nI 11) (nI 20))) zml_RX5_97 zcv_X4_put (zW_get X_23 sC_4) rfl rfl rfl ⟨Nat.le_of_ble_eq_true rfl, Nat.le_of_ble_eq_true rfl⟩ rfl rfl (Nat.le_of_ble_eq_true rfl) ⟨Nat.zero_le _, Nat.zero_le _⟩ dX5_addFilm_231 ?_
              refine g_iload (j := 0) C dX5_addFilm_234 rfl ?_
              obtain rfl := Option.some.inj h
              exact g_xret C hr rfl dX5_addFilm_236
            · replace h := (if_neg hc_6).symm.trans h
              obtain rfl := Option.some.inj h
              exact g_throw 2 0 C hT hlt hout rfl (by decide) ⟨by decide +kernel, by decide +kernel⟩ zcl_85 zini_2 (List.mem_of_getElem? (i := 2) rfl) zat_89 zgw_89 dX5_addFilm_81 dX5_addFilm_84 dX5_addFilm_85 dX5_addFilm_87 dX5_addFilm_90 ⟨Nat.le_of_ble_eq_true rfl, Nat.le_of_ble_eq_true rfl, Nat.le_of_ble_eq_true rfl, Nat.le_of_ble_eq_true rfl⟩
def f_X5_addHall (X : Nat → Nat → Int32) (v1 v2 v3 : Int32) : Option (Nat × Int32 × (Nat → Nat → Int32)) := (if (f_X5_isWithin v1 (nI 1) (nI 400)) = 0 then some (1, 0, X) else (if (f_X5_isWithin v2 (nI 0) (nI 40)) = 0 then some (1, 0, X) else (if (f_X5_isWithin v3 (nI 0) (nI 2)) = 0 then some (1, 0, X) else (if (f_X4_size X 2 24) < (nI 6) then (zlet (f_X0_keep X) fun X_5 => ((f_X4_addRow X_5 2 24).bind fun q_7 => (zlet (f_X4_put q_7.2 2 24 q_7.1 (nI 0) v1) fun X_9 => (zlet (f_X4_put X_9 2 24 q_7.1 (nI 1) v2) fun X_11 => (zlet (f_X4_put X_11 2 24 q_7.1 (nI 2) v3) fun X_13 => (zlet (f_X4_put X_13 2 24 q_7.1 (nI 3) (-1 : Int32)) fun X_15 => some (0, q_7.1, X_15))))))) else some (2, 0, X)))))
set_option maxRecDepth 100000 in
set_option maxHeartbeats 4000000 in
theorem c_X5_addHall (l : Launch) (hlt : l.stackTraces = false) (D : va_G) (cy : Nat → ClassId) (ad : Nat → Nat) (E : va_W) (X : Nat → Nat → Int32) (v1 v2 v3 : Int32) {res : Nat × Int32 × (Nat → Nat → Int32)} (h : f_X5_addHall X v1 v2 v3 = some res) : zMx l yX5_addHall cX5_addHall 6 (some .int) (zrmx 5) D (zTy cy) (zW cy ad shC E X) [.ref (ad 0), .int v1, .int v2, .int v3] res.1 res.2.1 (zW cy ad shC E res.2.2) := by
  refine zMx.of (by decide) (Nat.le_of_ble_eq_true rfl) ?_
  intro p e s m below meth c A C hr hT hout
  unfold f_X5_addHall at h
  refine zG_L (L' := [(0, .ref (ad 0)), (1, .int v1), (2, .int v2), (3, .int v3)]) rfl ?_
  refine g_iload_n (j := 1) C dX5_addHall_0 rfl rfl ?_
  refine g_iconst (v := (nI 1)) C dX5_addHall_1 (by decide) ?_
  refine g_sipush (v := (nI 400)) C dX5_addHall_2 (by decide) ?_
  refine g_si (ws' := (zW cy ad shC E X)) (As := [.int v1, .int (nI 1), .int (nI 400)]) (rest := []) (res := (f_X5_isWithin v1 (nI 1) (nI 400))) C (c_X5_isWithin l D cy (zW cy ad shC E X) v1 (nI 1) (nI 400)) zml_RX5_64 zcs_X5_isWithin rfl rfl ⟨Nat.le_of_ble_eq_true rfl, Nat.le_of_ble_eq_true rfl⟩ rfl rfl (Nat.le_of_ble_eq_true rfl) ⟨Nat.zero_le _, Nat.zero_le _⟩ dX5_addHall_5 ?_
  refine g_if_eq C dX5_addHall_8 (tgt := 34) (by decide) (fun hc_1 => ?_) (fun hc_1 => ?_)
  · replace h := (if_pos hc_1).symm.trans h
    refine g_iconst (v := (nI 0)) C dX5_addHall_34 (by decide) ?_
    refine g_istore (L' := [(4, .int (nI 0)), (0, .ref (ad 0)), (1, .int v1), (2, .int v2), (3, .int v3)]) C dX5_addHall_35 (by decide) rfl ?_
    refine g_iload (j := 0) C dX5_addHall_37 rfl ?_
    refine g_if_ne C dX5_addHall_39 (tgt := 52) (by decide) (fun h9 => absurd h9 (by decide)) (fun _ => ?_)
    obtain rfl := Option.some.inj h
    exact g_throw 1 0 C hT hlt hout rfl (by decide) ⟨by decide +kernel, by decide +kernel⟩ zcl_68 zini_1 (List.mem_of_getElem? (i := 0) rfl) zat_72 zgw_72 dX5_addHall_42 dX5_addHall_45 dX5_addHall_46 dX5_addHall_48 dX5_addHall_51 ⟨Nat.le_of_ble_eq_true rfl, Nat.le_of_ble_eq_true rfl, Nat.le_of_ble_eq_true rfl, Nat.le_of_ble_eq_true rfl⟩
  · replace h := (if_neg hc_1).symm.trans h
    refine g_iload_n (j := 2) C dX5_addHall_11 rfl rfl ?_
    refine g_iconst (v := (nI 0)) C dX5_addHall_12 (by decide) ?_
    refine g_bipush (v := (nI 40)) C dX5_addHall_13 (by decide) ?_
    refine g_si (ws' := (zW cy ad shC E X)) (As := [.int v2, .int (nI 0), .int (nI 40)]) (rest := []) (res := (f_X5_isWithin v2 (nI 0) (nI 40))) C (c_X5_isWithin l D cy (zW cy ad shC E X) v2 (nI 0) (nI 40)) zml_RX5_64 zcs_X5_isWithin rfl rfl ⟨Nat.le_of_ble_eq_true rfl, Nat.le_of_ble_eq_true rfl⟩ rfl rfl (Nat.le_of_ble_eq_true rfl) ⟨Nat.zero_le _, Nat.zero_le _⟩ dX5_addHall_15 ?_
    refine g_if_eq C dX5_addHall_18 (tgt := 34) (by decide) (fun hc_2 => ?_) (fun hc_2 => ?_)
    · replace h := (if_pos hc_2).symm.trans h
      refine g_iconst (v := (nI 0)) C dX5_addHall_34 (by decide) ?_
      refine g_istore (L' := [(4, .int (nI 0)), (0, .ref (ad 0)), (1, .int v1), (2, .int v2), (3, .int v3)]) C dX5_addHall_35 (by decide) rfl ?_
      refine g_iload (j := 0) C dX5_addHall_37 rfl ?_
      refine g_if_ne C dX5_addHall_39 (tgt := 52) (by decide) (fun h9 => absurd h9 (by decide)) (fun _ => ?_)
      obtain rfl := Option.some.inj h
      exact g_throw 1 0 C hT hlt hout rfl (by decide) ⟨by decide +kernel, by decide +kernel⟩ zcl_68 zini_1 (List.mem_of_getElem? (i := 0) rfl) zat_72 zgw_72 dX5_addHall_42 dX5_addHall_45 dX5_addHall_46 dX5_addHall_48 dX5_addHall_51 ⟨Nat.le_of_ble_eq_true rfl, Nat.le_of_ble_eq_true rfl, Nat.le_of_ble_eq_true rfl, Nat.le_of_ble_eq_true rfl⟩
    · replace h := (if_neg hc_2).symm.trans h
      refine g_iload_n (j := 3) C dX5_addHall_21 rfl rfl ?_
      refine g_iconst (v := (nI 0)) C dX5_addHall_22 (by decide) ?_
      refine g_iconst (v := (nI 2)) C dX5_addHall_23 (by decide) ?_
      refine g_si (ws' := (zW cy ad shC E X)) (As := [.int v3, .int (nI 0), .int (nI 2)]) (rest := []) (res := (f_X5_isWithin v3 (nI 0) (nI 2))) C (c_X5_isWithin l D cy (zW cy ad shC E X) v3 (nI 0) (nI 2)) zml_RX5_64 zcs_X5_isWithin rfl rfl ⟨Nat.le_of_ble_eq_true rfl, Nat.le_of_ble_eq_true rfl⟩ rfl rfl (Nat.le_of_ble_eq_true rfl) ⟨Nat.zero_le _, Nat.zero_le _⟩ dX5_addHall_24 ?_
      refine g_if_eq C dX5_addHall_27 (tgt := 34) (by decide) (fun hc_3 => ?_) (fun hc_3 => ?_)
      · replace h := (if_pos hc_3).symm.trans h
        refine g_iconst (v := (nI 0)) C dX5_addHall_34 (by decide) ?_
        refine g_istore (L' := [(4, .int (nI 0)), (0, .ref (ad 0)), (1, .int v1), (2, .int v2), (3, .int v3)]) C dX5_addHall_35 (by decide) rfl ?_
        refine g_iload (j := 0) C dX5_addHall_37 rfl ?_
        refine g_if_ne C dX5_addHall_39 (tgt := 52) (by decide) (fun h9 => absurd h9 (by decide)) (fun _ => ?_)
        obtain rfl := Option.some.inj h
        exact g_throw 1 0 C hT hlt hout rfl (by decide) ⟨by decide +kernel, by decide +kernel⟩ zcl_68 zini_1 (List.mem_of_getElem? (i := 0) rfl) zat_72 zgw_72 dX5_addHall_42 dX5_addHall_45 dX5_addHall_46 dX5_addHall_48 dX5_addHall_51 ⟨Nat.le_of_ble_eq_true rfl, Nat.le_of_ble_eq_true rfl, Nat.le_of_ble_eq_true rfl, Nat.le_of_ble_eq_true rfl⟩
      · replace h := (if_neg hc_3).symm.trans h
        refine g_iconst (v := (nI 1)) C dX5_addHall_30 (by decide) ?_
        refine g_goto C dX5_addHall_31 (tgt := 35) (by decide) ?_
        refine g_istore (L' := [(4, .int (nI 1)), (0, .ref (ad 0)), (1, .int v1), (2, .int v2), (3, .int v3)]) C dX5_addHall_35 (by decide) rfl ?_
        refine g_iload (j := 0) C dX5_addHall_37 rfl ?_
        refine g_if_ne C dX5_addHall_39 (tgt := 52) (by decide) (fun _ => ?_) (fun h9 => absurd h9 (by decide))
        refine g_aload_n (j := 1) C dX5_addHall_52 rfl rfl ?_
        refine g_getr (k := 0) (N := 11) C sC_0 rfl zin_RX5 (by decide) rfl zfl_RX5_10 rfl dX5_addHall_53 ?_
        refine g_getr (k := 0) (N := 8) C sC_1 rfl zin_RX3 (by decide) rfl zfl_RX5_75 rfl dX5_addHall_56 ?_
        refine g_vi (ws' := (zW cy ad shC E X)) (As := []) (rest := []) (res := (f_X4_size X 2 24)) C (c_X4_size l D cy ad E X 2 24 sC_2 sC_3 (by decide)) zml_RX5_79 zcv_X4_size (zW_get X sC_2) rfl rfl rfl ⟨Nat.le_of_ble_eq_true rfl, Nat.le_of_ble_eq_true rfl⟩ rfl rfl (Nat.le_of_ble_eq_true rfl) ⟨Nat.zero_le _, Nat.zero_le _⟩ dX5_addHall_59 ?_
        refine g_bipush (v := (nI 6)) C dX5_addHall_62 (by decide) ?_
        refine g_icmp_lt C dX5_addHall_64 (tgt := 77) (by decide) (fun hc_4 => ?_) (fun hc_4 => ?_)
        · replace h := (if_pos hc_4).symm.trans h
          refine g_aload_n (j := 1) C dX5_addHall_77 rfl rfl ?_
          refine g_getr (k := 2) (N := 11) C sC_0 rfl zin_RX5 (by decide) rfl zfl_RX5_22 rfl dX5_addHall_78 ?_
          refine g_aload_n (j := 1) C dX5_addHall_81 rfl rfl ?_
          refine g_getr (k := 0) (N := 11) C sC_0 rfl zin_RX5 (by decide) rfl zfl_RX5_10 rfl dX5_addHall_82 ?_
          obtain ⟨X_5, e_6, h⟩ := zlet_ex h
          refine g_vv (ws' := (zW cy ad shC E X_5)) (As := [.ref (ad 1)]) (rest := []) C ((by rw [e_6]; exact c_X0_keep l D cy ad E X)) zml_RX5_90 zcv_X0_keep (zW_get X sC_27) rfl rfl rfl ⟨Nat.le_of_ble_eq_true rfl, Nat.le_of_ble_eq_true rfl⟩ rfl rfl (Nat.le_of_ble_eq_true rfl) ⟨Nat.zero_le _, Nat.zero_le _⟩ dX5_addHall_85 ?_
          refine g_aload_n (j := 1) C dX5_addHall_88 rfl rfl ?_
          refine g_getr (k := 0) (N := 11) C sC_0 rfl zin_RX5 (by decide) rfl zfl_RX5_10 rfl dX5_addHall_89 ?_
          refine g_getr (k := 0) (N := 8) C sC_1 rfl zin_RX3 (by decide) rfl zfl_RX5_75 rfl dX5_addHall_92 ?_
          obtain ⟨q_7, hq_8, h⟩ := bind_isome h
          refine g_vi (ws' := (zW cy ad shC E q_7.2)) (As := []) (rest := []) (res := q_7.1) C (c_X4_addRow l D cy ad E X_5 2 24 sC_2 sC_3 (by decide) hq_8) zml_RX5_94 zcv_X4_addRow (zW_get X_5 sC_2) rfl rfl rfl ⟨Nat.le_of_ble_eq_true rfl, Nat.le_of_ble_eq_true rfl⟩ rfl rfl (Nat.le_of_ble_eq_true rfl) ⟨Nat.zero_le _, Nat.zero_le _⟩ dX5_addHall_95 ?_
          refine g_istore (L' := [(5, .int q_7.1), (4, .int (nI 1)), (0, .ref (ad 0)), (1, .int v1), (2, .int v2), (3, .int v3)]) C dX5_addHall_98 (by decide) rfl ?_
          refine g_aload_n (j := 2) C dX5_addHall_100 rfl rfl ?_
          refine g_getr (k := 0) (N := 11) C sC_0 rfl zin_RX5 (by decide) rfl zfl_RX5_10 rfl dX5_addHall_101 ?_
          refine g_getr (k := 0) (N := 8) C sC_1 rfl zin_RX3 (by decide) rfl zfl_RX5_75 rfl dX5_addHall_104 ?_
          refine g_iload (j := 0) C dX5_addHall_107 rfl ?_
          refine g_iconst (v := (nI 0)) C dX5_addHall_109 (by decide) ?_
          refine g_iload_n (j := 3) C dX5_addHall_110 rfl rfl ?_
          obtain ⟨X_9, e_10, h⟩ := zlet_ex h
          refine g_vv (ws' := (zW cy ad shC E X_9)) (As := [.int q_7.1, .int (nI 0), .int v1]) (rest := []) C ((by rw [e_10]; exact c_X4_put l D cy ad E q_7.2 2 24 sC_2 sC_3 (by decide) q_7.1 (nI 0) v1)) zml_RX5_97 zcv_X4_put (zW_get q_7.2 sC_2) rfl rfl rfl ⟨Nat.le_of_ble_eq_true rfl, Nat.le_of_ble_eq_true rfl⟩ rfl rfl (Nat.le_of_ble_eq_true rfl) ⟨Nat.zero_le _, Nat.zero_le _⟩ dX5_addHall_111 ?_
          refine g_aload_n (j := 2) C dX5_addHall_114 rfl rfl ?_
          refine g_getr (k := 0) (N := 11) C sC_0 rfl zin_RX5 (by decide) rfl zfl_RX5_10 rfl dX5_addHall_115 ?_
          refine g_getr (k := 0) (N := 8) C sC_1 rfl zin_RX3 (by decide) rfl zfl_RX5_75 rfl dX5_addHall_118 ?_
          refine g_iload (j := 0) C dX5_addHall_121 rfl ?_
          refine g_iconst (v := (nI 1)) C dX5_addHall_123 (by decide) ?_
          refine g_iload_n (j := 4) C dX5_addHall_124 rfl rfl ?_
          obtain ⟨X_11, e_12, h⟩ := zlet_ex h
          refine g_vv (ws' := (zW cy ad shC E X_11)) (As := [.int q_7.1, .int (nI 1), .int v2]) (rest := []) C ((by rw [e_12]; exact c_X4_put l D cy ad E X_9 2 24 sC_2 sC_3 (by decide) q_7.1 (nI 1) v2)) zml_RX5_97 zcv_X4_put (zW_get X_9 sC_2) rfl rfl rfl ⟨Nat.le_of_ble_eq_true rfl, Nat.le_of_ble_eq_true rfl⟩ rfl rfl (Nat.le_of_ble_eq_true rfl) ⟨Nat.zero_le _, Nat.zero_le _⟩ dX5_addHall_125 ?_
          refine g_aload_n (j := 2) C dX5_addHall_128 rfl rfl ?_
          refine g_getr (k := 0) (N := 11) C sC_0 rfl zin_RX5 (by decide) rfl zfl_RX5_10 rfl dX5_addHall_129 ?_
          refine g_getr (k := 0) (N := 8) C sC_1 rfl zin_RX3 (by decide) rfl zfl_RX5_75 rfl dX5_addHall_132 ?_
          refine g_iload (j := 0) C dX5_addHall_135 rfl ?_
          refine g_iconst (v := (nI 2)) C dX5_addHall_137 (by decide) ?_
          refine g_iload_n (j := 5) C dX5_addHall_138 rfl rfl ?_
          obtain ⟨X_13, e_14, h⟩ := zlet_ex h
          refine g_vv (ws' := (zW cy ad shC E X_13)) (As := [.int q_7.1, .int (nI 2), .int v3]) (rest := []) C ((by rw [e_14]; exact c_X4_put l D cy ad E X_11 2 24 sC_2 sC_3 (by decide) q_7.1 (nI 2) v3)) zml_RX5_97 zcv_X4_put (zW_get X_11 sC_2) rfl rfl rfl ⟨Nat.le_of_ble_eq_true rfl, Nat.le_of_ble_eq_true rfl⟩ rfl rfl (Nat.le_of_ble_eq_true rfl) ⟨Nat.zero_le _, Nat.zero_le _⟩ dX5_addHall_139 ?_
          refine g_aload_n (j := 2) C dX5_addHall_142 rfl rfl ?_
          refine g_getr (k := 0) (N := 11) C sC_0 rfl zin_RX5 (by decide) rfl zfl_RX5_10 rfl dX5_addHall_143 ?_
          refine g_getr (k := 0) (N := 8) C sC_1 rfl zin_RX3 (by decide) rfl zfl_RX5_75 rfl dX5_addHall_146 ?_
          refine g_iload (j := 0) C dX5_addHall_149 rfl ?_
          refine g_iconst (v := (nI 3)) C dX5_addHall_151 (by decide) ?_
          refine g_iconst (v := (-1 : Int32)) C dX5_addHall_152 (by decide) ?_
          obtain ⟨X_15, e_16, h⟩ := zlet_ex h
          refine g_vv (ws' := (zW cy ad shC E X_15)) (As := [.int q_7.1, .int (nI 3), .int (-1 : Int32)]) (rest := []) C ((by rw [e_16]; exact c_X4_put l D cy ad E X_13 2 24 sC_2 sC_3 (by decide) q_7.1 (nI 3) (-1 : Int32))) zml_RX5_97 zcv_X4_put (zW_get X_13 sC_2) rfl rfl rfl ⟨Nat.le_of_ble_eq_true rfl, Nat.le_of_ble_eq_true rfl⟩ rfl rfl (Nat.le_of_ble_eq_true rfl) ⟨Nat.zero_le _, Nat.zero_le _⟩ dX5_addHall_153 ?_
          refine g_iload (j := 0) C dX5_addHall_156 rfl ?_
          obtain rfl := Option.some.inj h
          exact g_xret C hr rfl dX5_addHall_158
        · replace h := (if_neg hc_4).symm.trans h
          obtain rfl := Option.some.inj h
          exact g_throw 2 0 C hT hlt hout rfl (by decide) ⟨by decide +kernel, by decide +kernel⟩ zcl_85 zini_2 (List.mem_of_getElem? (i := 1) rfl) zat_89 zgw_89 dX5_addHall_67 dX5_addHall_70 dX5_addHall_71 dX5_addHall_73 dX5_addHall_76 ⟨Nat.le_of_ble_eq_true rfl, Nat.le_of_ble_eq_true rfl, Nat.le_of_ble_eq_true rfl, Nat.le_of_ble_eq_true rfl⟩
def f_X5_addTrailer (X : Nat → Nat → Int32) (v1 v2 v3 v4 : Int32) : Option (Nat × Int32 × (Nat → Nat → Int32)) := (if (f_X4_isRow X 4 96 v1) = 0 then some (3, 0, X) else (if (f_X5_isWithin v2 (nI 1) (nI 6)) = 0 then some (1, 0, X) else (if (f_X5_isRating v3) = 0 then some (1, 0, X) else (if (f_X5_isGenres v4) = 0 then some (1, 0, X) else (if (f_X4_size X 6 40) < (nI 10) then (zlet (f_X0_keep X) fun X_6 => ((f_X4_addRow X_6 6 40).bind fun q_8 => (zlet (f_X4_put q_8.2 6 40 q_8.1 (nI 0) v1) fun X_10 => (zlet (f_X4_put X_10 6 40 q_8.1 (nI 1) v2) fun X_12 => (zlet (f_X4_put X_12 6 40 q_8.1 (nI 2) v3) fun X_14 => (zlet (f_X4_put X_14 6 40 q_8.1 (nI 3) v4) fun X_16 => some (0, q_8.1, X_16))))))) else some (2, 0, X))))))
set_option maxRecDepth 100000 in
set_option maxHeartbeats 4000000 in
theorem c_X5_addTrailer (l : Launch) (hlt : l.stackTraces = false) (D : va_G) (cy : Nat → ClassId) (ad : Nat → Nat) (E : va_W) (X : Nat → Nat → Int32) (v1 v2 v3 v4 : Int32) {res : Nat × Int32 × (Nat → Nat → Int32)} (h : f_X5_addTrailer X v1 v2 v3 v4 = some res) : zMx l yX5_addTrailer cX5_addTrailer 6 (some .int) (zrmx 5) D (zTy cy) (zW cy ad shC E X) [.ref (ad 0), .int v1, .int v2, .int v3, .int v4] res.1 res.2.1 (zW cy ad shC E res.2.2) := by
  refine zMx.of (by decide) (Nat.le_of_ble_eq_true rfl) ?_
  intro p e s m below meth c A C hr hT hout
  unfold f_X5_addTrailer at h
  refine zG_L (L' := [(0, .ref (ad 0)), (1, .int v1), (2, .int v2), (3, .int v3), (4, .int v4)]) rfl ?_
  refine g_aload_n (j := 0) C dX5_addTrailer_0 rfl rfl ?_
  refine g_getr (k := 0) (N := 11) C sC_0 rfl zin_RX5 (by decide) rfl zfl_RX5_10 rfl dX5_addTrailer_1 ?_
  refine g_getr (k := 1) (N := 8) C sC_1 rfl zin_RX3 (by decide) rfl zfl_RX5_111 rfl dX5_addTrailer_4 ?_
  refine g_iload_n (j := 1) C dX5_addTrailer_7 rfl rfl ?_
  refine g_vi (ws' := (zW cy ad shC E X)) (As := [.int v1]) (rest := []) (res := (f_X4_isRow X 4 96 v1)) C (c_X4_isRow l D cy ad E X 4 96 sC_4 sC_5 (by decide) v1) zml_RX5_116 zcv_X4_isRow (zW_get X sC_4) rfl rfl rfl ⟨Nat.le_of_ble_eq_true rfl, Nat.le_of_ble_eq_true rfl⟩ rfl rfl (Nat.le_of_ble_eq_true rfl) ⟨Nat.zero_le _, Nat.zero_le _⟩ dX5_addTrailer_8 ?_
  refine g_if_ne C dX5_addTrailer_11 (tgt := 24) (by decide) (fun hc_1 => ?_) (fun hc_1 => ?_)
  · replace h := (if_neg hc_1).symm.trans h
    refine g_iload_n (j := 2) C dX5_addTrailer_24 rfl rfl ?_
    refine g_iconst (v := (nI 1)) C dX5_addTrailer_25 (by decide) ?_
    refine g_bipush (v := (nI 6)) C dX5_addTrailer_26 (by decide) ?_
    refine g_si (ws' := (zW cy ad shC E X)) (As := [.int v2, .int (nI 1), .int (nI 6)]) (rest := []) (res := (f_X5_isWithin v2 (nI 1) (nI 6))) C (c_X5_isWithin l D cy (zW cy ad shC E X) v2 (nI 1) (nI 6)) zml_RX5_64 zcs_X5_isWithin rfl rfl ⟨Nat.le_of_ble_eq_true rfl, Nat.le_of_ble_eq_true rfl⟩ rfl rfl (Nat.le_of_ble_eq_true rfl) ⟨Nat.zero_le _, Nat.zero_le _⟩ dX5_addTrailer_28 ?_
    refine g_if_eq C dX5_addTrailer_31 (tgt := 49) (by decide) (fun hc_2 => ?_) (fun hc_2 => ?_)
    · replace h := (if_pos hc_2).symm.trans h
      obtain rfl := Option.some.inj h
      exact g_throw 1 0 C hT hlt hout rfl (by decide) ⟨by decide +kernel, by decide +kernel⟩ zcl_68 zini_1 (List.mem_of_getElem? (i := 4) rfl) zat_72 zgw_72 dX5_addTrailer_49 dX5_addTrailer_52 dX5_addTrailer_53 dX5_addTrailer_55 dX5_addTrailer_58 ⟨Nat.le_of_ble_eq_true rfl, Nat.le_of_ble_eq_true rfl, Nat.le_of_ble_eq_true rfl, Nat.le_of_ble_eq_true rfl⟩
    · replace h := (if_neg hc_2).symm.trans h
      refine g_iload_n (j := 3) C dX5_addTrailer_34 rfl rfl ?_
      refine g_si (ws' := (zW cy ad shC E X)) (As := [.int v3]) (rest := []) (res := (f_X5_isRating v3)) C (c_X5_isRating l D cy (zW cy ad shC E X) v3) zml_RX5_101 zcs_X5_isRating rfl rfl ⟨Nat.le_of_ble_eq_true rfl, Nat.le_of_ble_eq_true rfl⟩ rfl rfl (Nat.le_of_ble_eq_true rfl) ⟨Nat.zero_le _, Nat.zero_le _⟩ dX5_addTrailer_35 ?_
      refine g_if_eq C dX5_addTrailer_38 (tgt := 49) (by decide) (fun hc_3 => ?_) (fun hc_3 => ?_)
      · replace h := (if_pos hc_3).symm.trans h
        obtain rfl := Option.some.inj h
        exact g_throw 1 0 C hT hlt hout rfl (by decide) ⟨by decide +kernel, by decide +kernel⟩ zcl_68 zini_1 (List.mem_of_getElem? (i := 4) rfl) zat_72 zgw_72 dX5_addTrailer_49 dX5_addTrailer_52 dX5_addTrailer_53 dX5_addTrailer_55 dX5_addTrailer_58 ⟨Nat.le_of_ble_eq_true rfl, Nat.le_of_ble_eq_true rfl, Nat.le_of_ble_eq_true rfl, Nat.le_of_ble_eq_true rfl⟩
      · replace h := (if_neg hc_3).symm.trans h
        refine g_iload (j := 4) C dX5_addTrailer_41 rfl ?_
        refine g_si (ws' := (zW cy ad shC E X)) (As := [.int v4]) (rest := []) (res := (f_X5_isGenres v4)) C (c_X5_isGenres l D cy (zW cy ad shC E X) v4) zml_RX5_105 zcs_X5_isGenres rfl rfl ⟨Nat.le_of_ble_eq_true rfl, Nat.le_of_ble_eq_true rfl⟩ rfl rfl (Nat.le_of_ble_eq_true rfl) ⟨Nat.zero_le _, Nat.zero_le _⟩ dX5_addTrailer_43 ?_
        refine g_if_ne C dX5_addTrailer_46 (tgt := 59) (by decide) (fun hc_4 => ?_) (fun hc_4 => ?_)
        · replace h := (if_neg hc_4).symm.trans h
          refine g_aload_n (j := 0) C dX5_addTrailer_59 rfl rfl ?_
          refine g_getr (k := 0) (N := 11) C sC_0 rfl zin_RX5 (by decide) rfl zfl_RX5_10 rfl dX5_addTrailer_60 ?_
          refine g_getr (k := 2) (N := 8) C sC_1 rfl zin_RX3 (by decide) rfl zfl_RX5_130 rfl dX5_addTrailer_63 ?_
          refine g_vi (ws' := (zW cy ad shC E X)) (As := []) (rest := []) (res := (f_X4_size X 6 40)) C (c_X4_size l D cy ad E X 6 40 sC_6 sC_7 (by decide)) zml_RX5_79 zcv_X4_size (zW_get X sC_6) rfl rfl rfl ⟨Nat.le_of_ble_eq_true rfl, Nat.le_of_ble_eq_true rfl⟩ rfl rfl (Nat.le_of_ble_eq_true rfl) ⟨Nat.zero_le _, Nat.zero_le _⟩ dX5_addTrailer_66 ?_
          refine g_bipush (v := (nI 10)) C dX5_addTrailer_69 (by decide) ?_
          refine g_icmp_lt C dX5_addTrailer_71 (tgt := 84) (by decide) (fun hc_5 => ?_) (fun hc_5 => ?_)
          · replace h := (if_pos hc_5).symm.trans h
            refine g_aload_n (j := 0) C dX5_addTrailer_84 rfl rfl ?_
            refine g_getr (k := 2) (N := 11) C sC_0 rfl zin_RX5 (by decide) rfl zfl_RX5_22 rfl dX5_addTrailer_85 ?_
            refine g_aload_n (j := 0) C dX5_addTrailer_88 rfl rfl ?_
            refine g_getr (k := 0) (N := 11) C sC_0 rfl zin_RX5 (by decide) rfl zfl_RX5_10 rfl dX5_addTrailer_89 ?_
            obtain ⟨X_6, e_7, h⟩ := zlet_ex h
            refine g_vv (ws' := (zW cy ad shC E X_6)) (As := [.ref (ad 1)]) (rest := []) C ((by rw [e_7]; exact c_X0_keep l D cy ad E X)) zml_RX5_90 zcv_X0_keep (zW_get X sC_27) rfl rfl rfl ⟨Nat.le_of_ble_eq_true rfl, Nat.le_of_ble_eq_true rfl⟩ rfl rfl (Nat.le_of_ble_eq_true rfl) ⟨Nat.zero_le _, Nat.zero_le _⟩ dX5_addTrailer_92 ?_
            refine g_aload_n (j := 0) C dX5_addTrailer_95 rfl rfl ?_
            refine g_getr (k := 0) (N := 11) C sC_0 rfl zin_RX5 (by decide) rfl zfl_RX5_10 rfl dX5_addTrailer_96 ?_
            refine g_getr (k := 2) (N := 8) C sC_1 rfl zin_RX3 (by decide) rfl zfl_RX5_130 rfl dX5_addTrailer_99 ?_
            obtain ⟨q_8, hq_9, h⟩ := bind_isome h
            refine g_vi (ws' := (zW cy ad shC E q_8.2)) (As := []) (rest := []) (res := q_8.1) C (c_X4_addRow l D cy ad E X_6 6 40 sC_6 sC_7 (by decide) hq_9) zml_RX5_94 zcv_X4_addRow (zW_get X_6 sC_6) rfl rfl rfl ⟨Nat.le_of_ble_eq_true rfl, Nat.le_of_ble_eq_true rfl⟩ rfl rfl (Nat.le_of_ble_eq_true rfl) ⟨Nat.zero_le _, Nat.zero_le _⟩ dX5_addTrailer_102 ?_
            refine g_istore (L' := [(5, .int q_8.1), (0, .ref (ad 0)), (1, .int v1), (2, .int v2), (3, .int v3), (4, .int v4)]) C dX5_addTrailer_105 (by decide) rfl ?_
            refine g_aload_n (j := 1) C dX5_addTrailer_107 rfl rfl ?_
            refine g_getr (k := 0) (N := 11) C sC_0 rfl zin_RX5 (by decide) rfl zfl_RX5_10 rfl dX5_addTrailer_108 ?_
            refine g_getr (k := 2) (N := 8) C sC_1 rfl zin_RX3 (by decide) rfl zfl_RX5_130 rfl dX5_addTrailer_111 ?_
            refine g_iload (j := 0) C dX5_addTrailer_114 rfl ?_
            refine g_iconst (v := (nI 0)) C dX5_addTrailer_116 (by decide) ?_
            refine g_iload_n (j := 2) C dX5_addTrailer_117 rfl rfl ?_
            obtain ⟨X_10, e_11, h⟩ := zlet_ex h
            refine g_vv (ws' := (zW cy ad shC E X_10)) (As := [.int q_8.1, .int (nI 0), .int v1]) (rest := []) C ((by rw [e_11]; exact c_X4_put l D cy ad E q_8.2 6 40 sC_6 sC_7 (by decide) q_8.1 (nI 0) v1)) zml_RX5_97 zcv_X4_put (zW_get q_8.2 sC_6) rfl rfl rfl ⟨Nat.le_of_ble_eq_true rfl, Nat.le_of_ble_eq_true rfl⟩ rfl rfl (Nat.le_of_ble_eq_true rfl) ⟨Nat.zero_le _, Nat.zero_le _⟩ dX5_addTrailer_118 ?_
            refine g_aload_n (j := 1) C dX5_addTrailer_121 rfl rfl ?_
            refine g_getr (k := 0) (N := 11) C sC_0 rfl zin_RX5 (by decide) rfl zfl_RX5_10 rfl dX5_addTrailer_122 ?_
            refine g_getr (k := 2) (N := 8) C sC_1 rfl zin_RX3 (by decide) rfl zfl_RX5_130 rfl dX5_addTrailer_125 ?_
            refine g_iload (j := 0) C dX5_addTrailer_128 rfl ?_
            refine g_iconst (v := (nI 1)) C dX5_addTrailer_130 (by decide) ?_
            refine g_iload_n (j := 3) C dX5_addTrailer_131 rfl rfl ?_
            obtain ⟨X_12, e_13, h⟩ := zlet_ex h
            refine g_vv (ws' := (zW cy ad shC E X_12)) (As := [.int q_8.1, .int (nI 1), .int v2]) (rest := []) C ((by rw [e_13]; exact c_X4_put l D cy ad E X_10 6 40 sC_6 sC_7 (by decide) q_8.1 (nI 1) v2)) zml_RX5_97 zcv_X4_put (zW_get X_10 sC_6) rfl rfl rfl ⟨Nat.le_of_ble_eq_true rfl, Nat.le_of_ble_eq_true rfl⟩ rfl rfl (Nat.le_of_ble_eq_true rfl) ⟨Nat.zero_le _, Nat.zero_le _⟩ dX5_addTrailer_132 ?_
            refine g_aload_n (j := 1) C dX5_addTrailer_135 rfl rfl ?_
            refine g_getr (k := 0) (N := 11) C sC_0 rfl zin_RX5 (by decide) rfl zfl_RX5_10 rfl dX5_addTrailer_136 ?_
            refine g_getr (k := 2) (N := 8) C sC_1 rfl zin_RX3 (by decide) rfl zfl_RX5_130 rfl dX5_addTrailer_139 ?_
            refine g_iload (j := 0) C dX5_addTrailer_142 rfl ?_
            refine g_iconst (v := (nI 2)) C dX5_addTrailer_144 (by decide) ?_
            refine g_iload_n (j := 4) C dX5_addTrailer_145 rfl rfl ?_
            obtain ⟨X_14, e_15, h⟩ := zlet_ex h
            refine g_vv (ws' := (zW cy ad shC E X_14)) (As := [.int q_8.1, .int (nI 2), .int v3]) (rest := []) C ((by rw [e_15]; exact c_X4_put l D cy ad E X_12 6 40 sC_6 sC_7 (by decide) q_8.1 (nI 2) v3)) zml_RX5_97 zcv_X4_put (zW_get X_12 sC_6) rfl rfl rfl ⟨Nat.le_of_ble_eq_true rfl, Nat.le_of_ble_eq_true rfl⟩ rfl rfl (Nat.le_of_ble_eq_true rfl) ⟨Nat.zero_le _, Nat.zero_le _⟩ dX5_addTrailer_146 ?_
            refine g_aload_n (j := 1) C dX5_addTrailer_149 rfl rfl ?_
            refine g_getr (k := 0) (N := 11) C sC_0 rfl zin_RX5 (by decide) rfl zfl_RX5_10 rfl dX5_addTrailer_150 ?_
            refine g_getr (k := 2) (N := 8) C sC_1 rfl zin_RX3 (by decide) rfl zfl_RX5_130 rfl dX5_addTrailer_153 ?_
            refine g_iload (j := 0) C dX5_addTrailer_156 rfl ?_
            refine g_iconst (v := (nI 3)) C dX5_addTrailer_158 (by decide) ?_
            refine g_iload (j := 5) C dX5_addTrailer_159 rfl ?_
            obtain ⟨X_16, e_17, h⟩ := zlet_ex h
            refine g_vv (ws' := (zW cy ad shC E X_16)) (As := [.int q_8.1, .int (nI 3), .int v4]) (rest := []) C ((by rw [e_17]; exact c_X4_put l D cy ad E X_14 6 40 sC_6 sC_7 (by decide) q_8.1 (nI 3) v4)) zml_RX5_97 zcv_X4_put (zW_get X_14 sC_6) rfl rfl rfl ⟨Nat.le_of_ble_eq_true rfl, Nat.le_of_ble_eq_true rfl⟩ rfl rfl (Nat.le_of_ble_eq_true rfl) ⟨Nat.zero_le _, Nat.zero_le _⟩ dX5_addTrailer_161 ?_
            refine g_iload (j := 0) C dX5_addTrailer_164 rfl ?_
            obtain rfl := Option.some.inj h
            exact g_xret C hr rfl dX5_addTrailer_166
          · replace h := (if_neg hc_5).symm.trans h
            obtain rfl := Option.some.inj h
            exact g_throw 2 0 C hT hlt hout rfl (by decide) ⟨by decide +kernel, by decide +kernel⟩ zcl_85 zini_2 (List.mem_of_getElem? (i := 5) rfl) zat_89 zgw_89 dX5_addTrailer_74 dX5_addTrailer_77 dX5_addTrailer_78 dX5_addTrailer_80 dX5_addTrailer_83 ⟨Nat.le_of_ble_eq_true rfl, Nat.le_of_ble_eq_true rfl, Nat.le_of_ble_eq_true rfl, Nat.le_of_ble_eq_true rfl⟩
        · replace h := (if_pos hc_4).symm.trans h
          obtain rfl := Option.some.inj h
          exact g_throw 1 0 C hT hlt hout rfl (by decide) ⟨by decide +kernel, by decide +kernel⟩ zcl_68 zini_1 (List.mem_of_getElem? (i := 4) rfl) zat_72 zgw_72 dX5_addTrailer_49 dX5_addTrailer_52 dX5_addTrailer_53 dX5_addTrailer_55 dX5_addTrailer_58 ⟨Nat.le_of_ble_eq_true rfl, Nat.le_of_ble_eq_true rfl, Nat.le_of_ble_eq_true rfl, Nat.le_of_ble_eq_true rfl⟩
  · replace h := (if_pos hc_1).symm.trans h
    obtain rfl := Option.some.inj h
    exact g_throw 3 0 C hT hlt hout rfl (by decide) ⟨by decide +kernel, by decide +kernel⟩ zcl_119 zini_3 (List.mem_of_getElem? (i := 3) rfl) zat_123 zgw_123 dX5_addTrailer_14 dX5_addTrailer_17 dX5_addTrailer_18 dX5_addTrailer_20 dX5_addTrailer_23 ⟨Nat.le_of_ble_eq_true rfl, Nat.le_of_ble_eq_true rfl, Nat.le_of_ble_eq_true rfl, Nat.le_of_ble_eq_true rfl⟩
def f_X5_advance (X : Nat → Nat → Int32) (v1 : Int32) : Nat × Int32 × (Nat → Nat → Int32) := (if (f_X5_faultOfAdvance X v1) = 0 then (zlet (f_X0_keep X) fun X_2 => (zlet (zU X_2 1 6 ((X_2 1 6) + v1)) fun X_4 => (0, (X_4 1 6), X_4))) else (1, 0, X))
set_option maxRecDepth 100000 in
set_option maxHeartbeats 4000000 in
theorem c_X5_advance (l : Launch) (hlt : l.stackTraces = false) (D : va_G) (cy : Nat → ClassId) (ad : Nat → Nat) (E : va_W) (X : Nat → Nat → Int32) (v1 : Int32) : zMx l yX5_advance cX5_advance 2 (some .int) (zrmx 5) D (zTy cy) (zW cy ad shC E X) [.ref (ad 0), .int v1] (f_X5_advance X v1).1 (f_X5_advance X v1).2.1 (zW cy ad shC E (f_X5_advance X v1).2.2) := by
  refine zMx.of (by decide) (Nat.le_of_ble_eq_true rfl) ?_
  intro p e s m below meth c A C hr hT hout
  generalize h : f_X5_advance X v1 = res
  unfold f_X5_advance at h
  refine zG_L (L' := [(0, .ref (ad 0)), (1, .int v1)]) rfl ?_
  refine g_aload_n (j := 0) C dX5_advance_0 rfl rfl ?_
  refine g_iload_n (j := 1) C dX5_advance_1 rfl rfl ?_
  refine g_vi (ws' := (zW cy ad shC E X)) (As := [.int v1]) (rest := []) (res := (f_X5_faultOfAdvance X v1)) C (c_X5_faultOfAdvance l D cy ad E X v1) zml_RX5_325 zcv_X5_faultOfAdvance (zW_get X sC_0) rfl rfl rfl ⟨Nat.le_of_ble_eq_true rfl, Nat.le_of_ble_eq_true rfl⟩ rfl rfl (Nat.le_of_ble_eq_true rfl) ⟨Nat.zero_le _, Nat.zero_le _⟩ dX5_advance_2 ?_
  refine g_if_eq C dX5_advance_5 (tgt := 19) (by decide) (fun hc_1 => ?_) (fun hc_1 => ?_)
  · replace h := (if_pos hc_1).symm.trans h
    refine g_aload_n (j := 0) C dX5_advance_19 rfl rfl ?_
    refine g_getr (k := 2) (N := 11) C sC_0 rfl zin_RX5 (by decide) rfl zfl_RX5_22 rfl dX5_advance_20 ?_
    refine g_aload_n (j := 0) C dX5_advance_23 rfl rfl ?_
    refine g_getr (k := 0) (N := 11) C sC_0 rfl zin_RX5 (by decide) rfl zfl_RX5_10 rfl dX5_advance_24 ?_
    obtain ⟨X_2, e_3, h⟩ := zlet_ex h
    refine g_vv (ws' := (zW cy ad shC E X_2)) (As := [.ref (ad 1)]) (rest := []) C ((by rw [e_3]; exact c_X0_keep l D cy ad E X)) zml_RX5_90 zcv_X0_keep (zW_get X sC_27) rfl rfl rfl ⟨Nat.le_of_ble_eq_true rfl, Nat.le_of_ble_eq_true rfl⟩ rfl rfl (Nat.le_of_ble_eq_true rfl) ⟨Nat.zero_le _, Nat.zero_le _⟩ dX5_advance_27 ?_
    refine g_aload_n (j := 0) C dX5_advance_30 rfl rfl ?_
    refine g_getr (k := 0) (N := 11) C sC_0 rfl zin_RX5 (by decide) rfl zfl_RX5_10 rfl dX5_advance_31 ?_
    refine g_dup C dX5_advance_34 rfl ?_
    refine g_geti (k := 6) (N := 8) C sC_1 rfl zin_RX3 (by decide) rfl zfl_RX5_330 rfl dX5_advance_35 ?_
    refine g_iload_n (j := 1) C dX5_advance_38 rfl rfl ?_
    refine g_iadd C dX5_advance_39 ?_
    refine g_puti (k := 6) (N := 8) (ty := .int) C sC_1 rfl zin_RX3 (by decide) rfl zfl_RX5_330 rfl tyX3_ok nmX3 rfl (by decide +kernel) rfl rfl dX5_advance_40 ?_
    obtain ⟨X_4, e_5, h⟩ := zlet_ex h
    rw [← e_5]
    refine g_aload_n (j := 0) C dX5_advance_43 rfl rfl ?_
    refine g_getr (k := 0) (N := 11) C sC_0 rfl zin_RX5 (by decide) rfl zfl_RX5_10 rfl dX5_advance_44 ?_
    refine g_geti (k := 6) (N := 8) C sC_1 rfl zin_RX3 (by decide) rfl zfl_RX5_330 rfl dX5_advance_47 ?_
    subst h
    exact g_xret C hr rfl dX5_advance_50
  · replace h := (if_neg hc_1).symm.trans h
    subst h
    exact g_throwW 1 0 C hT hlt hout rfl (by decide) ⟨by decide +kernel, by decide +kernel⟩ zcl_68 zini_1 (List.mem_of_getElem? (i := 37) rfl) zat_72 zgw_72 dX5_advance_8 dX5_advance_11 dX5_advance_12 dX5_advance_15 dX5_advance_18 ⟨Nat.le_of_ble_eq_true rfl, Nat.le_of_ble_eq_true rfl, Nat.le_of_ble_eq_true rfl, Nat.le_of_ble_eq_true rfl⟩
def f_X5_at (X : Nat → Nat → Int32) (v1 v2 v3 : Int32) : Option (Nat × Int32 × (Nat → Nat → Int32)) := (if (f_X5_isDay v1) = 0 then some (1, 0, X) else (if (f_X5_isWithin v2 (nI 0) (nI 1200)) = 0 then some (1, 0, X) else (if (f_X5_isWithin v3 (nI 0) (nI 3)) = 0 then some (1, 0, X) else (if v3 = (nI 0) then ((f_X3_running X (nI 0) v1 v2).bind fun q_5 => some (0, q_5, X)) else (if v3 = (nI 1) then ((f_X3_cleanedHalls X v1 v2).bind fun q_8 => some (0, q_8, X)) else (if v3 = (nI 2) then ((f_X3_running X (nI 5) v1 v2).bind fun q_11 => some (0, q_11, X)) else ((f_X3_firstRunning X v1 v2).bind fun q_13 => some (0, q_13, X))))))))
set_option maxRecDepth 100000 in
set_option maxHeartbeats 4000000 in
theorem c_X5_at (l : Launch) (hlt : l.stackTraces = false) (D : va_G) (cy : Nat → ClassId) (ad : Nat → Nat) (E : va_W) (X : Nat → Nat → Int32) (v1 v2 v3 : Int32) {res : Nat × Int32 × (Nat → Nat → Int32)} (h : f_X5_at X v1 v2 v3 = some res) : zMx l yX5_at cX5_at 4 (some .int) (zrmx 6) D (zTy cy) (zW cy ad shC E X) [.ref (ad 0), .int v1, .int v2, .int v3] res.1 res.2.1 (zW cy ad shC E res.2.2) := by
  refine zMx.of (by decide) (Nat.le_of_ble_eq_true rfl) ?_
  intro p e s m below meth c A C hr hT hout
  unfold f_X5_at at h
  refine zG_L (L' := [(0, .ref (ad 0)), (1, .int v1), (2, .int v2), (3, .int v3)]) rfl ?_
  refine g_iload_n (j := 1) C dX5_at_0 rfl rfl ?_
  refine g_si (ws' := (zW cy ad shC E X)) (As := [.int v1]) (rest := []) (res := (f_X5_isDay v1)) C (c_X5_isDay l D cy (zW cy ad shC E X) v1) zml_RX5_108 zcs_X5_isDay rfl rfl ⟨Nat.le_of_ble_eq_true rfl, Nat.le_of_ble_eq_true rfl⟩ rfl rfl (Nat.le_of_ble_eq_true rfl) ⟨Nat.zero_le _, Nat.zero_le _⟩ dX5_at_1 ?_
  refine g_if_eq C dX5_at_4 (tgt := 27) (by decide) (fun hc_1 => ?_) (fun hc_1 => ?_)
  · replace h := (if_pos hc_1).symm.trans h
    obtain rfl := Option.some.inj h
    exact g_throw 1 0 C hT hlt hout rfl (by decide) ⟨by decide +kernel, by decide +kernel⟩ zcl_68 zini_1 (List.mem_of_getElem? (i := 0) rfl) zat_72 zgw_72 dX5_at_27 dX5_at_30 dX5_at_31 dX5_at_33 dX5_at_36 ⟨Nat.le_of_ble_eq_true rfl, Nat.le_of_ble_eq_true rfl, Nat.le_of_ble_eq_true rfl, Nat.le_of_ble_eq_true rfl⟩
  · replace h := (if_neg hc_1).symm.trans h
    refine g_iload_n (j := 2) C dX5_at_7 rfl rfl ?_
    refine g_iconst (v := (nI 0)) C dX5_at_8 (by decide) ?_
    refine g_sipush (v := (nI 1200)) C dX5_at_9 (by decide) ?_
    refine g_si (ws' := (zW cy ad shC E X)) (As := [.int v2, .int (nI 0), .int (nI 1200)]) (rest := []) (res := (f_X5_isWithin v2 (nI 0) (nI 1200))) C (c_X5_isWithin l D cy (zW cy ad shC E X) v2 (nI 0) (nI 1200)) zml_RX5_64 zcs_X5_isWithin rfl rfl ⟨Nat.le_of_ble_eq_true rfl, Nat.le_of_ble_eq_true rfl⟩ rfl rfl (Nat.le_of_ble_eq_true rfl) ⟨Nat.zero_le _, Nat.zero_le _⟩ dX5_at_12 ?_
    refine g_if_eq C dX5_at_15 (tgt := 27) (by decide) (fun hc_2 => ?_) (fun hc_2 => ?_)
    · replace h := (if_pos hc_2).symm.trans h
      obtain rfl := Option.some.inj h
      exact g_throw 1 0 C hT hlt hout rfl (by decide) ⟨by decide +kernel, by decide +kernel⟩ zcl_68 zini_1 (List.mem_of_getElem? (i := 0) rfl) zat_72 zgw_72 dX5_at_27 dX5_at_30 dX5_at_31 dX5_at_33 dX5_at_36 ⟨Nat.le_of_ble_eq_true rfl, Nat.le_of_ble_eq_true rfl, Nat.le_of_ble_eq_true rfl, Nat.le_of_ble_eq_true rfl⟩
    · replace h := (if_neg hc_2).symm.trans h
      refine g_iload_n (j := 3) C dX5_at_18 rfl rfl ?_
      refine g_iconst (v := (nI 0)) C dX5_at_19 (by decide) ?_
      refine g_iconst (v := (nI 3)) C dX5_at_20 (by decide) ?_
      refine g_si (ws' := (zW cy ad shC E X)) (As := [.int v3, .int (nI 0), .int (nI 3)]) (rest := []) (res := (f_X5_isWithin v3 (nI 0) (nI 3))) C (c_X5_isWithin l D cy (zW cy ad shC E X) v3 (nI 0) (nI 3)) zml_RX5_64 zcs_X5_isWithin rfl rfl ⟨Nat.le_of_ble_eq_true rfl, Nat.le_of_ble_eq_true rfl⟩ rfl rfl (Nat.le_of_ble_eq_true rfl) ⟨Nat.zero_le _, Nat.zero_le _⟩ dX5_at_21 ?_
      refine g_if_ne C dX5_at_24 (tgt := 37) (by decide) (fun hc_3 => ?_) (fun hc_3 => ?_)
      · replace h := (if_neg hc_3).symm.trans h
        refine g_iload_n (j := 3) C dX5_at_37 rfl rfl ?_
        by_cases hc_4 : v3 = (nI 0)
        · replace h := (if_pos hc_4).symm.trans h
          refine g_tabEq C dX5_at_38 hc_4 (by decide) (by decide) rfl (tgt := 64) (by decide) ?_
          refine g_aload_n (j := 0) C dX5_at_64 rfl rfl ?_
          refine g_getr (k := 0) (N := 11) C sC_0 rfl zin_RX5 (by decide) rfl zfl_RX5_10 rfl dX5_at_65 ?_
          refine g_iconst (v := (nI 0)) C dX5_at_68 (by decide) ?_
          refine g_iload_n (j := 1) C dX5_at_69 rfl rfl ?_
          refine g_iload_n (j := 2) C dX5_at_70 rfl rfl ?_
          obtain ⟨q_5, hq_6, h⟩ := bind_isome h
          refine g_vi (ws' := (zW cy ad shC E X)) (As := [.int (nI 0), .int v1, .int v2]) (rest := []) (res := q_5) C (c_X3_running l D cy ad E X (nI 0) v1 v2 hq_6) zml_RX5_314 zcv_X3_running (zW_get X sC_1) rfl rfl rfl ⟨Nat.le_of_ble_eq_true rfl, Nat.le_of_ble_eq_true rfl⟩ rfl rfl (Nat.le_of_ble_eq_true rfl) ⟨Nat.zero_le _, Nat.zero_le _⟩ dX5_at_71 ?_
          obtain rfl := Option.some.inj h
          exact g_xret C hr rfl dX5_at_74
        replace h := (if_neg hc_4).symm.trans h
        by_cases hc_7 : v3 = (nI 1)
        · replace h := (if_pos hc_7).symm.trans h
          refine g_tabEq C dX5_at_38 hc_7 (by decide) (by decide) rfl (tgt := 75) (by decide) ?_
          refine g_aload_n (j := 0) C dX5_at_75 rfl rfl ?_
          refine g_getr (k := 0) (N := 11) C sC_0 rfl zin_RX5 (by decide) rfl zfl_RX5_10 rfl dX5_at_76 ?_
          refine g_iload_n (j := 1) C dX5_at_79 rfl rfl ?_
          refine g_iload_n (j := 2) C dX5_at_80 rfl rfl ?_
          obtain ⟨q_8, hq_9, h⟩ := bind_isome h
          refine g_vi (ws' := (zW cy ad shC E X)) (As := [.int v1, .int v2]) (rest := []) (res := q_8) C (c_X3_cleanedHalls l D cy ad E X v1 v2 hq_9) zml_RX5_317 zcv_X3_cleanedHalls (zW_get X sC_1) rfl rfl rfl ⟨Nat.le_of_ble_eq_true rfl, Nat.le_of_ble_eq_true rfl⟩ rfl rfl (Nat.le_of_ble_eq_true rfl) ⟨Nat.zero_le _, Nat.zero_le _⟩ dX5_at_81 ?_
          obtain rfl := Option.some.inj h
          exact g_xret C hr rfl dX5_at_84
        replace h := (if_neg hc_7).symm.trans h
        by_cases hc_10 : v3 = (nI 2)
        · replace h := (if_pos hc_10).symm.trans h
          refine g_tabEq C dX5_at_38 hc_10 (by decide) (by decide) rfl (tgt := 85) (by decide) ?_
          refine g_aload_n (j := 0) C dX5_at_85 rfl rfl ?_
          refine g_getr (k := 0) (N := 11) C sC_0 rfl zin_RX5 (by decide) rfl zfl_RX5_10 rfl dX5_at_86 ?_
          refine g_iconst (v := (nI 5)) C dX5_at_89 (by decide) ?_
          refine g_iload_n (j := 1) C dX5_at_90 rfl rfl ?_
          refine g_iload_n (j := 2) C dX5_at_91 rfl rfl ?_
          obtain ⟨q_11, hq_12, h⟩ := bind_isome h
          refine g_vi (ws' := (zW cy ad shC E X)) (As := [.int (nI 5), .int v1, .int v2]) (rest := []) (res := q_11) C (c_X3_running l D cy ad E X (nI 5) v1 v2 hq_12) zml_RX5_314 zcv_X3_running (zW_get X sC_1) rfl rfl rfl ⟨Nat.le_of_ble_eq_true rfl, Nat.le_of_ble_eq_true rfl⟩ rfl rfl (Nat.le_of_ble_eq_true rfl) ⟨Nat.zero_le _, Nat.zero_le _⟩ dX5_at_92 ?_
          obtain rfl := Option.some.inj h
          exact g_xret C hr rfl dX5_at_95
        replace h := (if_neg hc_10).symm.trans h
        refine g_tabOut C dX5_at_38 (z_tabout_3 (lo := 0) (hi := 2) hc_4 hc_7 hc_10 (by decide)) (tgt := 96) (by decide) ?_
        refine g_aload_n (j := 0) C dX5_at_96 rfl rfl ?_
        refine g_getr (k := 0) (N := 11) C sC_0 rfl zin_RX5 (by decide) rfl zfl_RX5_10 rfl dX5_at_97 ?_
        refine g_iload_n (j := 1) C dX5_at_100 rfl rfl ?_
        refine g_iload_n (j := 2) C dX5_at_101 rfl rfl ?_
        obtain ⟨q_13, hq_14, h⟩ := bind_isome h
        refine g_vi (ws' := (zW cy ad shC E X)) (As := [.int v1, .int v2]) (rest := []) (res := q_13) C (c_X3_firstRunning l D cy ad E X v1 v2 hq_14) zml_RX5_320 zcv_X3_firstRunning (zW_get X sC_1) rfl rfl rfl ⟨Nat.le_of_ble_eq_true rfl, Nat.le_of_ble_eq_true rfl⟩ rfl rfl (Nat.le_of_ble_eq_true rfl) ⟨Nat.zero_le _, Nat.zero_le _⟩ dX5_at_102 ?_
        obtain rfl := Option.some.inj h
        exact g_xret C hr rfl dX5_at_105
      · replace h := (if_pos hc_3).symm.trans h
        obtain rfl := Option.some.inj h
        exact g_throw 1 0 C hT hlt hout rfl (by decide) ⟨by decide +kernel, by decide +kernel⟩ zcl_68 zini_1 (List.mem_of_getElem? (i := 0) rfl) zat_72 zgw_72 dX5_at_27 dX5_at_30 dX5_at_31 dX5_at_33 dX5_at_36 ⟨Nat.le_of_ble_eq_true rfl, Nat.le_of_ble_eq_true rfl, Nat.le_of_ble_eq_true rfl, Nat.le_of_ble_eq_true rfl⟩
def f_X5_bestFilm_L39 (X : Nat → Nat → Int32) : Nat → Int32 → Int32 → Int32 → Option (Nat × Int32 × (Nat → Nat → Int32))
  | 0, _, _, _ => none
  | fu + 1, v1, v2, v3 => (if (f_X4_size X 4 96) ≤ v3 then some (0, v1, X) else ((f_X3_total X (nI 2) (nI 1) v3).bind fun q_1005 => (if q_1005 ≤ v2 then f_X5_bestFilm_L39 X fu v1 v2 (v3 + 1) else f_X5_bestFilm_L39 X fu v3 q_1005 (v3 + 1))))
set_option maxRecDepth 100000 in
set_option maxHeartbeats 4000000 in
theorem w_X5_bestFilm_L39 {p : Program} {e : Env} {s : State} {m : MethodId} {args : Array Value} {below : List Frame} {meth : Method} {c : Code} {A : Nat → Prop} (l : Launch) (D : va_G) (cy : Nat → ClassId) (ad : Nat → Nat) (E : va_W) (X : Nat → Nat → Int32) {res : Nat × Int32 × (Nat → Nat → Int32)} (C : zC p s m args meth c cX5_bestFilm 5 RX5 D (zTy cy) A) (hT : zTh A s s.heap) (hlt : l.stackTraces = false) (hout : ∀ x ∈ c.exceptionTable.toList, False) (hr : meth.sig.returnType = (some .int)) : ∀ (fu : Nat) (v1 v2 v3 : Int32) (h : f_X5_bestFilm_L39 X fu v1 v2 v3 = some res), zG p l e (zrmx 6) s m args below meth c 5 D A 0 0 (zQx below args s res.1 res.2.1 D (zTy cy) A (zW cy ad shC E res.2.2)) (zW cy ad shC E X) 39 [(0, .ref (ad 0)), (1, .int v1), (2, .int v2), (3, .int v3)] [] := by
  intro fu
  induction fu with
  | zero => intro v1 v2 v3 h; simp [f_X5_bestFilm_L39] at h
  | succ fu ih =>
    intro v1 v2 v3 h
    rw [f_X5_bestFilm_L39] at h
    refine g_iload_n (j := 3) C dX5_bestFilm_39 rfl rfl ?_
    refine g_aload_n (j := 0) C dX5_bestFilm_40 rfl rfl ?_
    refine g_getr (k := 0) (N := 11) C sC_0 rfl zin_RX5 (by decide) rfl zfl_RX5_10 rfl dX5_bestFilm_41 ?_
    refine g_getr (k := 1) (N := 8) C sC_1 rfl zin_RX3 (by decide) rfl zfl_RX5_111 rfl dX5_bestFilm_44 ?_
    refine g_vi (ws' := (zW cy ad shC E X)) (As := []) (rest := [.int v3]) (res := (f_X4_size X 4 96)) C (c_X4_size l D cy ad E X 4 96 sC_4 sC_5 (by decide)) zml_RX5_79 zcv_X4_size (zW_get X sC_4) rfl rfl rfl ⟨Nat.le_of_ble_eq_true rfl, Nat.le_of_ble_eq_true rfl⟩ rfl rfl (Nat.le_of_ble_eq_true rfl) ⟨Nat.zero_le _, Nat.zero_le _⟩ dX5_bestFilm_47 ?_
    refine g_icmp_ge C dX5_bestFilm_50 (tgt := 82) (by decide) (fun hc_1004 => ?_) (fun hc_1004 => ?_)
    · replace h := (if_pos hc_1004).symm.trans h
      refine g_iload_n (j := 1) C dX5_bestFilm_82 rfl rfl ?_
      obtain rfl := Option.some.inj h
      exact g_xret C hr rfl dX5_bestFilm_83
    · replace h := (if_neg hc_1004).symm.trans h
      refine g_aload_n (j := 0) C dX5_bestFilm_53 rfl rfl ?_
      refine g_getr (k := 0) (N := 11) C sC_0 rfl zin_RX5 (by decide) rfl zfl_RX5_10 rfl dX5_bestFilm_54 ?_
      refine g_iconst (v := (nI 2)) C dX5_bestFilm_57 (by decide) ?_
      refine g_iconst (v := (nI 1)) C dX5_bestFilm_58 (by decide) ?_
      refine g_iload_n (j := 3) C dX5_bestFilm_59 rfl rfl ?_
      obtain ⟨q_1005, hq_1006, h⟩ := bind_isome h
      refine g_vi (ws' := (zW cy ad shC E X)) (As := [.int (nI 2), .int (nI 1), .int v3]) (rest := []) (res := q_1005) C (c_X3_total l D cy ad E X (nI 2) (nI 1) v3 hq_1006) zml_RX5_163 zcv_X3_total (zW_get X sC_1) rfl rfl rfl ⟨Nat.le_of_ble_eq_true rfl, Nat.le_of_ble_eq_true rfl⟩ rfl rfl (Nat.le_of_ble_eq_true rfl) ⟨Nat.zero_le _, Nat.zero_le _⟩ dX5_bestFilm_60 ?_
      refine g_istore (L' := [(4, .int q_1005), (0, .ref (ad 0)), (1, .int v1), (2, .int v2), (3, .int v3)]) C dX5_bestFilm_63 (by decide) rfl ?_
      refine g_iload (j := 0) C dX5_bestFilm_65 rfl ?_
      refine g_iload_n (j := 3) C dX5_bestFilm_67 rfl rfl ?_
      refine g_icmp_le C dX5_bestFilm_68 (tgt := 76) (by decide) (fun hc_1007 => ?_) (fun hc_1007 => ?_)
      · replace h := (if_pos hc_1007).symm.trans h
        refine g_iinc (k := 4) (L' := [(3, .int (v3 + 1)), (4, .int q_1005), (0, .ref (ad 0)), (1, .int v1), (2, .int v2)]) C dX5_bestFilm_76 rfl (z_iinc (by decide)) (by decide) rfl ?_
        refine g_goto C dX5_bestFilm_79 (tgt := 39) (by decide) ?_
        refine zG_sub (L' := [(0, .ref (ad 0)), (1, .int v1), (2, .int v2), (3, .int (v3 + 1))]) [2, 3, 4, 0] rfl ?_
        exact ih v1 v2 (v3 + 1) h
      · replace h := (if_neg hc_1007).symm.trans h
        refine g_iload_n (j := 4) C dX5_bestFilm_71 rfl rfl ?_
        refine g_istore_n (L' := [(1, .int v3), (4, .int q_1005), (0, .ref (ad 0)), (2, .int v2), (3, .int v3)]) C dX5_bestFilm_72 rfl (by decide) rfl ?_
        refine g_iload (j := 1) C dX5_bestFilm_73 rfl ?_
        refine g_istore_n (L' := [(2, .int q_1005), (1, .int v3), (4, .int q_1005), (0, .ref (ad 0)), (3, .int v3)]) C dX5_bestFilm_75 rfl (by decide) rfl ?_
        refine g_iinc (k := 4) (L' := [(3, .int (v3 + 1)), (2, .int q_1005), (1, .int v3), (4, .int q_1005), (0, .ref (ad 0))]) C dX5_bestFilm_76 rfl (z_iinc (by decide)) (by decide) rfl ?_
        refine g_goto C dX5_bestFilm_79 (tgt := 39) (by decide) ?_
        refine zG_sub (L' := [(0, .ref (ad 0)), (1, .int v3), (2, .int q_1005), (3, .int (v3 + 1))]) [4, 2, 1, 0] rfl ?_
        exact ih v3 q_1005 (v3 + 1) h
def f_X5_bestFilm (X : Nat → Nat → Int32) : Option (Nat × Int32 × (Nat → Nat → Int32)) := (if (f_X4_size X 4 96) = 0 then some (6, 0, X) else ((f_X3_total X (nI 2) (nI 1) (nI 0)).bind fun q_2 => f_X5_bestFilm_L39 X zFuel (nI 0) q_2 (nI 1)))
set_option maxRecDepth 100000 in
set_option maxHeartbeats 4000000 in
theorem c_X5_bestFilm (l : Launch) (hlt : l.stackTraces = false) (D : va_G) (cy : Nat → ClassId) (ad : Nat → Nat) (E : va_W) (X : Nat → Nat → Int32) {res : Nat × Int32 × (Nat → Nat → Int32)} (h : f_X5_bestFilm X = some res) : zMx l yX5_bestFilm cX5_bestFilm 5 (some .int) (zrmx 6) D (zTy cy) (zW cy ad shC E X) [.ref (ad 0)] res.1 res.2.1 (zW cy ad shC E res.2.2) := by
  refine zMx.of (by decide) (Nat.le_of_ble_eq_true rfl) ?_
  intro p e s m below meth c A C hr hT hout
  unfold f_X5_bestFilm at h
  refine zG_L (L' := [(0, .ref (ad 0))]) rfl ?_
  refine g_aload_n (j := 0) C dX5_bestFilm_0 rfl rfl ?_
  refine g_getr (k := 0) (N := 11) C sC_0 rfl zin_RX5 (by decide) rfl zfl_RX5_10 rfl dX5_bestFilm_1 ?_
  refine g_getr (k := 1) (N := 8) C sC_1 rfl zin_RX3 (by decide) rfl zfl_RX5_111 rfl dX5_bestFilm_4 ?_
  refine g_vi (ws' := (zW cy ad shC E X)) (As := []) (rest := []) (res := (f_X4_size X 4 96)) C (c_X4_size l D cy ad E X 4 96 sC_4 sC_5 (by decide)) zml_RX5_79 zcv_X4_size (zW_get X sC_4) rfl rfl rfl ⟨Nat.le_of_ble_eq_true rfl, Nat.le_of_ble_eq_true rfl⟩ rfl rfl (Nat.le_of_ble_eq_true rfl) ⟨Nat.zero_le _, Nat.zero_le _⟩ dX5_bestFilm_7 ?_
  refine g_if_ne C dX5_bestFilm_10 (tgt := 24) (by decide) (fun hc_1 => ?_) (fun hc_1 => ?_)
  · replace h := (if_neg hc_1).symm.trans h
    refine g_iconst (v := (nI 0)) C dX5_bestFilm_24 (by decide) ?_
    refine g_istore_n (L' := [(1, .int (nI 0)), (0, .ref (ad 0))]) C dX5_bestFilm_25 rfl (by decide) rfl ?_
    refine g_aload_n (j := 1) C dX5_bestFilm_26 rfl rfl ?_
    refine g_getr (k := 0) (N := 11) C sC_0 rfl zin_RX5 (by decide) rfl zfl_RX5_10 rfl dX5_bestFilm_27 ?_
    refine g_iconst (v := (nI 2)) C dX5_bestFilm_30 (by decide) ?_
    refine g_iconst (v := (nI 1)) C dX5_bestFilm_31 (by decide) ?_
    refine g_iload_n (j := 0) C dX5_bestFilm_32 rfl rfl ?_
    obtain ⟨q_2, hq_3, h⟩ := bind_isome h
    refine g_vi (ws' := (zW cy ad shC E X)) (As := [.int (nI 2), .int (nI 1), .int (nI 0)]) (rest := []) (res := q_2) C (c_X3_total l D cy ad E X (nI 2) (nI 1) (nI 0) hq_3) zml_RX5_163 zcv_X3_total (zW_get X sC_1) rfl rfl rfl ⟨Nat.le_of_ble_eq_true rfl, Nat.le_of_ble_eq_true rfl⟩ rfl rfl (Nat.le_of_ble_eq_true rfl) ⟨Nat.zero_le _, Nat.zero_le _⟩ dX5_bestFilm_33 ?_
    refine g_istore_n (L' := [(2, .int q_2), (1, .int (nI 0)), (0, .ref (ad 0))]) C dX5_bestFilm_36 rfl (by decide) rfl ?_
    refine g_iconst (v := (nI 1)) C dX5_bestFilm_37 (by decide) ?_
    refine g_istore_n (L' := [(3, .int (nI 1)), (2, .int q_2), (1, .int (nI 0)), (0, .ref (ad 0))]) C dX5_bestFilm_38 rfl (by decide) rfl ?_
    refine zG_sub (L' := [(0, .ref (ad 0)), (1, .int (nI 0)), (2, .int q_2), (3, .int (nI 1))]) [3, 2, 1, 0] rfl ?_
    exact w_X5_bestFilm_L39 l D cy ad E X C hT hlt hout hr zFuel (nI 0) q_2 (nI 1) h
  · replace h := (if_pos hc_1).symm.trans h
    obtain rfl := Option.some.inj h
    exact g_throwNW 6 0 C hT hlt hout rfl rfl zcl_171 zini_6 (List.mem_of_getElem? (i := 38) rfl) zat_175 zgw_175 dX5_bestFilm_13 dX5_bestFilm_16 dX5_bestFilm_17 dX5_bestFilm_20 dX5_bestFilm_23 ⟨Nat.le_of_ble_eq_true rfl, Nat.le_of_ble_eq_true rfl, Nat.le_of_ble_eq_true rfl, Nat.le_of_ble_eq_true rfl⟩
def f_X5_cancel (X : Nat → Nat → Int32) (v1 : Int32) : Nat × Int32 × (Nat → Nat → Int32) := (if (f_X5_faultOfCancel X v1) = (nI 1) then (3, 0, X) else (if (f_X5_faultOfCancel X v1) = (nI 3) then (2, 0, X) else (zlet (f_X0_keep X) fun X_3 => (zlet (f_X3_dropShow X_3 v1) fun q_5 => (0, q_5.1, q_5.2)))))
set_option maxRecDepth 100000 in
set_option maxHeartbeats 4000000 in
theorem c_X5_cancel (l : Launch) (hlt : l.stackTraces = false) (D : va_G) (cy : Nat → ClassId) (ad : Nat → Nat) (E : va_W) (X : Nat → Nat → Int32) (v1 : Int32) : zMx l yX5_cancel cX5_cancel 3 (some .int) (zrmx 6) D (zTy cy) (zW cy ad shC E X) [.ref (ad 0), .int v1] (f_X5_cancel X v1).1 (f_X5_cancel X v1).2.1 (zW cy ad shC E (f_X5_cancel X v1).2.2) := by
  refine zMx.of (by decide) (Nat.le_of_ble_eq_true rfl) ?_
  intro p e s m below meth c A C hr hT hout
  generalize h : f_X5_cancel X v1 = res
  unfold f_X5_cancel at h
  refine zG_L (L' := [(0, .ref (ad 0)), (1, .int v1)]) rfl ?_
  refine g_aload_n (j := 0) C dX5_cancel_0 rfl rfl ?_
  refine g_iload_n (j := 1) C dX5_cancel_1 rfl rfl ?_
  refine g_vi (ws' := (zW cy ad shC E X)) (As := [.int v1]) (rest := []) (res := (f_X5_faultOfCancel X v1)) C (c_X5_faultOfCancel l D cy ad E X v1) zml_RX5_238 zcv_X5_faultOfCancel (zW_get X sC_0) rfl rfl rfl ⟨Nat.le_of_ble_eq_true rfl, Nat.le_of_ble_eq_true rfl⟩ rfl rfl (Nat.le_of_ble_eq_true rfl) ⟨Nat.zero_le _, Nat.zero_le _⟩ dX5_cancel_2 ?_
  refine g_istore_n (L' := [(2, .int (f_X5_faultOfCancel X v1)), (0, .ref (ad 0)), (1, .int v1)]) C dX5_cancel_5 rfl (by decide) rfl ?_
  refine g_iload_n (j := 0) C dX5_cancel_6 rfl rfl ?_
  refine g_iconst (v := (nI 1)) C dX5_cancel_7 (by decide) ?_
  refine g_icmp_ne C dX5_cancel_8 (tgt := 21) (by decide) (fun hc_1 => ?_) (fun hc_1 => ?_)
  · replace h := (if_neg hc_1).symm.trans h
    refine g_iload_n (j := 0) C dX5_cancel_21 rfl rfl ?_
    refine g_iconst (v := (nI 3)) C dX5_cancel_22 (by decide) ?_
    refine g_icmp_ne C dX5_cancel_23 (tgt := 36) (by decide) (fun hc_2 => ?_) (fun hc_2 => ?_)
    · replace h := (if_neg hc_2).symm.trans h
      refine g_aload_n (j := 1) C dX5_cancel_36 rfl rfl ?_
      refine g_getr (k := 2) (N := 11) C sC_0 rfl zin_RX5 (by decide) rfl zfl_RX5_22 rfl dX5_cancel_37 ?_
      refine g_aload_n (j := 1) C dX5_cancel_40 rfl rfl ?_
      refine g_getr (k := 0) (N := 11) C sC_0 rfl zin_RX5 (by decide) rfl zfl_RX5_10 rfl dX5_cancel_41 ?_
      obtain ⟨X_3, e_4, h⟩ := zlet_ex h
      refine g_vv (ws' := (zW cy ad shC E X_3)) (As := [.ref (ad 1)]) (rest := []) C ((by rw [e_4]; exact c_X0_keep l D cy ad E X)) zml_RX5_90 zcv_X0_keep (zW_get X sC_27) rfl rfl rfl ⟨Nat.le_of_ble_eq_true rfl, Nat.le_of_ble_eq_true rfl⟩ rfl rfl (Nat.le_of_ble_eq_true rfl) ⟨Nat.zero_le _, Nat.zero_le _⟩ dX5_cancel_44 ?_
      refine g_aload_n (j := 1) C dX5_cancel_47 rfl rfl ?_
      refine g_getr (k := 0) (N := 11) C sC_0 rfl zin_RX5 (by decide) rfl zfl_RX5_10 rfl dX5_cancel_48 ?_
      refine g_iload_n (j := 2) C dX5_cancel_51 rfl rfl ?_
      obtain ⟨q_5, e_6, h⟩ := zlet_ex h
      refine g_vi (ws' := (zW cy ad shC E q_5.2)) (As := [.int v1]) (rest := []) (res := q_5.1) C ((by rw [e_6]; exact c_X3_dropShow l D cy ad E X_3 v1)) zml_RX5_243 zcv_X3_dropShow (zW_get X_3 sC_1) rfl rfl rfl ⟨Nat.le_of_ble_eq_true rfl, Nat.le_of_ble_eq_true rfl⟩ rfl rfl (Nat.le_of_ble_eq_true rfl) ⟨Nat.zero_le _, Nat.zero_le _⟩ dX5_cancel_52 ?_
      subst h
      exact g_xret C hr rfl dX5_cancel_55
    · replace h := (if_pos hc_2).symm.trans h
      subst h
      exact g_throw 2 0 C hT hlt hout rfl (by decide) ⟨by decide +kernel, by decide +kernel⟩ zcl_85 zini_2 (List.mem_of_getElem? (i := 24) rfl) zat_89 zgw_89 dX5_cancel_26 dX5_cancel_29 dX5_cancel_30 dX5_cancel_32 dX5_cancel_35 ⟨Nat.le_of_ble_eq_true rfl, Nat.le_of_ble_eq_true rfl, Nat.le_of_ble_eq_true rfl, Nat.le_of_ble_eq_true rfl⟩
  · replace h := (if_pos hc_1).symm.trans h
    subst h
    exact g_throw 3 0 C hT hlt hout rfl (by decide) ⟨by decide +kernel, by decide +kernel⟩ zcl_119 zini_3 (List.mem_of_getElem? (i := 26) rfl) zat_123 zgw_123 dX5_cancel_11 dX5_cancel_14 dX5_cancel_15 dX5_cancel_17 dX5_cancel_20 ⟨Nat.le_of_ble_eq_true rfl, Nat.le_of_ble_eq_true rfl, Nat.le_of_ble_eq_true rfl, Nat.le_of_ble_eq_true rfl⟩
def f_X5_errorPosition (X : Nat → Nat → Int32) : Nat × Int32 × (Nat → Nat → Int32) := (if (X 0 10) = (-1 : Int32) then (6, 0, X) else (0, (X 0 10), X))
set_option maxRecDepth 100000 in
set_option maxHeartbeats 4000000 in
theorem c_X5_errorPosition (l : Launch) (hlt : l.stackTraces = false) (D : va_G) (cy : Nat → ClassId) (ad : Nat → Nat) (E : va_W) (X : Nat → Nat → Int32) : zMx l yX5_errorPosition cX5_errorPosition 1 (some .int) (zrmx 1) D (zTy cy) (zW cy ad shC E X) [.ref (ad 0)] (f_X5_errorPosition X).1 (f_X5_errorPosition X).2.1 (zW cy ad shC E (f_X5_errorPosition X).2.2) := by
  refine zMx.of (by decide) (Nat.le_of_ble_eq_true rfl) ?_
  intro p e s m below meth c A C hr hT hout
  generalize h : f_X5_errorPosition X = res
  unfold f_X5_errorPosition at h
  refine zG_L (L' := [(0, .ref (ad 0))]) rfl ?_
  refine g_aload_n (j := 0) C dX5_errorPosition_0 rfl rfl ?_
  refine g_geti (k := 10) (N := 11) C sC_0 rfl zin_RX5 (by decide) rfl zfl_RX5_61 rfl dX5_errorPosition_1 ?_
  refine g_iconst (v := (-1 : Int32)) C dX5_errorPosition_4 (by decide) ?_
  refine g_icmp_ne C dX5_errorPosition_5 (tgt := 19) (by decide) (fun hc_1 => ?_) (fun hc_1 => ?_)
  · replace h := (if_neg hc_1).symm.trans h
    refine g_aload_n (j := 0) C dX5_errorPosition_19 rfl rfl ?_
    refine g_geti (k := 10) (N := 11) C sC_0 rfl zin_RX5 (by decide) rfl zfl_RX5_61 rfl dX5_errorPosition_20 ?_
    subst h
    exact g_xret C hr rfl dX5_errorPosition_23
  · replace h := (if_pos hc_1).symm.trans h
    subst h
    exact g_throwNW 6 0 C hT hlt hout rfl rfl zcl_171 zini_6 (List.mem_of_getElem? (i := 49) rfl) zat_175 zgw_175 dX5_errorPosition_8 dX5_errorPosition_11 dX5_errorPosition_12 dX5_errorPosition_15 dX5_errorPosition_18 ⟨Nat.le_of_ble_eq_true rfl, Nat.le_of_ble_eq_true rfl, Nat.le_of_ble_eq_true rfl, Nat.le_of_ble_eq_true rfl⟩
def f_X5_fail (X : Nat → Nat → Int32) (v1 v2 : Int32) : Option (Nat × Int32 × (Nat → Nat → Int32)) := (if (f_X5_faultOfFail X v1 v2) = (nI 1) then some (3, 0, X) else (if (f_X5_faultOfFail X v1 v2) = (nI 2) then some (1, 0, X) else (if (f_X5_faultOfFail X v1 v2) = (nI 3) then some (2, 0, X) else (zlet (f_X0_keep X) fun X_4 => ((f_X5_closeHall X_4 v1 v2).bind fun q_6 => some (0, q_6.1, q_6.2))))))
set_option maxRecDepth 100000 in
set_option maxHeartbeats 4000000 in
theorem c_X5_fail (l : Launch) (hlt : l.stackTraces = false) (D : va_G) (cy : Nat → ClassId) (ad : Nat → Nat) (E : va_W) (X : Nat → Nat → Int32) (v1 v2 : Int32) {res : Nat × Int32 × (Nat → Nat → Int32)} (h : f_X5_fail X v1 v2 = some res) : zMx l yX5_fail cX5_fail 4 (some .int) (zrmx 6) D (zTy cy) (zW cy ad shC E X) [.ref (ad 0), .int v1, .int v2] res.1 res.2.1 (zW cy ad shC E res.2.2) := by
  refine zMx.of (by decide) (Nat.le_of_ble_eq_true rfl) ?_
  intro p e s m below meth c A C hr hT hout
  unfold f_X5_fail at h
  refine zG_L (L' := [(0, .ref (ad 0)), (1, .int v1), (2, .int v2)]) rfl ?_
  refine g_aload_n (j := 0) C dX5_fail_0 rfl rfl ?_
  refine g_iload_n (j := 1) C dX5_fail_1 rfl rfl ?_
  refine g_iload_n (j := 2) C dX5_fail_2 rfl rfl ?_
  refine g_vi (ws' := (zW cy ad shC E X)) (As := [.int v1, .int v2]) (rest := []) (res := (f_X5_faultOfFail X v1 v2)) C (c_X5_faultOfFail l D cy ad E X v1 v2) zml_RX5_281 zcv_X5_faultOfFail (zW_get X sC_0) rfl rfl rfl ⟨Nat.le_of_ble_eq_true rfl, Nat.le_of_ble_eq_true rfl⟩ rfl rfl (Nat.le_of_ble_eq_true rfl) ⟨Nat.zero_le _, Nat.zero_le _⟩ dX5_fail_3 ?_
  refine g_istore_n (L' := [(3, .int (f_X5_faultOfFail X v1 v2)), (0, .ref (ad 0)), (1, .int v1), (2, .int v2)]) C dX5_fail_6 rfl (by decide) rfl ?_
  refine g_iload_n (j := 0) C dX5_fail_7 rfl rfl ?_
  refine g_iconst (v := (nI 1)) C dX5_fail_8 (by decide) ?_
  refine g_icmp_ne C dX5_fail_9 (tgt := 22) (by decide) (fun hc_1 => ?_) (fun hc_1 => ?_)
  · replace h := (if_neg hc_1).symm.trans h
    refine g_iload_n (j := 0) C dX5_fail_22 rfl rfl ?_
    refine g_iconst (v := (nI 2)) C dX5_fail_23 (by decide) ?_
    refine g_icmp_ne C dX5_fail_24 (tgt := 38) (by decide) (fun hc_2 => ?_) (fun hc_2 => ?_)
    · replace h := (if_neg hc_2).symm.trans h
      refine g_iload_n (j := 0) C dX5_fail_38 rfl rfl ?_
      refine g_iconst (v := (nI 3)) C dX5_fail_39 (by decide) ?_
      refine g_icmp_ne C dX5_fail_40 (tgt := 54) (by decide) (fun hc_3 => ?_) (fun hc_3 => ?_)
      · replace h := (if_neg hc_3).symm.trans h
        refine g_aload_n (j := 1) C dX5_fail_54 rfl rfl ?_
        refine g_getr (k := 2) (N := 11) C sC_0 rfl zin_RX5 (by decide) rfl zfl_RX5_22 rfl dX5_fail_55 ?_
        refine g_aload_n (j := 1) C dX5_fail_58 rfl rfl ?_
        refine g_getr (k := 0) (N := 11) C sC_0 rfl zin_RX5 (by decide) rfl zfl_RX5_10 rfl dX5_fail_59 ?_
        obtain ⟨X_4, e_5, h⟩ := zlet_ex h
        refine g_vv (ws' := (zW cy ad shC E X_4)) (As := [.ref (ad 1)]) (rest := []) C ((by rw [e_5]; exact c_X0_keep l D cy ad E X)) zml_RX5_90 zcv_X0_keep (zW_get X sC_27) rfl rfl rfl ⟨Nat.le_of_ble_eq_true rfl, Nat.le_of_ble_eq_true rfl⟩ rfl rfl (Nat.le_of_ble_eq_true rfl) ⟨Nat.zero_le _, Nat.zero_le _⟩ dX5_fail_62 ?_
        refine g_aload_n (j := 1) C dX5_fail_65 rfl rfl ?_
        refine g_iload_n (j := 2) C dX5_fail_66 rfl rfl ?_
        refine g_iload_n (j := 3) C dX5_fail_67 rfl rfl ?_
        obtain ⟨q_6, hq_7, h⟩ := bind_isome h
        refine g_vi (ws' := (zW cy ad shC E q_6.2)) (As := [.int v1, .int v2]) (rest := []) (res := q_6.1) C (c_X5_closeHall l D cy ad E X_4 v1 v2 hq_7) zml_RX5_288 zcv_X5_closeHall (zW_get X_4 sC_0) rfl rfl rfl ⟨Nat.le_of_ble_eq_true rfl, Nat.le_of_ble_eq_true rfl⟩ rfl rfl (Nat.le_of_ble_eq_true rfl) ⟨Nat.zero_le _, Nat.zero_le _⟩ dX5_fail_68 ?_
        obtain rfl := Option.some.inj h
        exact g_xret C hr rfl dX5_fail_71
      · replace h := (if_pos hc_3).symm.trans h
        obtain rfl := Option.some.inj h
        exact g_throwW 2 0 C hT hlt hout rfl (by decide) ⟨by decide +kernel, by decide +kernel⟩ zcl_85 zini_2 (List.mem_of_getElem? (i := 31) rfl) zat_89 zgw_89 dX5_fail_43 dX5_fail_46 dX5_fail_47 dX5_fail_50 dX5_fail_53 ⟨Nat.le_of_ble_eq_true rfl, Nat.le_of_ble_eq_true rfl, Nat.le_of_ble_eq_true rfl, Nat.le_of_ble_eq_true rfl⟩
    · replace h := (if_pos hc_2).symm.trans h
      obtain rfl := Option.some.inj h
      exact g_throwW 1 0 C hT hlt hout rfl (by decide) ⟨by decide +kernel, by decide +kernel⟩ zcl_68 zini_1 (List.mem_of_getElem? (i := 30) rfl) zat_72 zgw_72 dX5_fail_27 dX5_fail_30 dX5_fail_31 dX5_fail_34 dX5_fail_37 ⟨Nat.le_of_ble_eq_true rfl, Nat.le_of_ble_eq_true rfl, Nat.le_of_ble_eq_true rfl, Nat.le_of_ble_eq_true rfl⟩
  · replace h := (if_pos hc_1).symm.trans h
    obtain rfl := Option.some.inj h
    exact g_throw 3 0 C hT hlt hout rfl (by decide) ⟨by decide +kernel, by decide +kernel⟩ zcl_119 zini_3 (List.mem_of_getElem? (i := 11) rfl) zat_123 zgw_123 dX5_fail_12 dX5_fail_15 dX5_fail_16 dX5_fail_18 dX5_fail_21 ⟨Nat.le_of_ble_eq_true rfl, Nat.le_of_ble_eq_true rfl, Nat.le_of_ble_eq_true rfl, Nat.le_of_ble_eq_true rfl⟩
def f_X5_film (X : Nat → Nat → Int32) (v1 v2 : Int32) : Option (Nat × Int32 × (Nat → Nat → Int32)) := (if (f_X4_isRow X 4 96 v1) = 0 then some (3, 0, X) else (if (f_X5_isWithin v2 (nI 0) (nI 11)) = 0 then some (1, 0, X) else (if v2 = (nI 5) then ((f_X3_total X (nI 0) (nI 1) v1).bind fun q_4 => some (0, q_4, X)) else (if v2 = (nI 6) then ((f_X3_total X (nI 2) (nI 1) v1).bind fun q_7 => some (0, q_7, X)) else (if v2 = (nI 7) then ((f_X3_total X (nI 3) (nI 1) v1).bind fun q_10 => some (0, q_10, X)) else (if v2 = (nI 8) then ((f_X3_total X (nI 4) (nI 1) v1).bind fun q_13 => some (0, q_13, X)) else some (0, (f_X4_get X 4 96 v1 v2), X)))))))
set_option maxRecDepth 100000 in
set_option maxHeartbeats 4000000 in
theorem c_X5_film (l : Launch) (hlt : l.stackTraces = false) (D : va_G) (cy : Nat → ClassId) (ad : Nat → Nat) (E : va_W) (X : Nat → Nat → Int32) (v1 v2 : Int32) {res : Nat × Int32 × (Nat → Nat → Int32)} (h : f_X5_film X v1 v2 = some res) : zMx l yX5_film cX5_film 3 (some .int) (zrmx 6) D (zTy cy) (zW cy ad shC E X) [.ref (ad 0), .int v1, .int v2] res.1 res.2.1 (zW cy ad shC E res.2.2) := by
  refine zMx.of (by decide) (Nat.le_of_ble_eq_true rfl) ?_
  intro p e s m below meth c A C hr hT hout
  unfold f_X5_film at h
  refine zG_L (L' := [(0, .ref (ad 0)), (1, .int v1), (2, .int v2)]) rfl ?_
  refine g_aload_n (j := 0) C dX5_film_0 rfl rfl ?_
  refine g_getr (k := 0) (N := 11) C sC_0 rfl zin_RX5 (by decide) rfl zfl_RX5_10 rfl dX5_film_1 ?_
  refine g_getr (k := 1) (N := 8) C sC_1 rfl zin_RX3 (by decide) rfl zfl_RX5_111 rfl dX5_film_4 ?_
  refine g_iload_n (j := 1) C dX5_film_7 rfl rfl ?_
  refine g_vi (ws' := (zW cy ad shC E X)) (As := [.int v1]) (rest := []) (res := (f_X4_isRow X 4 96 v1)) C (c_X4_isRow l D cy ad E X 4 96 sC_4 sC_5 (by decide) v1) zml_RX5_116 zcv_X4_isRow (zW_get X sC_4) rfl rfl rfl ⟨Nat.le_of_ble_eq_true rfl, Nat.le_of_ble_eq_true rfl⟩ rfl rfl (Nat.le_of_ble_eq_true rfl) ⟨Nat.zero_le _, Nat.zero_le _⟩ dX5_film_8 ?_
  refine g_if_ne C dX5_film_11 (tgt := 24) (by decide) (fun hc_1 => ?_) (fun hc_1 => ?_)
  · replace h := (if_neg hc_1).symm.trans h
    refine g_iload_n (j := 2) C dX5_film_24 rfl rfl ?_
    refine g_iconst (v := (nI 0)) C dX5_film_25 (by decide) ?_
    refine g_bipush (v := (nI 11)) C dX5_film_26 (by decide) ?_
    refine g_si (ws' := (zW cy ad shC E X)) (As := [.int v2, .int (nI 0), .int (nI 11)]) (rest := []) (res := (f_X5_isWithin v2 (nI 0) (nI 11))) C (c_X5_isWithin l D cy (zW cy ad shC E X) v2 (nI 0) (nI 11)) zml_RX5_64 zcs_X5_isWithin rfl rfl ⟨Nat.le_of_ble_eq_true rfl, Nat.le_of_ble_eq_true rfl⟩ rfl rfl (Nat.le_of_ble_eq_true rfl) ⟨Nat.zero_le _, Nat.zero_le _⟩ dX5_film_28 ?_
    refine g_if_ne C dX5_film_31 (tgt := 44) (by decide) (fun hc_2 => ?_) (fun hc_2 => ?_)
    · replace h := (if_neg hc_2).symm.trans h
      refine g_iload_n (j := 2) C dX5_film_44 rfl rfl ?_
      by_cases hc_3 : v2 = (nI 5)
      · replace h := (if_pos hc_3).symm.trans h
        refine g_tabEq C dX5_film_45 hc_3 (by decide) (by decide) rfl (tgt := 76) (by decide) ?_
        refine g_aload_n (j := 0) C dX5_film_76 rfl rfl ?_
        refine g_getr (k := 0) (N := 11) C sC_0 rfl zin_RX5 (by decide) rfl zfl_RX5_10 rfl dX5_film_77 ?_
        refine g_iconst (v := (nI 0)) C dX5_film_80 (by decide) ?_
        refine g_iconst (v := (nI 1)) C dX5_film_81 (by decide) ?_
        refine g_iload_n (j := 1) C dX5_film_82 rfl rfl ?_
        obtain ⟨q_4, hq_5, h⟩ := bind_isome h
        refine g_vi (ws' := (zW cy ad shC E X)) (As := [.int (nI 0), .int (nI 1), .int v1]) (rest := []) (res := q_4) C (c_X3_total l D cy ad E X (nI 0) (nI 1) v1 hq_5) zml_RX5_163 zcv_X3_total (zW_get X sC_1) rfl rfl rfl ⟨Nat.le_of_ble_eq_true rfl, Nat.le_of_ble_eq_true rfl⟩ rfl rfl (Nat.le_of_ble_eq_true rfl) ⟨Nat.zero_le _, Nat.zero_le _⟩ dX5_film_83 ?_
        obtain rfl := Option.some.inj h
        exact g_xret C hr rfl dX5_film_86
      replace h := (if_neg hc_3).symm.trans h
      by_cases hc_6 : v2 = (nI 6)
      · replace h := (if_pos hc_6).symm.trans h
        refine g_tabEq C dX5_film_45 hc_6 (by decide) (by decide) rfl (tgt := 87) (by decide) ?_
        refine g_aload_n (j := 0) C dX5_film_87 rfl rfl ?_
        refine g_getr (k := 0) (N := 11) C sC_0 rfl zin_RX5 (by decide) rfl zfl_RX5_10 rfl dX5_film_88 ?_
        refine g_iconst (v := (nI 2)) C dX5_film_91 (by decide) ?_
        refine g_iconst (v := (nI 1)) C dX5_film_92 (by decide) ?_
        refine g_iload_n (j := 1) C dX5_film_93 rfl rfl ?_
        obtain ⟨q_7, hq_8, h⟩ := bind_isome h
        refine g_vi (ws' := (zW cy ad shC E X)) (As := [.int (nI 2), .int (nI 1), .int v1]) (rest := []) (res := q_7) C (c_X3_total l D cy ad E X (nI 2) (nI 1) v1 hq_8) zml_RX5_163 zcv_X3_total (zW_get X sC_1) rfl rfl rfl ⟨Nat.le_of_ble_eq_true rfl, Nat.le_of_ble_eq_true rfl⟩ rfl rfl (Nat.le_of_ble_eq_true rfl) ⟨Nat.zero_le _, Nat.zero_le _⟩ dX5_film_94 ?_
        obtain rfl := Option.some.inj h
        exact g_xret C hr rfl dX5_film_97
      replace h := (if_neg hc_6).symm.trans h
      by_cases hc_9 : v2 = (nI 7)
      · replace h := (if_pos hc_9).symm.trans h
        refine g_tabEq C dX5_film_45 hc_9 (by decide) (by decide) rfl (tgt := 98) (by decide) ?_
        refine g_aload_n (j := 0) C dX5_film_98 rfl rfl ?_
        refine g_getr (k := 0) (N := 11) C sC_0 rfl zin_RX5 (by decide) rfl zfl_RX5_10 rfl dX5_film_99 ?_
        refine g_iconst (v := (nI 3)) C dX5_film_102 (by decide) ?_
        refine g_iconst (v := (nI 1)) C dX5_film_103 (by decide) ?_
        refine g_iload_n (j := 1) C dX5_film_104 rfl rfl ?_
        obtain ⟨q_10, hq_11, h⟩ := bind_isome h
        refine g_vi (ws' := (zW cy ad shC E X)) (As := [.int (nI 3), .int (nI 1), .int v1]) (rest := []) (res := q_10) C (c_X3_total l D cy ad E X (nI 3) (nI 1) v1 hq_11) zml_RX5_163 zcv_X3_total (zW_get X sC_1) rfl rfl rfl ⟨Nat.le_of_ble_eq_true rfl, Nat.le_of_ble_eq_true rfl⟩ rfl rfl (Nat.le_of_ble_eq_true rfl) ⟨Nat.zero_le _, Nat.zero_le _⟩ dX5_film_105 ?_
        obtain rfl := Option.some.inj h
        exact g_xret C hr rfl dX5_film_108
      replace h := (if_neg hc_9).symm.trans h
      by_cases hc_12 : v2 = (nI 8)
      · replace h := (if_pos hc_12).symm.trans h
        refine g_tabEq C dX5_film_45 hc_12 (by decide) (by decide) rfl (tgt := 109) (by decide) ?_
        refine g_aload_n (j := 0) C dX5_film_109 rfl rfl ?_
        refine g_getr (k := 0) (N := 11) C sC_0 rfl zin_RX5 (by decide) rfl zfl_RX5_10 rfl dX5_film_110 ?_
        refine g_iconst (v := (nI 4)) C dX5_film_113 (by decide) ?_
        refine g_iconst (v := (nI 1)) C dX5_film_114 (by decide) ?_
        refine g_iload_n (j := 1) C dX5_film_115 rfl rfl ?_
        obtain ⟨q_13, hq_14, h⟩ := bind_isome h
        refine g_vi (ws' := (zW cy ad shC E X)) (As := [.int (nI 4), .int (nI 1), .int v1]) (rest := []) (res := q_13) C (c_X3_total l D cy ad E X (nI 4) (nI 1) v1 hq_14) zml_RX5_163 zcv_X3_total (zW_get X sC_1) rfl rfl rfl ⟨Nat.le_of_ble_eq_true rfl, Nat.le_of_ble_eq_true rfl⟩ rfl rfl (Nat.le_of_ble_eq_true rfl) ⟨Nat.zero_le _, Nat.zero_le _⟩ dX5_film_116 ?_
        obtain rfl := Option.some.inj h
        exact g_xret C hr rfl dX5_film_119
      replace h := (if_neg hc_12).symm.trans h
      refine g_tabOut C dX5_film_45 (z_tabout_4 (lo := 5) (hi := 8) hc_3 hc_6 hc_9 hc_12 (by decide)) (tgt := 120) (by decide) ?_
      refine g_aload_n (j := 0) C dX5_film_120 rfl rfl ?_
      refine g_getr (k := 0) (N := 11) C sC_0 rfl zin_RX5 (by decide) rfl zfl_RX5_10 rfl dX5_film_121 ?_
      refine g_getr (k := 1) (N := 8) C sC_1 rfl zin_RX3 (by decide) rfl zfl_RX5_111 rfl dX5_film_124 ?_
      refine g_iload_n (j := 1) C dX5_film_127 rfl rfl ?_
      refine g_iload_n (j := 2) C dX5_film_128 rfl rfl ?_
      refine g_vi (ws' := (zW cy ad shC E X)) (As := [.int v1, .int v2]) (rest := []) (res := (f_X4_get X 4 96 v1 v2)) C (c_X4_get l D cy ad E X 4 96 sC_4 sC_5 (by decide) v1 v2) zml_RX5_126 zcv_X4_get (zW_get X sC_4) rfl rfl rfl ⟨Nat.le_of_ble_eq_true rfl, Nat.le_of_ble_eq_true rfl⟩ rfl rfl (Nat.le_of_ble_eq_true rfl) ⟨Nat.zero_le _, Nat.zero_le _⟩ dX5_film_129 ?_
      obtain rfl := Option.some.inj h
      exact g_xret C hr rfl dX5_film_132
    · replace h := (if_pos hc_2).symm.trans h
      obtain rfl := Option.some.inj h
      exact g_throw 1 0 C hT hlt hout rfl (by decide) ⟨by decide +kernel, by decide +kernel⟩ zcl_68 zini_1 (List.mem_of_getElem? (i := 13) rfl) zat_72 zgw_72 dX5_film_34 dX5_film_37 dX5_film_38 dX5_film_40 dX5_film_43 ⟨Nat.le_of_ble_eq_true rfl, Nat.le_of_ble_eq_true rfl, Nat.le_of_ble_eq_true rfl, Nat.le_of_ble_eq_true rfl⟩
  · replace h := (if_pos hc_1).symm.trans h
    obtain rfl := Option.some.inj h
    exact g_throw 3 0 C hT hlt hout rfl (by decide) ⟨by decide +kernel, by decide +kernel⟩ zcl_119 zini_3 (List.mem_of_getElem? (i := 3) rfl) zat_123 zgw_123 dX5_film_14 dX5_film_17 dX5_film_18 dX5_film_20 dX5_film_23 ⟨Nat.le_of_ble_eq_true rfl, Nat.le_of_ble_eq_true rfl, Nat.le_of_ble_eq_true rfl, Nat.le_of_ble_eq_true rfl⟩
def f_X5_firstStart_L92 (k : (Nat → Nat → Int32) → Option (Nat × Int32 × (Nat → Nat → Int32))) (v1 : Int32) (v5 : Int32) : Nat → (Nat → Nat → Int32) → Int32 → Option (Nat × Int32 × (Nat → Nat → Int32))
  | 0, _, _ => none
  | fu + 1, X, v6 => (if (nI 960) ≤ v6 then k X else ((f_X2_firstBroken X v1 v6 (v6 + v5)).bind fun q_1010 => (if q_1010.1 = 0 then some (0, v6, q_1010.2) else f_X5_firstStart_L92 k v1 v5 fu q_1010.2 (v6 + 1))))
set_option maxRecDepth 100000 in
set_option maxHeartbeats 4000000 in
theorem w_X5_firstStart_L92 {p : Program} {e : Env} {s : State} {m : MethodId} {args : Array Value} {below : List Frame} {meth : Method} {c : Code} {A : Nat → Prop} (l : Launch) (D : va_G) (cy : Nat → ClassId) (ad : Nat → Nat) (E : va_W) (k : (Nat → Nat → Int32) → Option (Nat × Int32 × (Nat → Nat → Int32))) (v1 : Int32) (v5 : Int32) {res : Nat × Int32 × (Nat → Nat → Int32)} (C : zC p s m args meth c cX5_firstStart 7 RX5 D (zTy cy) A) (hT : zTh A s s.heap) (hlt : l.stackTraces = false) (hout : ∀ x ∈ c.exceptionTable.toList, False) (hr : meth.sig.returnType = (some .int)) : ∀ (fu : Nat) (X : Nat → Nat → Int32) (v6 : Int32) (h : f_X5_firstStart_L92 k v1 v5 fu X v6 = some res) (hk : ∀ (X : Nat → Nat → Int32), k X = some res → zG p l e (zrmx 5) s m args below meth c 7 D A 0 0 (zQx below args s res.1 res.2.1 D (zTy cy) A (zW cy ad shC E res.2.2)) (zW cy ad shC E X) 131 [] []), zG p l e (zrmx 5) s m args below meth c 7 D A 0 0 (zQx below args s res.1 res.2.1 D (zTy cy) A (zW cy ad shC E res.2.2)) (zW cy ad shC E X) 92 [(0, .ref (ad 0)), (1, .int v1), (5, .int v5), (6, .int v6)] [] := by
  intro fu
  induction fu with
  | zero => intro X v6 h hk; simp [f_X5_firstStart_L92] at h
  | succ fu ih =>
    intro X v6 h hk
    rw [f_X5_firstStart_L92] at h
    refine g_iload (j := 3) C dX5_firstStart_92 rfl ?_
    refine g_sipush (v := (nI 960)) C dX5_firstStart_94 (by decide) ?_
    refine g_icmp_ge C dX5_firstStart_97 (tgt := 131) (by decide) (fun hc_1009 => ?_) (fun hc_1009 => ?_)
    · replace h := (if_pos hc_1009).symm.trans h
      refine zG_sub (L' := []) [] rfl ?_
      exact hk X h
    · replace h := (if_neg hc_1009).symm.trans h
      refine g_aload_n (j := 0) C dX5_firstStart_100 rfl rfl ?_
      refine g_getr (k := 3) (N := 11) C sC_0 rfl zin_RX5 (by decide) rfl zfl_RX5_29 rfl dX5_firstStart_101 ?_
      refine g_aload_n (j := 0) C dX5_firstStart_104 rfl rfl ?_
      refine g_getr (k := 0) (N := 11) C sC_0 rfl zin_RX5 (by decide) rfl zfl_RX5_10 rfl dX5_firstStart_105 ?_
      refine g_iload_n (j := 1) C dX5_firstStart_108 rfl rfl ?_
      refine g_iload (j := 3) C dX5_firstStart_109 rfl ?_
      refine g_iload (j := 3) C dX5_firstStart_111 rfl ?_
      refine g_iload (j := 2) C dX5_firstStart_113 rfl ?_
      refine g_iadd C dX5_firstStart_115 ?_
      obtain ⟨q_1010, hq_1011, h⟩ := bind_isome h
      refine g_vi (ws' := (zW cy ad shC E q_1010.2)) (As := [.ref (ad 1), .int v1, .int v6, .int (v6 + v5)]) (rest := []) (res := q_1010.1) C (c_X2_firstBroken l D cy ad E X v1 v6 (v6 + v5) hq_1011) zml_RX5_272 zcv_X2_firstBroken (zW_get X sC_146) rfl rfl rfl ⟨Nat.le_of_ble_eq_true rfl, Nat.le_of_ble_eq_true rfl⟩ rfl rfl (Nat.le_of_ble_eq_true rfl) ⟨Nat.zero_le _, Nat.zero_le _⟩ dX5_firstStart_116 ?_
      refine g_if_ne C dX5_firstStart_119 (tgt := 125) (by decide) (fun hc_1012 => ?_) (fun hc_1012 => ?_)
      · replace h := (if_neg hc_1012).symm.trans h
        refine g_iinc (k := 3) (L' := [(6, .int (v6 + 1)), (0, .ref (ad 0)), (1, .int v1), (5, .int v5)]) C dX5_firstStart_125 rfl (z_iinc (by decide)) (by decide) rfl ?_
        refine g_goto C dX5_firstStart_128 (tgt := 92) (by decide) ?_
        refine zG_sub (L' := [(0, .ref (ad 0)), (1, .int v1), (5, .int v5), (6, .int (v6 + 1))]) [1, 2, 3, 0] rfl ?_
        exact ih q_1010.2 (v6 + 1) h hk
      · replace h := (if_pos hc_1012).symm.trans h
        refine g_iload (j := 3) C dX5_firstStart_122 rfl ?_
        obtain rfl := Option.some.inj h
        exact g_xret C hr rfl dX5_firstStart_124
def f_X5_firstStart (X : Nat → Nat → Int32) (v1 v2 v3 v4 : Int32) : Option (Nat × Int32 × (Nat → Nat → Int32)) := (if (f_X4_isRow X 2 24 v1) = 0 then some (3, 0, X) else (if (f_X4_isRow X 4 96 v2) = 0 then some (3, 0, X) else (if (f_X5_isDay v3) = 0 then some (1, 0, X) else (if (f_X5_isMinute v4) = 0 then some (1, 0, X) else ((f_X2_takeUp X (-1 : Int32) v2 v3).bind fun q_5 => ((f_X3_newMinutes q_5 v2 v3).bind fun q_7 => f_X5_firstStart_L92 (fun X_1013 => some (6, 0, X_1013)) v1 q_7 zFuel q_5 v4))))))
set_option maxRecDepth 100000 in
set_option maxHeartbeats 4000000 in
theorem c_X5_firstStart (l : Launch) (hlt : l.stackTraces = false) (D : va_G) (cy : Nat → ClassId) (ad : Nat → Nat) (E : va_W) (X : Nat → Nat → Int32) (v1 v2 v3 v4 : Int32) {res : Nat × Int32 × (Nat → Nat → Int32)} (h : f_X5_firstStart X v1 v2 v3 v4 = some res) : zMx l yX5_firstStart cX5_firstStart 7 (some .int) (zrmx 5) D (zTy cy) (zW cy ad shC E X) [.ref (ad 0), .int v1, .int v2, .int v3, .int v4] res.1 res.2.1 (zW cy ad shC E res.2.2) := by
  refine zMx.of (by decide) (Nat.le_of_ble_eq_true rfl) ?_
  intro p e s m below meth c A C hr hT hout
  unfold f_X5_firstStart at h
  refine zG_L (L' := [(0, .ref (ad 0)), (1, .int v1), (2, .int v2), (3, .int v3), (4, .int v4)]) rfl ?_
  refine g_aload_n (j := 0) C dX5_firstStart_0 rfl rfl ?_
  refine g_getr (k := 0) (N := 11) C sC_0 rfl zin_RX5 (by decide) rfl zfl_RX5_10 rfl dX5_firstStart_1 ?_
  refine g_getr (k := 0) (N := 8) C sC_1 rfl zin_RX3 (by decide) rfl zfl_RX5_75 rfl dX5_firstStart_4 ?_
  refine g_iload_n (j := 1) C dX5_firstStart_7 rfl rfl ?_
  refine g_vi (ws' := (zW cy ad shC E X)) (As := [.int v1]) (rest := []) (res := (f_X4_isRow X 2 24 v1)) C (c_X4_isRow l D cy ad E X 2 24 sC_2 sC_3 (by decide) v1) zml_RX5_116 zcv_X4_isRow (zW_get X sC_2) rfl rfl rfl ⟨Nat.le_of_ble_eq_true rfl, Nat.le_of_ble_eq_true rfl⟩ rfl rfl (Nat.le_of_ble_eq_true rfl) ⟨Nat.zero_le _, Nat.zero_le _⟩ dX5_firstStart_8 ?_
  refine g_if_eq C dX5_firstStart_11 (tgt := 28) (by decide) (fun hc_1 => ?_) (fun hc_1 => ?_)
  · replace h := (if_pos hc_1).symm.trans h
    obtain rfl := Option.some.inj h
    exact g_throw 3 0 C hT hlt hout rfl (by decide) ⟨by decide +kernel, by decide +kernel⟩ zcl_119 zini_3 (List.mem_of_getElem? (i := 19) rfl) zat_123 zgw_123 dX5_firstStart_28 dX5_firstStart_31 dX5_firstStart_32 dX5_firstStart_34 dX5_firstStart_37 ⟨Nat.le_of_ble_eq_true rfl, Nat.le_of_ble_eq_true rfl, Nat.le_of_ble_eq_true rfl, Nat.le_of_ble_eq_true rfl⟩
  · replace h := (if_neg hc_1).symm.trans h
    refine g_aload_n (j := 0) C dX5_firstStart_14 rfl rfl ?_
    refine g_getr (k := 0) (N := 11) C sC_0 rfl zin_RX5 (by decide) rfl zfl_RX5_10 rfl dX5_firstStart_15 ?_
    refine g_getr (k := 1) (N := 8) C sC_1 rfl zin_RX3 (by decide) rfl zfl_RX5_111 rfl dX5_firstStart_18 ?_
    refine g_iload_n (j := 2) C dX5_firstStart_21 rfl rfl ?_
    refine g_vi (ws' := (zW cy ad shC E X)) (As := [.int v2]) (rest := []) (res := (f_X4_isRow X 4 96 v2)) C (c_X4_isRow l D cy ad E X 4 96 sC_4 sC_5 (by decide) v2) zml_RX5_116 zcv_X4_isRow (zW_get X sC_4) rfl rfl rfl ⟨Nat.le_of_ble_eq_true rfl, Nat.le_of_ble_eq_true rfl⟩ rfl rfl (Nat.le_of_ble_eq_true rfl) ⟨Nat.zero_le _, Nat.zero_le _⟩ dX5_firstStart_22 ?_
    refine g_if_ne C dX5_firstStart_25 (tgt := 38) (by decide) (fun hc_2 => ?_) (fun hc_2 => ?_)
    · replace h := (if_neg hc_2).symm.trans h
      refine g_iload_n (j := 3) C dX5_firstStart_38 rfl rfl ?_
      refine g_si (ws' := (zW cy ad shC E X)) (As := [.int v3]) (rest := []) (res := (f_X5_isDay v3)) C (c_X5_isDay l D cy (zW cy ad shC E X) v3) zml_RX5_108 zcs_X5_isDay rfl rfl ⟨Nat.le_of_ble_eq_true rfl, Nat.le_of_ble_eq_true rfl⟩ rfl rfl (Nat.le_of_ble_eq_true rfl) ⟨Nat.zero_le _, Nat.zero_le _⟩ dX5_firstStart_39 ?_
      refine g_if_eq C dX5_firstStart_42 (tgt := 53) (by decide) (fun hc_3 => ?_) (fun hc_3 => ?_)
      · replace h := (if_pos hc_3).symm.trans h
        obtain rfl := Option.some.inj h
        exact g_throw 1 0 C hT hlt hout rfl (by decide) ⟨by decide +kernel, by decide +kernel⟩ zcl_68 zini_1 (List.mem_of_getElem? (i := 20) rfl) zat_72 zgw_72 dX5_firstStart_53 dX5_firstStart_56 dX5_firstStart_57 dX5_firstStart_59 dX5_firstStart_62 ⟨Nat.le_of_ble_eq_true rfl, Nat.le_of_ble_eq_true rfl, Nat.le_of_ble_eq_true rfl, Nat.le_of_ble_eq_true rfl⟩
      · replace h := (if_neg hc_3).symm.trans h
        refine g_iload (j := 4) C dX5_firstStart_45 rfl ?_
        refine g_si (ws' := (zW cy ad shC E X)) (As := [.int v4]) (rest := []) (res := (f_X5_isMinute v4)) C (c_X5_isMinute l D cy (zW cy ad shC E X) v4) zml_RX5_215 zcs_X5_isMinute rfl rfl ⟨Nat.le_of_ble_eq_true rfl, Nat.le_of_ble_eq_true rfl⟩ rfl rfl (Nat.le_of_ble_eq_true rfl) ⟨Nat.zero_le _, Nat.zero_le _⟩ dX5_firstStart_47 ?_
        refine g_if_ne C dX5_firstStart_50 (tgt := 63) (by decide) (fun hc_4 => ?_) (fun hc_4 => ?_)
        · replace h := (if_neg hc_4).symm.trans h
          refine g_aload_n (j := 0) C dX5_firstStart_63 rfl rfl ?_
          refine g_getr (k := 3) (N := 11) C sC_0 rfl zin_RX5 (by decide) rfl zfl_RX5_29 rfl dX5_firstStart_64 ?_
          refine g_aload_n (j := 0) C dX5_firstStart_67 rfl rfl ?_
          refine g_getr (k := 0) (N := 11) C sC_0 rfl zin_RX5 (by decide) rfl zfl_RX5_10 rfl dX5_firstStart_68 ?_
          refine g_iconst (v := (-1 : Int32)) C dX5_firstStart_71 (by decide) ?_
          refine g_iload_n (j := 2) C dX5_firstStart_72 rfl rfl ?_
          refine g_iload_n (j := 3) C dX5_firstStart_73 rfl rfl ?_
          obtain ⟨q_5, hq_6, h⟩ := bind_isome h
          refine g_vv (ws' := (zW cy ad shC E q_5)) (As := [.ref (ad 1), .int (-1 : Int32), .int v2, .int v3]) (rest := []) C (c_X2_takeUp l D cy ad E X (-1 : Int32) v2 v3 hq_6) zml_RX5_265 zcv_X2_takeUp (zW_get X sC_146) rfl rfl rfl ⟨Nat.le_of_ble_eq_true rfl, Nat.le_of_ble_eq_true rfl⟩ rfl rfl (Nat.le_of_ble_eq_true rfl) ⟨Nat.zero_le _, Nat.zero_le _⟩ dX5_firstStart_74 ?_
          refine g_aload_n (j := 0) C dX5_firstStart_77 rfl rfl ?_
          refine g_getr (k := 0) (N := 11) C sC_0 rfl zin_RX5 (by decide) rfl zfl_RX5_10 rfl dX5_firstStart_78 ?_
          refine g_iload_n (j := 2) C dX5_firstStart_81 rfl rfl ?_
          refine g_iload_n (j := 3) C dX5_firstStart_82 rfl rfl ?_
          obtain ⟨q_7, hq_8, h⟩ := bind_isome h
          refine g_vi (ws' := (zW cy ad shC E q_5)) (As := [.int v2, .int v3]) (rest := []) (res := q_7) C (c_X3_newMinutes l D cy ad E q_5 v2 v3 hq_8) zml_RX5_269 zcv_X3_newMinutes (zW_get q_5 sC_1) rfl rfl rfl ⟨Nat.le_of_ble_eq_true rfl, Nat.le_of_ble_eq_true rfl⟩ rfl rfl (Nat.le_of_ble_eq_true rfl) ⟨Nat.zero_le _, Nat.zero_le _⟩ dX5_firstStart_83 ?_
          refine g_istore (L' := [(5, .int q_7), (0, .ref (ad 0)), (1, .int v1), (2, .int v2), (3, .int v3), (4, .int v4)]) C dX5_firstStart_86 (by decide) rfl ?_
          refine g_iload (j := 5) C dX5_firstStart_88 rfl ?_
          refine g_istore (L' := [(6, .int v4), (5, .int q_7), (0, .ref (ad 0)), (1, .int v1), (2, .int v2), (3, .int v3), (4, .int v4)]) C dX5_firstStart_90 (by decide) rfl ?_
          refine zG_sub (L' := [(0, .ref (ad 0)), (1, .int v1), (5, .int q_7), (6, .int v4)]) [2, 3, 1, 0] rfl ?_
          refine w_X5_firstStart_L92 l D cy ad E _ v1 q_7 C hT hlt hout hr zFuel q_5 v4 h ?_
          intro X_1013 h
          obtain rfl := Option.some.inj h
          exact g_throwNW 6 0 C hT hlt hout rfl rfl zcl_171 zini_6 (List.mem_of_getElem? (i := 29) rfl) zat_175 zgw_175 dX5_firstStart_131 dX5_firstStart_134 dX5_firstStart_135 dX5_firstStart_138 dX5_firstStart_141 ⟨Nat.le_of_ble_eq_true rfl, Nat.le_of_ble_eq_true rfl, Nat.le_of_ble_eq_true rfl, Nat.le_of_ble_eq_true rfl⟩
        · replace h := (if_pos hc_4).symm.trans h
          obtain rfl := Option.some.inj h
          exact g_throw 1 0 C hT hlt hout rfl (by decide) ⟨by decide +kernel, by decide +kernel⟩ zcl_68 zini_1 (List.mem_of_getElem? (i := 20) rfl) zat_72 zgw_72 dX5_firstStart_53 dX5_firstStart_56 dX5_firstStart_57 dX5_firstStart_59 dX5_firstStart_62 ⟨Nat.le_of_ble_eq_true rfl, Nat.le_of_ble_eq_true rfl, Nat.le_of_ble_eq_true rfl, Nat.le_of_ble_eq_true rfl⟩
    · replace h := (if_pos hc_2).symm.trans h
      obtain rfl := Option.some.inj h
      exact g_throw 3 0 C hT hlt hout rfl (by decide) ⟨by decide +kernel, by decide +kernel⟩ zcl_119 zini_3 (List.mem_of_getElem? (i := 19) rfl) zat_123 zgw_123 dX5_firstStart_28 dX5_firstStart_31 dX5_firstStart_32 dX5_firstStart_34 dX5_firstStart_37 ⟨Nat.le_of_ble_eq_true rfl, Nat.le_of_ble_eq_true rfl, Nat.le_of_ble_eq_true rfl, Nat.le_of_ble_eq_true rfl⟩
def f_X5_fits (X : Nat → Nat → Int32) (v1 v2 v3 : Int32) : Nat × Int32 × (Nat → Nat → Int32) := (if (f_X4_isRow X 6 40 v1) = 0 then (3, 0, X) else (if (f_X4_isRow X 4 96 v2) = 0 then (3, 0, X) else (if (f_X5_isDay v3) = 0 then (1, 0, X) else (0, (f_X3_isFitting X v1 v2 v3), X))))
set_option maxRecDepth 100000 in
set_option maxHeartbeats 4000000 in
theorem c_X5_fits (l : Launch) (hlt : l.stackTraces = false) (D : va_G) (cy : Nat → ClassId) (ad : Nat → Nat) (E : va_W) (X : Nat → Nat → Int32) (v1 v2 v3 : Int32) : zMx l yX5_fits cX5_fits 4 (some .boolean) (zrmx 3) D (zTy cy) (zW cy ad shC E X) [.ref (ad 0), .int v1, .int v2, .int v3] (f_X5_fits X v1 v2 v3).1 (f_X5_fits X v1 v2 v3).2.1 (zW cy ad shC E (f_X5_fits X v1 v2 v3).2.2) := by
  refine zMx.of (by decide) (Nat.le_of_ble_eq_true rfl) ?_
  intro p e s m below meth c A C hr hT hout
  generalize h : f_X5_fits X v1 v2 v3 = res
  unfold f_X5_fits at h
  refine zG_L (L' := [(0, .ref (ad 0)), (1, .int v1), (2, .int v2), (3, .int v3)]) rfl ?_
  refine g_aload_n (j := 0) C dX5_fits_0 rfl rfl ?_
  refine g_getr (k := 0) (N := 11) C sC_0 rfl zin_RX5 (by decide) rfl zfl_RX5_10 rfl dX5_fits_1 ?_
  refine g_getr (k := 2) (N := 8) C sC_1 rfl zin_RX3 (by decide) rfl zfl_RX5_130 rfl dX5_fits_4 ?_
  refine g_iload_n (j := 1) C dX5_fits_7 rfl rfl ?_
  refine g_vi (ws' := (zW cy ad shC E X)) (As := [.int v1]) (rest := []) (res := (f_X4_isRow X 6 40 v1)) C (c_X4_isRow l D cy ad E X 6 40 sC_6 sC_7 (by decide) v1) zml_RX5_116 zcv_X4_isRow (zW_get X sC_6) rfl rfl rfl ⟨Nat.le_of_ble_eq_true rfl, Nat.le_of_ble_eq_true rfl⟩ rfl rfl (Nat.le_of_ble_eq_true rfl) ⟨Nat.zero_le _, Nat.zero_le _⟩ dX5_fits_8 ?_
  refine g_if_eq C dX5_fits_11 (tgt := 28) (by decide) (fun hc_1 => ?_) (fun hc_1 => ?_)
  · replace h := (if_pos hc_1).symm.trans h
    subst h
    exact g_throw 3 0 C hT hlt hout rfl (by decide) ⟨by decide +kernel, by decide +kernel⟩ zcl_119 zini_3 (List.mem_of_getElem? (i := 18) rfl) zat_123 zgw_123 dX5_fits_28 dX5_fits_31 dX5_fits_32 dX5_fits_34 dX5_fits_37 ⟨Nat.le_of_ble_eq_true rfl, Nat.le_of_ble_eq_true rfl, Nat.le_of_ble_eq_true rfl, Nat.le_of_ble_eq_true rfl⟩
  · replace h := (if_neg hc_1).symm.trans h
    refine g_aload_n (j := 0) C dX5_fits_14 rfl rfl ?_
    refine g_getr (k := 0) (N := 11) C sC_0 rfl zin_RX5 (by decide) rfl zfl_RX5_10 rfl dX5_fits_15 ?_
    refine g_getr (k := 1) (N := 8) C sC_1 rfl zin_RX3 (by decide) rfl zfl_RX5_111 rfl dX5_fits_18 ?_
    refine g_iload_n (j := 2) C dX5_fits_21 rfl rfl ?_
    refine g_vi (ws' := (zW cy ad shC E X)) (As := [.int v2]) (rest := []) (res := (f_X4_isRow X 4 96 v2)) C (c_X4_isRow l D cy ad E X 4 96 sC_4 sC_5 (by decide) v2) zml_RX5_116 zcv_X4_isRow (zW_get X sC_4) rfl rfl rfl ⟨Nat.le_of_ble_eq_true rfl, Nat.le_of_ble_eq_true rfl⟩ rfl rfl (Nat.le_of_ble_eq_true rfl) ⟨Nat.zero_le _, Nat.zero_le _⟩ dX5_fits_22 ?_
    refine g_if_ne C dX5_fits_25 (tgt := 38) (by decide) (fun hc_2 => ?_) (fun hc_2 => ?_)
    · replace h := (if_neg hc_2).symm.trans h
      refine g_iload_n (j := 3) C dX5_fits_38 rfl rfl ?_
      refine g_si (ws' := (zW cy ad shC E X)) (As := [.int v3]) (rest := []) (res := (f_X5_isDay v3)) C (c_X5_isDay l D cy (zW cy ad shC E X) v3) zml_RX5_108 zcs_X5_isDay rfl rfl ⟨Nat.le_of_ble_eq_true rfl, Nat.le_of_ble_eq_true rfl⟩ rfl rfl (Nat.le_of_ble_eq_true rfl) ⟨Nat.zero_le _, Nat.zero_le _⟩ dX5_fits_39 ?_
      refine g_if_ne C dX5_fits_42 (tgt := 55) (by decide) (fun hc_3 => ?_) (fun hc_3 => ?_)
      · replace h := (if_neg hc_3).symm.trans h
        refine g_aload_n (j := 0) C dX5_fits_55 rfl rfl ?_
        refine g_getr (k := 0) (N := 11) C sC_0 rfl zin_RX5 (by decide) rfl zfl_RX5_10 rfl dX5_fits_56 ?_
        refine g_iload_n (j := 1) C dX5_fits_59 rfl rfl ?_
        refine g_iload_n (j := 2) C dX5_fits_60 rfl rfl ?_
        refine g_iload_n (j := 3) C dX5_fits_61 rfl rfl ?_
        refine g_vi (ws' := (zW cy ad shC E X)) (As := [.int v1, .int v2, .int v3]) (rest := []) (res := (f_X3_isFitting X v1 v2 v3)) C (c_X3_isFitting l D cy ad E X v1 v2 v3) zml_RX5_185 zcv_X3_isFitting (zW_get X sC_1) rfl rfl rfl ⟨Nat.le_of_ble_eq_true rfl, Nat.le_of_ble_eq_true rfl⟩ rfl rfl (Nat.le_of_ble_eq_true rfl) ⟨Nat.zero_le _, Nat.zero_le _⟩ dX5_fits_62 ?_
        subst h
        exact g_xret C hr (z_nb (b_X3_isFitting X v1 v2 v3)) dX5_fits_65
      · replace h := (if_pos hc_3).symm.trans h
        subst h
        exact g_throw 1 0 C hT hlt hout rfl (by decide) ⟨by decide +kernel, by decide +kernel⟩ zcl_68 zini_1 (List.mem_of_getElem? (i := 14) rfl) zat_72 zgw_72 dX5_fits_45 dX5_fits_48 dX5_fits_49 dX5_fits_51 dX5_fits_54 ⟨Nat.le_of_ble_eq_true rfl, Nat.le_of_ble_eq_true rfl, Nat.le_of_ble_eq_true rfl, Nat.le_of_ble_eq_true rfl⟩
    · replace h := (if_pos hc_2).symm.trans h
      subst h
      exact g_throw 3 0 C hT hlt hout rfl (by decide) ⟨by decide +kernel, by decide +kernel⟩ zcl_119 zini_3 (List.mem_of_getElem? (i := 18) rfl) zat_123 zgw_123 dX5_fits_28 dX5_fits_31 dX5_fits_32 dX5_fits_34 dX5_fits_37 ⟨Nat.le_of_ble_eq_true rfl, Nat.le_of_ble_eq_true rfl, Nat.le_of_ble_eq_true rfl, Nat.le_of_ble_eq_true rfl⟩
def f_X5_hall (X : Nat → Nat → Int32) (v1 v2 : Int32) : Option (Nat × Int32 × (Nat → Nat → Int32)) := (if (f_X4_isRow X 2 24 v1) = 0 then some (3, 0, X) else (if (f_X5_isWithin v2 (nI 0) (nI 6)) = 0 then some (1, 0, X) else (if v2 = (nI 4) then ((f_X3_total X (nI 0) (nI 0) v1).bind fun q_4 => some (0, q_4, X)) else (if v2 = (nI 5) then ((f_X3_total X (nI 1) (nI 0) v1).bind fun q_7 => some (0, q_7, X)) else (if v2 = (nI 6) then ((f_X3_total X (nI 2) (nI 0) v1).bind fun q_10 => some (0, q_10, X)) else some (0, (f_X4_get X 2 24 v1 v2), X))))))
set_option maxRecDepth 100000 in
set_option maxHeartbeats 4000000 in
theorem c_X5_hall (l : Launch) (hlt : l.stackTraces = false) (D : va_G) (cy : Nat → ClassId) (ad : Nat → Nat) (E : va_W) (X : Nat → Nat → Int32) (v1 v2 : Int32) {res : Nat × Int32 × (Nat → Nat → Int32)} (h : f_X5_hall X v1 v2 = some res) : zMx l yX5_hall cX5_hall 3 (some .int) (zrmx 6) D (zTy cy) (zW cy ad shC E X) [.ref (ad 0), .int v1, .int v2] res.1 res.2.1 (zW cy ad shC E res.2.2) := by
  refine zMx.of (by decide) (Nat.le_of_ble_eq_true rfl) ?_
  intro p e s m below meth c A C hr hT hout
  unfold f_X5_hall at h
  refine zG_L (L' := [(0, .ref (ad 0)), (1, .int v1), (2, .int v2)]) rfl ?_
  refine g_aload_n (j := 0) C dX5_hall_0 rfl rfl ?_
  refine g_getr (k := 0) (N := 11) C sC_0 rfl zin_RX5 (by decide) rfl zfl_RX5_10 rfl dX5_hall_1 ?_
  refine g_getr (k := 0) (N := 8) C sC_1 rfl zin_RX3 (by decide) rfl zfl_RX5_75 rfl dX5_hall_4 ?_
  refine g_iload_n (j := 1) C dX5_hall_7 rfl rfl ?_
  refine g_vi (ws' := (zW cy ad shC E X)) (As := [.int v1]) (rest := []) (res := (f_X4_isRow X 2 24 v1)) C (c_X4_isRow l D cy ad E X 2 24 sC_2 sC_3 (by decide) v1) zml_RX5_116 zcv_X4_isRow (zW_get X sC_2) rfl rfl rfl ⟨Nat.le_of_ble_eq_true rfl, Nat.le_of_ble_eq_true rfl⟩ rfl rfl (Nat.le_of_ble_eq_true rfl) ⟨Nat.zero_le _, Nat.zero_le _⟩ dX5_hall_8 ?_
  refine g_if_ne C dX5_hall_11 (tgt := 24) (by decide) (fun hc_1 => ?_) (fun hc_1 => ?_)
  · replace h := (if_neg hc_1).symm.trans h
    refine g_iload_n (j := 2) C dX5_hall_24 rfl rfl ?_
    refine g_iconst (v := (nI 0)) C dX5_hall_25 (by decide) ?_
    refine g_bipush (v := (nI 6)) C dX5_hall_26 (by decide) ?_
    refine g_si (ws' := (zW cy ad shC E X)) (As := [.int v2, .int (nI 0), .int (nI 6)]) (rest := []) (res := (f_X5_isWithin v2 (nI 0) (nI 6))) C (c_X5_isWithin l D cy (zW cy ad shC E X) v2 (nI 0) (nI 6)) zml_RX5_64 zcs_X5_isWithin rfl rfl ⟨Nat.le_of_ble_eq_true rfl, Nat.le_of_ble_eq_true rfl⟩ rfl rfl (Nat.le_of_ble_eq_true rfl) ⟨Nat.zero_le _, Nat.zero_le _⟩ dX5_hall_28 ?_
    refine g_if_ne C dX5_hall_31 (tgt := 44) (by decide) (fun hc_2 => ?_) (fun hc_2 => ?_)
    · replace h := (if_neg hc_2).symm.trans h
      refine g_iload_n (j := 2) C dX5_hall_44 rfl rfl ?_
      by_cases hc_3 : v2 = (nI 4)
      · replace h := (if_pos hc_3).symm.trans h
        refine g_tabEq C dX5_hall_45 hc_3 (by decide) (by decide) rfl (tgt := 72) (by decide) ?_
        refine g_aload_n (j := 0) C dX5_hall_72 rfl rfl ?_
        refine g_getr (k := 0) (N := 11) C sC_0 rfl zin_RX5 (by decide) rfl zfl_RX5_10 rfl dX5_hall_73 ?_
        refine g_iconst (v := (nI 0)) C dX5_hall_76 (by decide) ?_
        refine g_iconst (v := (nI 0)) C dX5_hall_77 (by decide) ?_
        refine g_iload_n (j := 1) C dX5_hall_78 rfl rfl ?_
        obtain ⟨q_4, hq_5, h⟩ := bind_isome h
        refine g_vi (ws' := (zW cy ad shC E X)) (As := [.int (nI 0), .int (nI 0), .int v1]) (rest := []) (res := q_4) C (c_X3_total l D cy ad E X (nI 0) (nI 0) v1 hq_5) zml_RX5_163 zcv_X3_total (zW_get X sC_1) rfl rfl rfl ⟨Nat.le_of_ble_eq_true rfl, Nat.le_of_ble_eq_true rfl⟩ rfl rfl (Nat.le_of_ble_eq_true rfl) ⟨Nat.zero_le _, Nat.zero_le _⟩ dX5_hall_79 ?_
        obtain rfl := Option.some.inj h
        exact g_xret C hr rfl dX5_hall_82
      replace h := (if_neg hc_3).symm.trans h
      by_cases hc_6 : v2 = (nI 5)
      · replace h := (if_pos hc_6).symm.trans h
        refine g_tabEq C dX5_hall_45 hc_6 (by decide) (by decide) rfl (tgt := 83) (by decide) ?_
        refine g_aload_n (j := 0) C dX5_hall_83 rfl rfl ?_
        refine g_getr (k := 0) (N := 11) C sC_0 rfl zin_RX5 (by decide) rfl zfl_RX5_10 rfl dX5_hall_84 ?_
        refine g_iconst (v := (nI 1)) C dX5_hall_87 (by decide) ?_
        refine g_iconst (v := (nI 0)) C dX5_hall_88 (by decide) ?_
        refine g_iload_n (j := 1) C dX5_hall_89 rfl rfl ?_
        obtain ⟨q_7, hq_8, h⟩ := bind_isome h
        refine g_vi (ws' := (zW cy ad shC E X)) (As := [.int (nI 1), .int (nI 0), .int v1]) (rest := []) (res := q_7) C (c_X3_total l D cy ad E X (nI 1) (nI 0) v1 hq_8) zml_RX5_163 zcv_X3_total (zW_get X sC_1) rfl rfl rfl ⟨Nat.le_of_ble_eq_true rfl, Nat.le_of_ble_eq_true rfl⟩ rfl rfl (Nat.le_of_ble_eq_true rfl) ⟨Nat.zero_le _, Nat.zero_le _⟩ dX5_hall_90 ?_
        obtain rfl := Option.some.inj h
        exact g_xret C hr rfl dX5_hall_93
      replace h := (if_neg hc_6).symm.trans h
      by_cases hc_9 : v2 = (nI 6)
      · replace h := (if_pos hc_9).symm.trans h
        refine g_tabEq C dX5_hall_45 hc_9 (by decide) (by decide) rfl (tgt := 94) (by decide) ?_
        refine g_aload_n (j := 0) C dX5_hall_94 rfl rfl ?_
        refine g_getr (k := 0) (N := 11) C sC_0 rfl zin_RX5 (by decide) rfl zfl_RX5_10 rfl dX5_hall_95 ?_
        refine g_iconst (v := (nI 2)) C dX5_hall_98 (by decide) ?_
        refine g_iconst (v := (nI 0)) C dX5_hall_99 (by decide) ?_
        refine g_iload_n (j := 1) C dX5_hall_100 rfl rfl ?_
        obtain ⟨q_10, hq_11, h⟩ := bind_isome h
        refine g_vi (ws' := (zW cy ad shC E X)) (As := [.int (nI 2), .int (nI 0), .int v1]) (rest := []) (res := q_10) C (c_X3_total l D cy ad E X (nI 2) (nI 0) v1 hq_11) zml_RX5_163 zcv_X3_total (zW_get X sC_1) rfl rfl rfl ⟨Nat.le_of_ble_eq_true rfl, Nat.le_of_ble_eq_true rfl⟩ rfl rfl (Nat.le_of_ble_eq_true rfl) ⟨Nat.zero_le _, Nat.zero_le _⟩ dX5_hall_101 ?_
        obtain rfl := Option.some.inj h
        exact g_xret C hr rfl dX5_hall_104
      replace h := (if_neg hc_9).symm.trans h
      refine g_tabOut C dX5_hall_45 (z_tabout_3 (lo := 4) (hi := 6) hc_3 hc_6 hc_9 (by decide)) (tgt := 105) (by decide) ?_
      refine g_aload_n (j := 0) C dX5_hall_105 rfl rfl ?_
      refine g_getr (k := 0) (N := 11) C sC_0 rfl zin_RX5 (by decide) rfl zfl_RX5_10 rfl dX5_hall_106 ?_
      refine g_getr (k := 0) (N := 8) C sC_1 rfl zin_RX3 (by decide) rfl zfl_RX5_75 rfl dX5_hall_109 ?_
      refine g_iload_n (j := 1) C dX5_hall_112 rfl rfl ?_
      refine g_iload_n (j := 2) C dX5_hall_113 rfl rfl ?_
      refine g_vi (ws' := (zW cy ad shC E X)) (As := [.int v1, .int v2]) (rest := []) (res := (f_X4_get X 2 24 v1 v2)) C (c_X4_get l D cy ad E X 2 24 sC_2 sC_3 (by decide) v1 v2) zml_RX5_126 zcv_X4_get (zW_get X sC_2) rfl rfl rfl ⟨Nat.le_of_ble_eq_true rfl, Nat.le_of_ble_eq_true rfl⟩ rfl rfl (Nat.le_of_ble_eq_true rfl) ⟨Nat.zero_le _, Nat.zero_le _⟩ dX5_hall_114 ?_
      obtain rfl := Option.some.inj h
      exact g_xret C hr rfl dX5_hall_117
    · replace h := (if_pos hc_2).symm.trans h
      obtain rfl := Option.some.inj h
      exact g_throw 1 0 C hT hlt hout rfl (by decide) ⟨by decide +kernel, by decide +kernel⟩ zcl_68 zini_1 (List.mem_of_getElem? (i := 12) rfl) zat_72 zgw_72 dX5_hall_34 dX5_hall_37 dX5_hall_38 dX5_hall_40 dX5_hall_43 ⟨Nat.le_of_ble_eq_true rfl, Nat.le_of_ble_eq_true rfl, Nat.le_of_ble_eq_true rfl, Nat.le_of_ble_eq_true rfl⟩
  · replace h := (if_pos hc_1).symm.trans h
    obtain rfl := Option.some.inj h
    exact g_throw 3 0 C hT hlt hout rfl (by decide) ⟨by decide +kernel, by decide +kernel⟩ zcl_119 zini_3 (List.mem_of_getElem? (i := 11) rfl) zat_123 zgw_123 dX5_hall_14 dX5_hall_17 dX5_hall_18 dX5_hall_20 dX5_hall_23 ⟨Nat.le_of_ble_eq_true rfl, Nat.le_of_ble_eq_true rfl, Nat.le_of_ble_eq_true rfl, Nat.le_of_ble_eq_true rfl⟩
