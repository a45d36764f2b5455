/-! laid by wip/whole/mkparts.py -/
def f_X6_move (X : Nat → Nat → Int32) (v1 v2 v3 : Int32) : Option (Int32 × (Nat → Nat → Int32)) := (if (f_X6_isShow X v1) = 0 then (zlet (f_X6_fails X (nI 1)) fun q_2 => some (q_2.1, q_2.2)) else (if (f_X6_isHall X v2) = 0 then (zlet (f_X6_fails X (nI 1)) fun q_53 => some (q_53.1, q_53.2)) else (if (f_X6_in v3 (nI 0) (nI 959)) = 0 then (zlet (f_X6_fails X (nI 2)) fun q_51 => some (q_51.1, q_51.2)) else ((f_X6_stands X v1).bind fun q_6 => (if q_6 = 0 then (zlet (f_X6_fails X (nI 3)) fun q_9 => some (q_9.1, q_9.2)) else ((f_X6_isOver X v1).bind fun q_11 => (if q_11 = 0 then ((f_X6_hallAt X v2 (nI 0)).bind fun q_14 => ((f_X6_showAt X v1 (nI 7)).bind fun q_16 => (if q_16 ≤ q_14 then ((f_X6_showAt X v1 (nI 1)).bind fun q_19 => ((f_X6_showAt X v1 (nI 2)).bind fun q_21 => ((f_X6_minutesOf X v1).bind fun q_23 => ((f_X6_breaks X v2 q_19 q_21 v3 q_23 v1).bind fun q_25 => (if q_25.1 = 0 then ((f_X6_remembers q_25.2).bind fun q_28 => ((f_X6_showAt q_28 v1 (nI 3)).bind fun q_30 => (if (((nI 158) + ((nI 9) * v1)) + (nI 0)) < 0 ∨ 580 ≤ (((nI 158) + ((nI 9) * v1)) + (nI 0)).toNatClampNeg then none else (zlet (zU q_28 1 (((nI 158) + ((nI 9) * v1)) + (nI 0)).toNatClampNeg v2) fun X_33 => (if (((nI 158) + ((nI 9) * v1)) + (nI 3)) < 0 ∨ 580 ≤ (((nI 158) + ((nI 9) * v1)) + (nI 3)).toNatClampNeg then none else (zlet (zU X_33 1 (((nI 158) + ((nI 9) * v1)) + (nI 3)).toNatClampNeg v3) fun X_36 => (if 0 ≤ (v3 - q_30) then (zlet (f_X6_done X_36 (v3 - q_30)) fun q_39 => some (q_39.1, q_39.2)) else (zlet (f_X6_done X_36 (-(v3 - q_30))) fun q_41 => some (q_41.1, q_41.2))))))))) else (zlet (f_X6_refuses q_25.2 q_25.1 (q_25.2 0 21) (nI 4)) fun q_43 => some (q_43.1, q_43.2))))))) else ((f_X6_hallAt X v2 (nI 0)).bind fun q_45 => (zlet (f_X6_refuses X (nI 11) q_45 (nI 4)) fun q_47 => some (q_47.1, q_47.2)))))) else (zlet (f_X6_fails X (nI 3)) fun q_49 => some (q_49.1, q_49.2)))))))))
set_option maxRecDepth 100000 in
set_option maxHeartbeats 4000000 in
theorem c_X6_move (l : Launch) (D : va_G) (cy : Nat → ClassId) (ad : Nat → Nat) (E : va_W) (X : Nat → Nat → Int32) (v1 v2 v3 : Int32) {res : Int32 × (Nat → Nat → Int32)} (h : f_X6_move X v1 v2 v3 = some res) : zMi l yX6_move cX6_move 6 (some .int) (zrm 7) D (zTy cy) (zW cy ad shM E X) [.ref (ad 0), .int v1, .int v2, .int v3] res.1 (zW cy ad shM E res.2) := by
  refine zMi.of (by decide) (Nat.le_of_ble_eq_true rfl) ?_
  intro p e s m below meth c A C hr
  unfold f_X6_move at h
  refine zG_L (L' := [(0, .ref (ad 0)), (1, .int v1), (2, .int v2), (3, .int v3)]) rfl ?_
  refine g_aload_n (j := 0) C dX6_move_0 rfl rfl ?_
  refine g_iload_n (j := 1) C dX6_move_1 rfl rfl ?_
  refine g_vi (ws' := (zW cy ad shM E X)) (As := [.int v1]) (rest := []) (res := (f_X6_isShow X v1)) C (c_X6_isShow l D cy ad E X v1) zml_RX6_203 zcv_X6_isShow (zW_get X sM_0) rfl rfl rfl ⟨Nat.le_of_ble_eq_true rfl, Nat.le_of_ble_eq_true rfl⟩ rfl rfl (Nat.le_of_ble_eq_true rfl) ⟨Nat.zero_le _, Nat.zero_le _⟩ dX6_move_2 ?_
  refine g_if_eq C dX6_move_5 (tgt := 16) (by decide) (fun hc_1 => ?_) (fun hc_1 => ?_)
  · replace h := (if_pos hc_1).symm.trans h
    refine g_aload_n (j := 0) C dX6_move_16 rfl rfl ?_
    refine g_iconst (v := (nI 1)) C dX6_move_17 (by decide) ?_
    obtain ⟨q_2, e_3, h⟩ := zlet_ex h
    refine g_vi (ws' := (zW cy ad shM E q_2.2)) (As := [.int (nI 1)]) (rest := []) (res := q_2.1) C ((by rw [e_3]; exact c_X6_fails l D cy ad E X (nI 1))) zml_RX6_45 zcv_X6_fails (zW_get X sM_0) rfl rfl rfl ⟨Nat.le_of_ble_eq_true rfl, Nat.le_of_ble_eq_true rfl⟩ rfl rfl (Nat.le_of_ble_eq_true rfl) ⟨Nat.zero_le _, Nat.zero_le _⟩ dX6_move_18 ?_
    obtain rfl := Option.some.inj h
    exact g_iret rfl C hr rfl dX6_move_21
  · replace h := (if_neg hc_1).symm.trans h
    refine g_aload_n (j := 0) C dX6_move_8 rfl rfl ?_
    refine g_iload_n (j := 2) C dX6_move_9 rfl rfl ?_
    refine g_vi (ws' := (zW cy ad shM E X)) (As := [.int v2]) (rest := []) (res := (f_X6_isHall X v2)) C (c_X6_isHall l D cy ad E X v2) zml_RX6_104 zcv_X6_isHall (zW_get X sM_0) rfl rfl rfl ⟨Nat.le_of_ble_eq_true rfl, Nat.le_of_ble_eq_true rfl⟩ rfl rfl (Nat.le_of_ble_eq_true rfl) ⟨Nat.zero_le _, Nat.zero_le _⟩ dX6_move_10 ?_
    refine g_if_ne C dX6_move_13 (tgt := 22) (by decide) (fun hc_4 => ?_) (fun hc_4 => ?_)
    · replace h := (if_neg hc_4).symm.trans h
      refine g_iload_n (j := 3) C dX6_move_22 rfl rfl ?_
      refine g_iconst (v := (nI 0)) C dX6_move_23 (by decide) ?_
      refine g_sipush (v := (nI 959)) C dX6_move_24 (by decide) ?_
      refine g_si (ws' := (zW cy ad shM E X)) (As := [.int v3, .int (nI 0), .int (nI 959)]) (rest := []) (res := (f_X6_in v3 (nI 0) (nI 959))) C (c_X6_in l D cy (zW cy ad shM E X) v3 (nI 0) (nI 959)) zml_RX6_64 zcs_X6_in rfl rfl ⟨Nat.le_of_ble_eq_true rfl, Nat.le_of_ble_eq_true rfl⟩ rfl rfl (Nat.le_of_ble_eq_true rfl) ⟨Nat.zero_le _, Nat.zero_le _⟩ dX6_move_27 ?_
      refine g_if_ne C dX6_move_30 (tgt := 39) (by decide) (fun hc_5 => ?_) (fun hc_5 => ?_)
      · replace h := (if_neg hc_5).symm.trans h
        refine g_aload_n (j := 0) C dX6_move_39 rfl rfl ?_
        refine g_iload_n (j := 1) C dX6_move_40 rfl rfl ?_
        obtain ⟨q_6, hq_7, h⟩ := bind_isome h
        refine g_vi (ws' := (zW cy ad shM E X)) (As := [.int v1]) (rest := []) (res := q_6) C (c_X6_stands l D cy ad E X v1 hq_7) zml_RX6_107 zcv_X6_stands (zW_get X sM_0) rfl rfl rfl ⟨Nat.le_of_ble_eq_true rfl, Nat.le_of_ble_eq_true rfl⟩ rfl rfl (Nat.le_of_ble_eq_true rfl) ⟨Nat.zero_le _, Nat.zero_le _⟩ dX6_move_41 ?_
        refine g_if_eq C dX6_move_44 (tgt := 55) (by decide) (fun hc_8 => ?_) (fun hc_8 => ?_)
        · replace h := (if_pos hc_8).symm.trans h
          refine g_aload_n (j := 0) C dX6_move_55 rfl rfl ?_
          refine g_iconst (v := (nI 3)) C dX6_move_56 (by decide) ?_
          obtain ⟨q_9, e_10, h⟩ := zlet_ex h
          refine g_vi (ws' := (zW cy ad shM E q_9.2)) (As := [.int (nI 3)]) (rest := []) (res := q_9.1) C ((by rw [e_10]; exact c_X6_fails l D cy ad E X (nI 3))) zml_RX6_45 zcv_X6_fails (zW_get X sM_0) rfl rfl rfl ⟨Nat.le_of_ble_eq_true rfl, Nat.le_of_ble_eq_true rfl⟩ rfl rfl (Nat.le_of_ble_eq_true rfl) ⟨Nat.zero_le _, Nat.zero_le _⟩ dX6_move_57 ?_
          obtain rfl := Option.some.inj h
          exact g_iret rfl C hr rfl dX6_move_60
        · replace h := (if_neg hc_8).symm.trans h
          refine g_aload_n (j := 0) C dX6_move_47 rfl rfl ?_
          refine g_iload_n (j := 1) C dX6_move_48 rfl rfl ?_
          obtain ⟨q_11, hq_12, h⟩ := bind_isome h
          refine g_vi (ws' := (zW cy ad shM E X)) (As := [.int v1]) (rest := []) (res := q_11) C (c_X6_isOver l D cy ad E X v1 hq_12) zml_RX6_206 zcv_X6_isOver (zW_get X sM_0) rfl rfl rfl ⟨Nat.le_of_ble_eq_true rfl, Nat.le_of_ble_eq_true rfl⟩ rfl rfl (Nat.le_of_ble_eq_true rfl) ⟨Nat.zero_le _, Nat.zero_le _⟩ dX6_move_49 ?_
          refine g_if_eq C dX6_move_52 (tgt := 61) (by decide) (fun hc_13 => ?_) (fun hc_13 => ?_)
          · replace h := (if_pos hc_13).symm.trans h
            refine g_aload_n (j := 0) C dX6_move_61 rfl rfl ?_
            refine g_iload_n (j := 2) C dX6_move_62 rfl rfl ?_
            refine g_iconst (v := (nI 0)) C dX6_move_63 (by decide) ?_
            obtain ⟨q_14, hq_15, h⟩ := bind_isome h
            refine g_vi (ws' := (zW cy ad shM E X)) (As := [.int v2, .int (nI 0)]) (rest := []) (res := q_14) C (c_X6_hallAt l D cy ad E X v2 (nI 0) hq_15) zml_RX6_95 zcv_X6_hallAt (zW_get X sM_0) rfl rfl rfl ⟨Nat.le_of_ble_eq_true rfl, Nat.le_of_ble_eq_true rfl⟩ rfl rfl (Nat.le_of_ble_eq_true rfl) ⟨Nat.zero_le _, Nat.zero_le _⟩ dX6_move_64 ?_
            refine g_aload_n (j := 0) C dX6_move_67 rfl rfl ?_
            refine g_iload_n (j := 1) C dX6_move_68 rfl rfl ?_
            refine g_bipush (v := (nI 7)) C dX6_move_69 (by decide) ?_
            obtain ⟨q_16, hq_17, h⟩ := bind_isome h
            refine g_vi (ws' := (zW cy ad shM E X)) (As := [.int v1, .int (nI 7)]) (rest := [.int q_14]) (res := q_16) C (c_X6_showAt l D cy ad E X v1 (nI 7) hq_17) zml_RX6_89 zcv_X6_showAt (zW_get X sM_0) rfl rfl rfl ⟨Nat.le_of_ble_eq_true rfl, Nat.le_of_ble_eq_true rfl⟩ rfl rfl (Nat.le_of_ble_eq_true rfl) ⟨Nat.zero_le _, Nat.zero_le _⟩ dX6_move_71 ?_
            refine g_icmp_ge C dX6_move_74 (tgt := 91) (by decide) (fun hc_18 => ?_) (fun hc_18 => ?_)
            · replace h := (if_pos hc_18).symm.trans h
              refine g_aload_n (j := 0) C dX6_move_91 rfl rfl ?_
              refine g_iload_n (j := 2) C dX6_move_92 rfl rfl ?_
              refine g_aload_n (j := 0) C dX6_move_93 rfl rfl ?_
              refine g_iload_n (j := 1) C dX6_move_94 rfl rfl ?_
              refine g_iconst (v := (nI 1)) C dX6_move_95 (by decide) ?_
              obtain ⟨q_19, hq_20, h⟩ := bind_isome h
              refine g_vi (ws' := (zW cy ad shM E X)) (As := [.int v1, .int (nI 1)]) (rest := [.int v2, .ref (ad 0)]) (res := q_19) C (c_X6_showAt l D cy ad E X v1 (nI 1) hq_20) zml_RX6_89 zcv_X6_showAt (zW_get X sM_0) rfl rfl rfl ⟨Nat.le_of_ble_eq_true rfl, Nat.le_of_ble_eq_true rfl⟩ rfl rfl (Nat.le_of_ble_eq_true rfl) ⟨Nat.zero_le _, Nat.zero_le _⟩ dX6_move_96 ?_
              refine g_aload_n (j := 0) C dX6_move_99 rfl rfl ?_
              refine g_iload_n (j := 1) C dX6_move_100 rfl rfl ?_
              refine g_iconst (v := (nI 2)) C dX6_move_101 (by decide) ?_
              obtain ⟨q_21, hq_22, h⟩ := bind_isome h
              refine g_vi (ws' := (zW cy ad shM E X)) (As := [.int v1, .int (nI 2)]) (rest := [.int q_19, .int v2, .ref (ad 0)]) (res := q_21) C (c_X6_showAt l D cy ad E X v1 (nI 2) hq_22) zml_RX6_89 zcv_X6_showAt (zW_get X sM_0) rfl rfl rfl ⟨Nat.le_of_ble_eq_true rfl, Nat.le_of_ble_eq_true rfl⟩ rfl rfl (Nat.le_of_ble_eq_true rfl) ⟨Nat.zero_le _, Nat.zero_le _⟩ dX6_move_102 ?_
              refine g_iload_n (j := 3) C dX6_move_105 rfl rfl ?_
              refine g_aload_n (j := 0) C dX6_move_106 rfl rfl ?_
              refine g_iload_n (j := 1) C dX6_move_107 rfl rfl ?_
              obtain ⟨q_23, hq_24, h⟩ := bind_isome h
              refine g_vi (ws' := (zW cy ad shM E X)) (As := [.int v1]) (rest := [.int v3, .int q_21, .int q_19, .int v2, .ref (ad 0)]) (res := q_23) C (c_X6_minutesOf l D cy ad E X v1 hq_24) zml_RX6_92 zcv_X6_minutesOf (zW_get X sM_0) rfl rfl rfl ⟨Nat.le_of_ble_eq_true rfl, Nat.le_of_ble_eq_true rfl⟩ rfl rfl (Nat.le_of_ble_eq_true rfl) ⟨Nat.zero_le _, Nat.zero_le _⟩ dX6_move_108 ?_
              refine g_iload_n (j := 1) C dX6_move_111 rfl rfl ?_
              obtain ⟨q_25, hq_26, h⟩ := bind_isome h
              refine g_vi (ws' := (zW cy ad shM E q_25.2)) (As := [.int v2, .int q_19, .int q_21, .int v3, .int q_23, .int v1]) (rest := []) (res := q_25.1) C (c_X6_breaks l D cy ad E X v2 q_19 q_21 v3 q_23 v1 hq_26) zml_RX6_188 zcv_X6_breaks (zW_get X sM_0) rfl rfl rfl ⟨Nat.le_of_ble_eq_true rfl, Nat.le_of_ble_eq_true rfl⟩ rfl rfl (Nat.le_of_ble_eq_true rfl) ⟨Nat.zero_le _, Nat.zero_le _⟩ dX6_move_112 ?_
              refine g_istore (L' := [(4, .int q_25.1), (0, .ref (ad 0)), (1, .int v1), (2, .int v2), (3, .int v3)]) C dX6_move_115 (by decide) rfl ?_
              refine g_iload (j := 0) C dX6_move_117 rfl ?_
              refine g_if_eq C dX6_move_119 (tgt := 134) (by decide) (fun hc_27 => ?_) (fun hc_27 => ?_)
              · replace h := (if_pos hc_27).symm.trans h
                refine g_aload_n (j := 1) C dX6_move_134 rfl rfl ?_
                obtain ⟨q_28, hq_29, h⟩ := bind_isome h
                refine g_vv (ws' := (zW cy ad shM E q_28)) (As := []) (rest := []) C (c_X6_remembers l D cy ad E q_25.2 hq_29) zml_RX6_68 zcv_X6_remembers (zW_get q_25.2 sM_0) rfl rfl rfl ⟨Nat.le_of_ble_eq_true rfl, Nat.le_of_ble_eq_true rfl⟩ rfl rfl (Nat.le_of_ble_eq_true rfl) ⟨Nat.zero_le _, Nat.zero_le _⟩ dX6_move_135 ?_
                refine g_iload_n (j := 4) C dX6_move_138 rfl rfl ?_
                refine g_aload_n (j := 1) C dX6_move_139 rfl rfl ?_
                refine g_iload_n (j := 2) C dX6_move_140 rfl rfl ?_
                refine g_iconst (v := (nI 3)) C dX6_move_141 (by decide) ?_
                obtain ⟨q_30, hq_31, h⟩ := bind_isome h
                refine g_vi (ws' := (zW cy ad shM E q_28)) (As := [.int v1, .int (nI 3)]) (rest := [.int v3]) (res := q_30) C (c_X6_showAt l D cy ad E q_28 v1 (nI 3) hq_31) zml_RX6_89 zcv_X6_showAt (zW_get q_28 sM_0) rfl rfl rfl ⟨Nat.le_of_ble_eq_true rfl, Nat.le_of_ble_eq_true rfl⟩ rfl rfl (Nat.le_of_ble_eq_true rfl) ⟨Nat.zero_le _, Nat.zero_le _⟩ dX6_move_142 ?_
                refine g_isub C dX6_move_145 ?_
                refine g_istore (L' := [(5, .int (v3 - q_30)), (4, .int q_25.1), (0, .ref (ad 0)), (1, .int v1), (2, .int v2), (3, .int v3)]) C dX6_move_146 (by decide) rfl ?_
                refine g_aload_n (j := 2) C dX6_move_148 rfl rfl ?_
                refine g_getr (k := 1) (N := 27) C sM_0 rfl zin_RX6 (by decide) rfl zfl_RX6_9 rfl dX6_move_149 ?_
                refine g_sipush (v := (nI 158)) C dX6_move_152 (by decide) ?_
                refine g_bipush (v := (nI 9)) C dX6_move_155 (by decide) ?_
                refine g_iload_n (j := 3) C dX6_move_157 rfl rfl ?_
                refine g_imul C dX6_move_158 ?_
                refine g_iadd C dX6_move_159 ?_
                refine g_iconst (v := (nI 0)) C dX6_move_160 (by decide) ?_
                refine g_iadd C dX6_move_161 ?_
                refine g_iload_n (j := 4) C dX6_move_162 rfl rfl ?_
                obtain ⟨hi_32, h⟩ := ite_inone h
                refine g_iast C sM_1 hi_32 dX6_move_163 ?_
                obtain ⟨X_33, e_34, h⟩ := zlet_ex h
                rw [← e_34]
                refine g_aload_n (j := 2) C dX6_move_164 rfl rfl ?_
                refine g_getr (k := 1) (N := 27) C sM_0 rfl zin_RX6 (by decide) rfl zfl_RX6_9 rfl dX6_move_165 ?_
                refine g_sipush (v := (nI 158)) C dX6_move_168 (by decide) ?_
                refine g_bipush (v := (nI 9)) C dX6_move_171 (by decide) ?_
                refine g_iload_n (j := 3) C dX6_move_173 rfl rfl ?_
                refine g_imul C dX6_move_174 ?_
                refine g_iadd C dX6_move_175 ?_
                refine g_iconst (v := (nI 3)) C dX6_move_176 (by decide) ?_
                refine g_iadd C dX6_move_177 ?_
                refine g_iload_n (j := 5) C dX6_move_178 rfl rfl ?_
                obtain ⟨hi_35, h⟩ := ite_inone h
                refine g_iast C sM_1 hi_35 dX6_move_179 ?_
                obtain ⟨X_36, e_37, h⟩ := zlet_ex h
                rw [← e_37]
                refine g_aload_n (j := 2) C dX6_move_180 rfl rfl ?_
                refine g_iload (j := 0) C dX6_move_181 rfl ?_
                refine g_if_ge C dX6_move_183 (tgt := 192) (by decide) (fun hc_38 => ?_) (fun hc_38 => ?_)
                · replace h := (if_pos hc_38).symm.trans h
                  refine g_iload (j := 0) C dX6_move_192 rfl ?_
                  obtain ⟨q_39, e_40, h⟩ := zlet_ex h
                  refine g_vi (ws' := (zW cy ad shM E q_39.2)) (As := [.int (v3 - q_30)]) (rest := []) (res := q_39.1) C ((by rw [e_40]; exact c_X6_done l D cy ad E X_36 (v3 - q_30))) zml_RX6_71 zcv_X6_done (zW_get X_36 sM_0) rfl rfl rfl ⟨Nat.le_of_ble_eq_true rfl, Nat.le_of_ble_eq_true rfl⟩ rfl rfl (Nat.le_of_ble_eq_true rfl) ⟨Nat.zero_le _, Nat.zero_le _⟩ dX6_move_194 ?_
                  obtain rfl := Option.some.inj h
                  exact g_iret rfl C hr rfl dX6_move_197
                · replace h := (if_neg hc_38).symm.trans h
                  refine g_iload (j := 0) C dX6_move_186 rfl ?_
                  refine g_ineg C dX6_move_188 ?_
                  refine g_goto C dX6_move_189 (tgt := 194) (by decide) ?_
                  obtain ⟨q_41, e_42, h⟩ := zlet_ex h
                  refine g_vi (ws' := (zW cy ad shM E q_41.2)) (As := [.int (-(v3 - q_30))]) (rest := []) (res := q_41.1) C ((by rw [e_42]; exact c_X6_done l D cy ad E X_36 (-(v3 - q_30)))) zml_RX6_71 zcv_X6_done (zW_get X_36 sM_0) rfl rfl rfl ⟨Nat.le_of_ble_eq_true rfl, Nat.le_of_ble_eq_true rfl⟩ rfl rfl (Nat.le_of_ble_eq_true rfl) ⟨Nat.zero_le _, Nat.zero_le _⟩ dX6_move_194 ?_
                  obtain rfl := Option.some.inj h
                  exact g_iret rfl C hr rfl dX6_move_197
              · replace h := (if_neg hc_27).symm.trans h
                refine g_aload_n (j := 1) C dX6_move_122 rfl rfl ?_
                refine g_iload (j := 0) C dX6_move_123 rfl ?_
                refine g_aload_n (j := 1) C dX6_move_125 rfl rfl ?_
                refine g_geti (k := 21) (N := 27) C sM_0 rfl zin_RX6 (by decide) rfl zfl_RX6_166 rfl dX6_move_126 ?_
                refine g_iconst (v := (nI 4)) C dX6_move_129 (by decide) ?_
                obtain ⟨q_43, e_44, h⟩ := zlet_ex h
                refine g_vi (ws' := (zW cy ad shM E q_43.2)) (As := [.int q_25.1, .int (q_25.2 0 21), .int (nI 4)]) (rest := []) (res := q_43.1) C ((by rw [e_44]; exact c_X6_refuses l D cy ad E q_25.2 q_25.1 (q_25.2 0 21) (nI 4))) zml_RX6_199 zcv_X6_refuses (zW_get q_25.2 sM_0) rfl rfl rfl ⟨Nat.le_of_ble_eq_true rfl, Nat.le_of_ble_eq_true rfl⟩ rfl rfl (Nat.le_of_ble_eq_true rfl) ⟨Nat.zero_le _, Nat.zero_le _⟩ dX6_move_130 ?_
                obtain rfl := Option.some.inj h
                exact g_iret rfl C hr rfl dX6_move_133
            · replace h := (if_neg hc_18).symm.trans h
              refine g_aload_n (j := 0) C dX6_move_77 rfl rfl ?_
              refine g_bipush (v := (nI 11)) C dX6_move_78 (by decide) ?_
              refine g_aload_n (j := 0) C dX6_move_80 rfl rfl ?_
              refine g_iload_n (j := 2) C dX6_move_81 rfl rfl ?_
              refine g_iconst (v := (nI 0)) C dX6_move_82 (by decide) ?_
              obtain ⟨q_45, hq_46, h⟩ := bind_isome h
              refine g_vi (ws' := (zW cy ad shM E X)) (As := [.int v2, .int (nI 0)]) (rest := [.int (nI 11), .ref (ad 0)]) (res := q_45) C (c_X6_hallAt l D cy ad E X v2 (nI 0) hq_46) zml_RX6_95 zcv_X6_hallAt (zW_get X sM_0) rfl rfl rfl ⟨Nat.le_of_ble_eq_true rfl, Nat.le_of_ble_eq_true rfl⟩ rfl rfl (Nat.le_of_ble_eq_true rfl) ⟨Nat.zero_le _, Nat.zero_le _⟩ dX6_move_83 ?_
              refine g_iconst (v := (nI 4)) C dX6_move_86 (by decide) ?_
              obtain ⟨q_47, e_48, h⟩ := zlet_ex h
              refine g_vi (ws' := (zW cy ad shM E q_47.2)) (As := [.int (nI 11), .int q_45, .int (nI 4)]) (rest := []) (res := q_47.1) C ((by rw [e_48]; exact c_X6_refuses l D cy ad E X (nI 11) q_45 (nI 4))) zml_RX6_199 zcv_X6_refuses (zW_get X sM_0) rfl rfl rfl ⟨Nat.le_of_ble_eq_true rfl, Nat.le_of_ble_eq_true rfl⟩ rfl rfl (Nat.le_of_ble_eq_true rfl) ⟨Nat.zero_le _, Nat.zero_le _⟩ dX6_move_87 ?_
              obtain rfl := Option.some.inj h
              exact g_iret rfl C hr rfl dX6_move_90
          · replace h := (if_neg hc_13).symm.trans h
            refine g_aload_n (j := 0) C dX6_move_55 rfl rfl ?_
            refine g_iconst (v := (nI 3)) C dX6_move_56 (by decide) ?_
            obtain ⟨q_49, e_50, h⟩ := zlet_ex h
            refine g_vi (ws' := (zW cy ad shM E q_49.2)) (As := [.int (nI 3)]) (rest := []) (res := q_49.1) C ((by rw [e_50]; exact c_X6_fails l D cy ad E X (nI 3))) zml_RX6_45 zcv_X6_fails (zW_get X sM_0) rfl rfl rfl ⟨Nat.le_of_ble_eq_true rfl, Nat.le_of_ble_eq_true rfl⟩ rfl rfl (Nat.le_of_ble_eq_true rfl) ⟨Nat.zero_le _, Nat.zero_le _⟩ dX6_move_57 ?_
            obtain rfl := Option.some.inj h
            exact g_iret rfl C hr rfl dX6_move_60
      · replace h := (if_pos hc_5).symm.trans h
        refine g_aload_n (j := 0) C dX6_move_33 rfl rfl ?_
        refine g_iconst (v := (nI 2)) C dX6_move_34 (by decide) ?_
        obtain ⟨q_51, e_52, h⟩ := zlet_ex h
        refine g_vi (ws' := (zW cy ad shM E q_51.2)) (As := [.int (nI 2)]) (rest := []) (res := q_51.1) C ((by rw [e_52]; exact c_X6_fails l D cy ad E X (nI 2))) zml_RX6_45 zcv_X6_fails (zW_get X sM_0) rfl rfl rfl ⟨Nat.le_of_ble_eq_true rfl, Nat.le_of_ble_eq_true rfl⟩ rfl rfl (Nat.le_of_ble_eq_true rfl) ⟨Nat.zero_le _, Nat.zero_le _⟩ dX6_move_35 ?_
        obtain rfl := Option.some.inj h
        exact g_iret rfl C hr rfl dX6_move_38
    · replace h := (if_pos hc_4).symm.trans h
      refine g_aload_n (j := 0) C dX6_move_16 rfl rfl ?_
      refine g_iconst (v := (nI 1)) C dX6_move_17 (by decide) ?_
      obtain ⟨q_53, e_54, h⟩ := zlet_ex h
      refine g_vi (ws' := (zW cy ad shM E q_53.2)) (As := [.int (nI 1)]) (rest := []) (res := q_53.1) C ((by rw [e_54]; exact c_X6_fails l D cy ad E X (nI 1))) zml_RX6_45 zcv_X6_fails (zW_get X sM_0) rfl rfl rfl ⟨Nat.le_of_ble_eq_true rfl, Nat.le_of_ble_eq_true rfl⟩ rfl rfl (Nat.le_of_ble_eq_true rfl) ⟨Nat.zero_le _, Nat.zero_le _⟩ dX6_move_18 ?_
      obtain rfl := Option.some.inj h
      exact g_iret rfl C hr rfl dX6_move_21
def f_X6_cancels (X : Nat → Nat → Int32) (v1 : Int32) : Option (Int32 × (Nat → Nat → Int32)) := ((f_X6_showAt X v1 (nI 7)).bind fun q_1 => (if (((nI 158) + ((nI 9) * v1)) + (nI 8)) < 0 ∨ 580 ≤ (((nI 158) + ((nI 9) * v1)) + (nI 8)).toNatClampNeg then none else (zlet (zU X 1 (((nI 158) + ((nI 9) * v1)) + (nI 8)).toNatClampNeg (nI 1)) fun X_4 => (if (((nI 158) + ((nI 9) * v1)) + (nI 7)) < 0 ∨ 580 ≤ (((nI 158) + ((nI 9) * v1)) + (nI 7)).toNatClampNeg then none else (zlet (zU X_4 1 (((nI 158) + ((nI 9) * v1)) + (nI 7)).toNatClampNeg (nI 0)) fun X_7 => (zlet (zU X_7 1 (nI 5).toNatClampNeg ((X_7 1 (nI 5).toNatClampNeg) + q_1)) fun X_9 => some (q_1, X_9)))))))
set_option maxRecDepth 100000 in
set_option maxHeartbeats 4000000 in
theorem c_X6_cancels (l : Launch) (D : va_G) (cy : Nat → ClassId) (ad : Nat → Nat) (E : va_W) (X : Nat → Nat → Int32) (v1 : Int32) {res : Int32 × (Nat → Nat → Int32)} (h : f_X6_cancels X v1 = some res) : zMi l yX6_cancels cX6_cancels 3 (some .int) (zrm 2) D (zTy cy) (zW cy ad shM E X) [.ref (ad 0), .int v1] res.1 (zW cy ad shM E res.2) := by
  refine zMi.of (by decide) (Nat.le_of_ble_eq_true rfl) ?_
  intro p e s m below meth c A C hr
  unfold f_X6_cancels at h
  refine zG_L (L' := [(0, .ref (ad 0)), (1, .int v1)]) rfl ?_
  refine g_aload_n (j := 0) C dX6_cancels_0 rfl rfl ?_
  refine g_iload_n (j := 1) C dX6_cancels_1 rfl rfl ?_
  refine g_bipush (v := (nI 7)) C dX6_cancels_2 (by decide) ?_
  obtain ⟨q_1, hq_2, h⟩ := bind_isome h
  refine g_vi (ws' := (zW cy ad shM E X)) (As := [.int v1, .int (nI 7)]) (rest := []) (res := q_1) C (c_X6_showAt l D cy ad E X v1 (nI 7) hq_2) zml_RX6_89 zcv_X6_showAt (zW_get X sM_0) rfl rfl rfl ⟨Nat.le_of_ble_eq_true rfl, Nat.le_of_ble_eq_true rfl⟩ rfl rfl (Nat.le_of_ble_eq_true rfl) ⟨Nat.zero_le _, Nat.zero_le _⟩ dX6_cancels_4 ?_
  refine g_istore_n (L' := [(2, .int q_1), (0, .ref (ad 0)), (1, .int v1)]) C dX6_cancels_7 rfl (by decide) rfl ?_
  refine g_aload_n (j := 1) C dX6_cancels_8 rfl rfl ?_
  refine g_getr (k := 1) (N := 27) C sM_0 rfl zin_RX6 (by decide) rfl zfl_RX6_9 rfl dX6_cancels_9 ?_
  refine g_sipush (v := (nI 158)) C dX6_cancels_12 (by decide) ?_
  refine g_bipush (v := (nI 9)) C dX6_cancels_15 (by decide) ?_
  refine g_iload_n (j := 2) C dX6_cancels_17 rfl rfl ?_
  refine g_imul C dX6_cancels_18 ?_
  refine g_iadd C dX6_cancels_19 ?_
  refine g_bipush (v := (nI 8)) C dX6_cancels_20 (by decide) ?_
  refine g_iadd C dX6_cancels_22 ?_
  refine g_iconst (v := (nI 1)) C dX6_cancels_23 (by decide) ?_
  obtain ⟨hi_3, h⟩ := ite_inone h
  refine g_iast C sM_1 hi_3 dX6_cancels_24 ?_
  obtain ⟨X_4, e_5, h⟩ := zlet_ex h
  rw [← e_5]
  refine g_aload_n (j := 1) C dX6_cancels_25 rfl rfl ?_
  refine g_getr (k := 1) (N := 27) C sM_0 rfl zin_RX6 (by decide) rfl zfl_RX6_9 rfl dX6_cancels_26 ?_
  refine g_sipush (v := (nI 158)) C dX6_cancels_29 (by decide) ?_
  refine g_bipush (v := (nI 9)) C dX6_cancels_32 (by decide) ?_
  refine g_iload_n (j := 2) C dX6_cancels_34 rfl rfl ?_
  refine g_imul C dX6_cancels_35 ?_
  refine g_iadd C dX6_cancels_36 ?_
  refine g_bipush (v := (nI 7)) C dX6_cancels_37 (by decide) ?_
  refine g_iadd C dX6_cancels_39 ?_
  refine g_iconst (v := (nI 0)) C dX6_cancels_40 (by decide) ?_
  obtain ⟨hi_6, h⟩ := ite_inone h
  refine g_iast C sM_1 hi_6 dX6_cancels_41 ?_
  obtain ⟨X_7, e_8, h⟩ := zlet_ex h
  rw [← e_8]
  refine g_aload_n (j := 1) C dX6_cancels_42 rfl rfl ?_
  refine g_getr (k := 1) (N := 27) C sM_0 rfl zin_RX6 (by decide) rfl zfl_RX6_9 rfl dX6_cancels_43 ?_
  refine g_iconst (v := (nI 5)) C dX6_cancels_46 (by decide) ?_
  refine g_dup2 C dX6_cancels_47 rfl rfl ?_
  refine g_iald C sM_1 (by decide) dX6_cancels_48 ?_
  refine g_iload_n (j := 0) C dX6_cancels_49 rfl rfl ?_
  refine g_iadd C dX6_cancels_50 ?_
  refine g_iast C sM_1 (by decide) dX6_cancels_51 ?_
  obtain ⟨X_9, e_10, h⟩ := zlet_ex h
  rw [← e_10]
  refine g_iload_n (j := 0) C dX6_cancels_52 rfl rfl ?_
  obtain rfl := Option.some.inj h
  exact g_iret rfl C hr rfl dX6_cancels_53
def f_X6_cancel (X : Nat → Nat → Int32) (v1 : Int32) : Option (Int32 × (Nat → Nat → Int32)) := (if (f_X6_isShow X v1) = 0 then (zlet (f_X6_fails X (nI 1)) fun q_18 => some (q_18.1, q_18.2)) else ((f_X6_stands X v1).bind fun q_2 => (if q_2 = 0 then (zlet (f_X6_fails X (nI 2)) fun q_5 => some (q_5.1, q_5.2)) else ((f_X6_isOver X v1).bind fun q_7 => (if q_7 = 0 then ((f_X6_remembers X).bind fun q_10 => ((f_X6_cancels q_10 v1).bind fun q_12 => (zlet (f_X6_done q_12.2 q_12.1) fun q_14 => some (q_14.1, q_14.2)))) else (zlet (f_X6_fails X (nI 2)) fun q_16 => some (q_16.1, q_16.2)))))))
set_option maxRecDepth 100000 in
set_option maxHeartbeats 4000000 in
theorem c_X6_cancel (l : Launch) (D : va_G) (cy : Nat → ClassId) (ad : Nat → Nat) (E : va_W) (X : Nat → Nat → Int32) (v1 : Int32) {res : Int32 × (Nat → Nat → Int32)} (h : f_X6_cancel X v1 = some res) : zMi l yX6_cancel cX6_cancel 2 (some .int) (zrm 4) D (zTy cy) (zW cy ad shM E X) [.ref (ad 0), .int v1] res.1 (zW cy ad shM E res.2) := by
  refine zMi.of (by decide) (Nat.le_of_ble_eq_true rfl) ?_
  intro p e s m below meth c A C hr
  unfold f_X6_cancel at h
  refine zG_L (L' := [(0, .ref (ad 0)), (1, .int v1)]) rfl ?_
  refine g_aload_n (j := 0) C dX6_cancel_0 rfl rfl ?_
  refine g_iload_n (j := 1) C dX6_cancel_1 rfl rfl ?_
  refine g_vi (ws' := (zW cy ad shM E X)) (As := [.int v1]) (rest := []) (res := (f_X6_isShow X v1)) C (c_X6_isShow l D cy ad E X v1) zml_RX6_203 zcv_X6_isShow (zW_get X sM_0) rfl rfl rfl ⟨Nat.le_of_ble_eq_true rfl, Nat.le_of_ble_eq_true rfl⟩ rfl rfl (Nat.le_of_ble_eq_true rfl) ⟨Nat.zero_le _, Nat.zero_le _⟩ dX6_cancel_2 ?_
  refine g_if_ne C dX6_cancel_5 (tgt := 14) (by decide) (fun hc_1 => ?_) (fun hc_1 => ?_)
  · replace h := (if_neg hc_1).symm.trans h
    refine g_aload_n (j := 0) C dX6_cancel_14 rfl rfl ?_
    refine g_iload_n (j := 1) C dX6_cancel_15 rfl rfl ?_
    obtain ⟨q_2, hq_3, h⟩ := bind_isome h
    refine g_vi (ws' := (zW cy ad shM E X)) (As := [.int v1]) (rest := []) (res := q_2) C (c_X6_stands l D cy ad E X v1 hq_3) zml_RX6_107 zcv_X6_stands (zW_get X sM_0) rfl rfl rfl ⟨Nat.le_of_ble_eq_true rfl, Nat.le_of_ble_eq_true rfl⟩ rfl rfl (Nat.le_of_ble_eq_true rfl) ⟨Nat.zero_le _, Nat.zero_le _⟩ dX6_cancel_16 ?_
    refine g_if_eq C dX6_cancel_19 (tgt := 30) (by decide) (fun hc_4 => ?_) (fun hc_4 => ?_)
    · replace h := (if_pos hc_4).symm.trans h
      refine g_aload_n (j := 0) C dX6_cancel_30 rfl rfl ?_
      refine g_iconst (v := (nI 2)) C dX6_cancel_31 (by decide) ?_
      obtain ⟨q_5, e_6, h⟩ := zlet_ex h
      refine g_vi (ws' := (zW cy ad shM E q_5.2)) (As := [.int (nI 2)]) (rest := []) (res := q_5.1) C ((by rw [e_6]; exact c_X6_fails l D cy ad E X (nI 2))) zml_RX6_45 zcv_X6_fails (zW_get X sM_0) rfl rfl rfl ⟨Nat.le_of_ble_eq_true rfl, Nat.le_of_ble_eq_true rfl⟩ rfl rfl (Nat.le_of_ble_eq_true rfl) ⟨Nat.zero_le _, Nat.zero_le _⟩ dX6_cancel_32 ?_
      obtain rfl := Option.some.inj h
      exact g_iret rfl C hr rfl dX6_cancel_35
    · replace h := (if_neg hc_4).symm.trans h
      refine g_aload_n (j := 0) C dX6_cancel_22 rfl rfl ?_
      refine g_iload_n (j := 1) C dX6_cancel_23 rfl rfl ?_
      obtain ⟨q_7, hq_8, h⟩ := bind_isome h
      refine g_vi (ws' := (zW cy ad shM E X)) (As := [.int v1]) (rest := []) (res := q_7) C (c_X6_isOver l D cy ad E X v1 hq_8) zml_RX6_206 zcv_X6_isOver (zW_get X sM_0) rfl rfl rfl ⟨Nat.le_of_ble_eq_true rfl, Nat.le_of_ble_eq_true rfl⟩ rfl rfl (Nat.le_of_ble_eq_true rfl) ⟨Nat.zero_le _, Nat.zero_le _⟩ dX6_cancel_24 ?_
      refine g_if_eq C dX6_cancel_27 (tgt := 36) (by decide) (fun hc_9 => ?_) (fun hc_9 => ?_)
      · replace h := (if_pos hc_9).symm.trans h
        refine g_aload_n (j := 0) C dX6_cancel_36 rfl rfl ?_
        obtain ⟨q_10, hq_11, h⟩ := bind_isome h
        refine g_vv (ws' := (zW cy ad shM E q_10)) (As := []) (rest := []) C (c_X6_remembers l D cy ad E X hq_11) zml_RX6_68 zcv_X6_remembers (zW_get X sM_0) rfl rfl rfl ⟨Nat.le_of_ble_eq_true rfl, Nat.le_of_ble_eq_true rfl⟩ rfl rfl (Nat.le_of_ble_eq_true rfl) ⟨Nat.zero_le _, Nat.zero_le _⟩ dX6_cancel_37 ?_
        refine g_aload_n (j := 0) C dX6_cancel_40 rfl rfl ?_
        refine g_aload_n (j := 0) C dX6_cancel_41 rfl rfl ?_
        refine g_iload_n (j := 1) C dX6_cancel_42 rfl rfl ?_
        obtain ⟨q_12, hq_13, h⟩ := bind_isome h
        refine g_vi (ws' := (zW cy ad shM E q_12.2)) (As := [.int v1]) (rest := [.ref (ad 0)]) (res := q_12.1) C (c_X6_cancels l D cy ad E q_10 v1 hq_13) zml_RX6_209 zcv_X6_cancels (zW_get q_10 sM_0) rfl rfl rfl ⟨Nat.le_of_ble_eq_true rfl, Nat.le_of_ble_eq_true rfl⟩ rfl rfl (Nat.le_of_ble_eq_true rfl) ⟨Nat.zero_le _, Nat.zero_le _⟩ dX6_cancel_43 ?_
        obtain ⟨q_14, e_15, h⟩ := zlet_ex h
        refine g_vi (ws' := (zW cy ad shM E q_14.2)) (As := [.int q_12.1]) (rest := []) (res := q_14.1) C ((by rw [e_15]; exact c_X6_done l D cy ad E q_12.2 q_12.1)) zml_RX6_71 zcv_X6_done (zW_get q_12.2 sM_0) rfl rfl rfl ⟨Nat.le_of_ble_eq_true rfl, Nat.le_of_ble_eq_true rfl⟩ rfl rfl (Nat.le_of_ble_eq_true rfl) ⟨Nat.zero_le _, Nat.zero_le _⟩ dX6_cancel_46 ?_
        obtain rfl := Option.some.inj h
        exact g_iret rfl C hr rfl dX6_cancel_49
      · replace h := (if_neg hc_9).symm.trans h
        refine g_aload_n (j := 0) C dX6_cancel_30 rfl rfl ?_
        refine g_iconst (v := (nI 2)) C dX6_cancel_31 (by decide) ?_
        obtain ⟨q_16, e_17, h⟩ := zlet_ex h
        refine g_vi (ws' := (zW cy ad shM E q_16.2)) (As := [.int (nI 2)]) (rest := []) (res := q_16.1) C ((by rw [e_17]; exact c_X6_fails l D cy ad E X (nI 2))) zml_RX6_45 zcv_X6_fails (zW_get X sM_0) rfl rfl rfl ⟨Nat.le_of_ble_eq_true rfl, Nat.le_of_ble_eq_true rfl⟩ rfl rfl (Nat.le_of_ble_eq_true rfl) ⟨Nat.zero_le _, Nat.zero_le _⟩ dX6_cancel_32 ?_
        obtain rfl := Option.some.inj h
        exact g_iret rfl C hr rfl dX6_cancel_35
  · replace h := (if_pos hc_1).symm.trans h
    refine g_aload_n (j := 0) C dX6_cancel_8 rfl rfl ?_
    refine g_iconst (v := (nI 1)) C dX6_cancel_9 (by decide) ?_
    obtain ⟨q_18, e_19, h⟩ := zlet_ex h
    refine g_vi (ws' := (zW cy ad shM E q_18.2)) (As := [.int (nI 1)]) (rest := []) (res := q_18.1) C ((by rw [e_19]; exact c_X6_fails l D cy ad E X (nI 1))) zml_RX6_45 zcv_X6_fails (zW_get X sM_0) rfl rfl rfl ⟨Nat.le_of_ble_eq_true rfl, Nat.le_of_ble_eq_true rfl⟩ rfl rfl (Nat.le_of_ble_eq_true rfl) ⟨Nat.zero_le _, Nat.zero_le _⟩ dX6_cancel_10 ?_
    obtain rfl := Option.some.inj h
    exact g_iret rfl C hr rfl dX6_cancel_13
def f_X6_sell (X : Nat → Nat → Int32) (v1 v2 : Int32) : Option (Int32 × (Nat → Nat → Int32)) := (if (f_X6_isShow X v1) = 0 then (zlet (f_X6_fails X (nI 1)) fun q_34 => some (q_34.1, q_34.2)) else (if (f_X6_in v2 (nI 1) (nI 400)) = 0 then (zlet (f_X6_fails X (nI 2)) fun q_32 => some (q_32.1, q_32.2)) else ((f_X6_stands X v1).bind fun q_3 => (if q_3 = 0 then (zlet (f_X6_fails X (nI 3)) fun q_6 => some (q_6.1, q_6.2)) else ((f_X6_isOver X v1).bind fun q_8 => (if q_8 = 0 then ((f_X6_showAt X v1 (nI 0)).bind fun q_11 => ((f_X6_hallAt X q_11 (nI 0)).bind fun q_13 => ((f_X6_showAt X v1 (nI 7)).bind fun q_15 => (if v2 ≤ (q_13 - q_15) then ((f_X6_remembers X).bind fun q_18 => (if (((nI 158) + ((nI 9) * v1)) + (nI 7)) < 0 ∨ 580 ≤ (((nI 158) + ((nI 9) * v1)) + (nI 7)).toNatClampNeg then none else (if (((nI 158) + ((nI 9) * v1)) + (nI 7)) < 0 ∨ 580 ≤ (((nI 158) + ((nI 9) * v1)) + (nI 7)).toNatClampNeg then none else (zlet (zU q_18 1 (((nI 158) + ((nI 9) * v1)) + (nI 7)).toNatClampNeg ((q_18 1 (((nI 158) + ((nI 9) * v1)) + (nI 7)).toNatClampNeg) + v2)) fun X_22 => ((f_X6_showAt X_22 v1 (nI 7)).bind fun q_24 => (zlet (f_X6_done X_22 q_24) fun q_26 => some (q_26.1, q_26.2))))))) else (zlet (f_X6_refuses X (nI 12) (q_13 - q_15) (nI 4)) fun q_28 => some (q_28.1, q_28.2)))))) else (zlet (f_X6_fails X (nI 3)) fun q_30 => some (q_30.1, q_30.2))))))))
set_option maxRecDepth 100000 in
set_option maxHeartbeats 4000000 in
theorem c_X6_sell (l : Launch) (D : va_G) (cy : Nat → ClassId) (ad : Nat → Nat) (E : va_W) (X : Nat → Nat → Int32) (v1 v2 : Int32) {res : Int32 × (Nat → Nat → Int32)} (h : f_X6_sell X v1 v2 = some res) : zMi l yX6_sell cX6_sell 4 (some .int) (zrm 4) D (zTy cy) (zW cy ad shM E X) [.ref (ad 0), .int v1, .int v2] res.1 (zW cy ad shM E res.2) := by
  refine zMi.of (by decide) (Nat.le_of_ble_eq_true rfl) ?_
  intro p e s m below meth c A C hr
  unfold f_X6_sell at h
  refine zG_L (L' := [(0, .ref (ad 0)), (1, .int v1), (2, .int v2)]) rfl ?_
  refine g_aload_n (j := 0) C dX6_sell_0 rfl rfl ?_
  refine g_iload_n (j := 1) C dX6_sell_1 rfl rfl ?_
  refine g_vi (ws' := (zW cy ad shM E X)) (As := [.int v1]) (rest := []) (res := (f_X6_isShow X v1)) C (c_X6_isShow l D cy ad E X v1) zml_RX6_203 zcv_X6_isShow (zW_get X sM_0) rfl rfl rfl ⟨Nat.le_of_ble_eq_true rfl, Nat.le_of_ble_eq_true rfl⟩ rfl rfl (Nat.le_of_ble_eq_true rfl) ⟨Nat.zero_le _, Nat.zero_le _⟩ dX6_sell_2 ?_
  refine g_if_ne C dX6_sell_5 (tgt := 14) (by decide) (fun hc_1 => ?_) (fun hc_1 => ?_)
  · replace h := (if_neg hc_1).symm.trans h
    refine g_iload_n (j := 2) C dX6_sell_14 rfl rfl ?_
    refine g_iconst (v := (nI 1)) C dX6_sell_15 (by decide) ?_
    refine g_sipush (v := (nI 400)) C dX6_sell_16 (by decide) ?_
    refine g_si (ws' := (zW cy ad shM E X)) (As := [.int v2, .int (nI 1), .int (nI 400)]) (rest := []) (res := (f_X6_in v2 (nI 1) (nI 400))) C (c_X6_in l D cy (zW cy ad shM E X) v2 (nI 1) (nI 400)) zml_RX6_64 zcs_X6_in rfl rfl ⟨Nat.le_of_ble_eq_true rfl, Nat.le_of_ble_eq_true rfl⟩ rfl rfl (Nat.le_of_ble_eq_true rfl) ⟨Nat.zero_le _, Nat.zero_le _⟩ dX6_sell_19 ?_
    refine g_if_ne C dX6_sell_22 (tgt := 31) (by decide) (fun hc_2 => ?_) (fun hc_2 => ?_)
    · replace h := (if_neg hc_2).symm.trans h
      refine g_aload_n (j := 0) C dX6_sell_31 rfl rfl ?_
      refine g_iload_n (j := 1) C dX6_sell_32 rfl rfl ?_
      obtain ⟨q_3, hq_4, h⟩ := bind_isome h
      refine g_vi (ws' := (zW cy ad shM E X)) (As := [.int v1]) (rest := []) (res := q_3) C (c_X6_stands l D cy ad E X v1 hq_4) zml_RX6_107 zcv_X6_stands (zW_get X sM_0) rfl rfl rfl ⟨Nat.le_of_ble_eq_true rfl, Nat.le_of_ble_eq_true rfl⟩ rfl rfl (Nat.le_of_ble_eq_true rfl) ⟨Nat.zero_le _, Nat.zero_le _⟩ dX6_sell_33 ?_
      refine g_if_eq C dX6_sell_36 (tgt := 47) (by decide) (fun hc_5 => ?_) (fun hc_5 => ?_)
      · replace h := (if_pos hc_5).symm.trans h
        refine g_aload_n (j := 0) C dX6_sell_47 rfl rfl ?_
        refine g_iconst (v := (nI 3)) C dX6_sell_48 (by decide) ?_
        obtain ⟨q_6, e_7, h⟩ := zlet_ex h
        refine g_vi (ws' := (zW cy ad shM E q_6.2)) (As := [.int (nI 3)]) (rest := []) (res := q_6.1) C ((by rw [e_7]; exact c_X6_fails l D cy ad E X (nI 3))) zml_RX6_45 zcv_X6_fails (zW_get X sM_0) rfl rfl rfl ⟨Nat.le_of_ble_eq_true rfl, Nat.le_of_ble_eq_true rfl⟩ rfl rfl (Nat.le_of_ble_eq_true rfl) ⟨Nat.zero_le _, Nat.zero_le _⟩ dX6_sell_49 ?_
        obtain rfl := Option.some.inj h
        exact g_iret rfl C hr rfl dX6_sell_52
      · replace h := (if_neg hc_5).symm.trans h
        refine g_aload_n (j := 0) C dX6_sell_39 rfl rfl ?_
        refine g_iload_n (j := 1) C dX6_sell_40 rfl rfl ?_
        obtain ⟨q_8, hq_9, h⟩ := bind_isome h
        refine g_vi (ws' := (zW cy ad shM E X)) (As := [.int v1]) (rest := []) (res := q_8) C (c_X6_isOver l D cy ad E X v1 hq_9) zml_RX6_206 zcv_X6_isOver (zW_get X sM_0) rfl rfl rfl ⟨Nat.le_of_ble_eq_true rfl, Nat.le_of_ble_eq_true rfl⟩ rfl rfl (Nat.le_of_ble_eq_true rfl) ⟨Nat.zero_le _, Nat.zero_le _⟩ dX6_sell_41 ?_
        refine g_if_eq C dX6_sell_44 (tgt := 53) (by decide) (fun hc_10 => ?_) (fun hc_10 => ?_)
        · replace h := (if_pos hc_10).symm.trans h
          refine g_aload_n (j := 0) C dX6_sell_53 rfl rfl ?_
          refine g_aload_n (j := 0) C dX6_sell_54 rfl rfl ?_
          refine g_iload_n (j := 1) C dX6_sell_55 rfl rfl ?_
          refine g_iconst (v := (nI 0)) C dX6_sell_56 (by decide) ?_
          obtain ⟨q_11, hq_12, h⟩ := bind_isome h
          refine g_vi (ws' := (zW cy ad shM E X)) (As := [.int v1, .int (nI 0)]) (rest := [.ref (ad 0)]) (res := q_11) C (c_X6_showAt l D cy ad E X v1 (nI 0) hq_12) zml_RX6_89 zcv_X6_showAt (zW_get X sM_0) rfl rfl rfl ⟨Nat.le_of_ble_eq_true rfl, Nat.le_of_ble_eq_true rfl⟩ rfl rfl (Nat.le_of_ble_eq_true rfl) ⟨Nat.zero_le _, Nat.zero_le _⟩ dX6_sell_57 ?_
          refine g_iconst (v := (nI 0)) C dX6_sell_60 (by decide) ?_
          obtain ⟨q_13, hq_14, h⟩ := bind_isome h
          refine g_vi (ws' := (zW cy ad shM E X)) (As := [.int q_11, .int (nI 0)]) (rest := []) (res := q_13) C (c_X6_hallAt l D cy ad E X q_11 (nI 0) hq_14) zml_RX6_95 zcv_X6_hallAt (zW_get X sM_0) rfl rfl rfl ⟨Nat.le_of_ble_eq_true rfl, Nat.le_of_ble_eq_true rfl⟩ rfl rfl (Nat.le_of_ble_eq_true rfl) ⟨Nat.zero_le _, Nat.zero_le _⟩ dX6_sell_61 ?_
          refine g_aload_n (j := 0) C dX6_sell_64 rfl rfl ?_
          refine g_iload_n (j := 1) C dX6_sell_65 rfl rfl ?_
          refine g_bipush (v := (nI 7)) C dX6_sell_66 (by decide) ?_
          obtain ⟨q_15, hq_16, h⟩ := bind_isome h
          refine g_vi (ws' := (zW cy ad shM E X)) (As := [.int v1, .int (nI 7)]) (rest := [.int q_13]) (res := q_15) C (c_X6_showAt l D cy ad E X v1 (nI 7) hq_16) zml_RX6_89 zcv_X6_showAt (zW_get X sM_0) rfl rfl rfl ⟨Nat.le_of_ble_eq_true rfl, Nat.le_of_ble_eq_true rfl⟩ rfl rfl (Nat.le_of_ble_eq_true rfl) ⟨Nat.zero_le _, Nat.zero_le _⟩ dX6_sell_68 ?_
          refine g_isub C dX6_sell_71 ?_
          refine g_istore_n (L' := [(3, .int (q_13 - q_15)), (0, .ref (ad 0)), (1, .int v1), (2, .int v2)]) C dX6_sell_72 rfl (by decide) rfl ?_
          refine g_iload_n (j := 0) C dX6_sell_73 rfl rfl ?_
          refine g_iload_n (j := 3) C dX6_sell_74 rfl rfl ?_
          refine g_icmp_ge C dX6_sell_75 (tgt := 87) (by decide) (fun hc_17 => ?_) (fun hc_17 => ?_)
          · replace h := (if_pos hc_17).symm.trans h
            refine g_aload_n (j := 1) C dX6_sell_87 rfl rfl ?_
            obtain ⟨q_18, hq_19, h⟩ := bind_isome h
            refine g_vv (ws' := (zW cy ad shM E q_18)) (As := []) (rest := []) C (c_X6_remembers l D cy ad E X hq_19) zml_RX6_68 zcv_X6_remembers (zW_get X sM_0) rfl rfl rfl ⟨Nat.le_of_ble_eq_true rfl, Nat.le_of_ble_eq_true rfl⟩ rfl rfl (Nat.le_of_ble_eq_true rfl) ⟨Nat.zero_le _, Nat.zero_le _⟩ dX6_sell_88 ?_
            refine g_aload_n (j := 1) C dX6_sell_91 rfl rfl ?_
            refine g_getr (k := 1) (N := 27) C sM_0 rfl zin_RX6 (by decide) rfl zfl_RX6_9 rfl dX6_sell_92 ?_
            refine g_sipush (v := (nI 158)) C dX6_sell_95 (by decide) ?_
            refine g_bipush (v := (nI 9)) C dX6_sell_98 (by decide) ?_
            refine g_iload_n (j := 2) C dX6_sell_100 rfl rfl ?_
            refine g_imul C dX6_sell_101 ?_
            refine g_iadd C dX6_sell_102 ?_
            refine g_bipush (v := (nI 7)) C dX6_sell_103 (by decide) ?_
            refine g_iadd C dX6_sell_105 ?_
            refine g_dup2 C dX6_sell_106 rfl rfl ?_
            obtain ⟨hi_20, h⟩ := ite_inone h
            refine g_iald C sM_1 hi_20 dX6_sell_107 ?_
            refine g_iload_n (j := 3) C dX6_sell_108 rfl rfl ?_
            refine g_iadd C dX6_sell_109 ?_
            obtain ⟨hi_21, h⟩ := ite_inone h
            refine g_iast C sM_1 hi_21 dX6_sell_110 ?_
            obtain ⟨X_22, e_23, h⟩ := zlet_ex h
            rw [← e_23]
            refine g_aload_n (j := 1) C dX6_sell_111 rfl rfl ?_
            refine g_aload_n (j := 1) C dX6_sell_112 rfl rfl ?_
            refine g_iload_n (j := 2) C dX6_sell_113 rfl rfl ?_
            refine g_bipush (v := (nI 7)) C dX6_sell_114 (by decide) ?_
            obtain ⟨q_24, hq_25, h⟩ := bind_isome h
            refine g_vi (ws' := (zW cy ad shM E X_22)) (As := [.int v1, .int (nI 7)]) (rest := [.ref (ad 0)]) (res := q_24) C (c_X6_showAt l D cy ad E X_22 v1 (nI 7) hq_25) zml_RX6_89 zcv_X6_showAt (zW_get X_22 sM_0) rfl rfl rfl ⟨Nat.le_of_ble_eq_true rfl, Nat.le_of_ble_eq_true rfl⟩ rfl rfl (Nat.le_of_ble_eq_true rfl) ⟨Nat.zero_le _, Nat.zero_le _⟩ dX6_sell_116 ?_
            obtain ⟨q_26, e_27, h⟩ := zlet_ex h
            refine g_vi (ws' := (zW cy ad shM E q_26.2)) (As := [.int q_24]) (rest := []) (res := q_26.1) C ((by rw [e_27]; exact c_X6_done l D cy ad E X_22 q_24)) zml_RX6_71 zcv_X6_done (zW_get X_22 sM_0) rfl rfl rfl ⟨Nat.le_of_ble_eq_true rfl, Nat.le_of_ble_eq_true rfl⟩ rfl rfl (Nat.le_of_ble_eq_true rfl) ⟨Nat.zero_le _, Nat.zero_le _⟩ dX6_sell_119 ?_
            obtain rfl := Option.some.inj h
            exact g_iret rfl C hr rfl dX6_sell_122
          · replace h := (if_neg hc_17).symm.trans h
            refine g_aload_n (j := 1) C dX6_sell_78 rfl rfl ?_
            refine g_bipush (v := (nI 12)) C dX6_sell_79 (by decide) ?_
            refine g_iload_n (j := 0) C dX6_sell_81 rfl rfl ?_
            refine g_iconst (v := (nI 4)) C dX6_sell_82 (by decide) ?_
            obtain ⟨q_28, e_29, h⟩ := zlet_ex h
            refine g_vi (ws' := (zW cy ad shM E q_28.2)) (As := [.int (nI 12), .int (q_13 - q_15), .int (nI 4)]) (rest := []) (res := q_28.1) C ((by rw [e_29]; exact c_X6_refuses l D cy ad E X (nI 12) (q_13 - q_15) (nI 4))) zml_RX6_199 zcv_X6_refuses (zW_get X sM_0) rfl rfl rfl ⟨Nat.le_of_ble_eq_true rfl, Nat.le_of_ble_eq_true rfl⟩ rfl rfl (Nat.le_of_ble_eq_true rfl) ⟨Nat.zero_le _, Nat.zero_le _⟩ dX6_sell_83 ?_
            obtain rfl := Option.some.inj h
            exact g_iret rfl C hr rfl dX6_sell_86
        · replace h := (if_neg hc_10).symm.trans h
          refine g_aload_n (j := 0) C dX6_sell_47 rfl rfl ?_
          refine g_iconst (v := (nI 3)) C dX6_sell_48 (by decide) ?_
          obtain ⟨q_30, e_31, h⟩ := zlet_ex h
          refine g_vi (ws' := (zW cy ad shM E q_30.2)) (As := [.int (nI 3)]) (rest := []) (res := q_30.1) C ((by rw [e_31]; exact c_X6_fails l D cy ad E X (nI 3))) zml_RX6_45 zcv_X6_fails (zW_get X sM_0) rfl rfl rfl ⟨Nat.le_of_ble_eq_true rfl, Nat.le_of_ble_eq_true rfl⟩ rfl rfl (Nat.le_of_ble_eq_true rfl) ⟨Nat.zero_le _, Nat.zero_le _⟩ dX6_sell_49 ?_
          obtain rfl := Option.some.inj h
          exact g_iret rfl C hr rfl dX6_sell_52
    · replace h := (if_pos hc_2).symm.trans h
      refine g_aload_n (j := 0) C dX6_sell_25 rfl rfl ?_
      refine g_iconst (v := (nI 2)) C dX6_sell_26 (by decide) ?_
      obtain ⟨q_32, e_33, h⟩ := zlet_ex h
      refine g_vi (ws' := (zW cy ad shM E q_32.2)) (As := [.int (nI 2)]) (rest := []) (res := q_32.1) C ((by rw [e_33]; exact c_X6_fails l D cy ad E X (nI 2))) zml_RX6_45 zcv_X6_fails (zW_get X sM_0) rfl rfl rfl ⟨Nat.le_of_ble_eq_true rfl, Nat.le_of_ble_eq_true rfl⟩ rfl rfl (Nat.le_of_ble_eq_true rfl) ⟨Nat.zero_le _, Nat.zero_le _⟩ dX6_sell_27 ?_
      obtain rfl := Option.some.inj h
      exact g_iret rfl C hr rfl dX6_sell_30
  · replace h := (if_pos hc_1).symm.trans h
    refine g_aload_n (j := 0) C dX6_sell_8 rfl rfl ?_
    refine g_iconst (v := (nI 1)) C dX6_sell_9 (by decide) ?_
    obtain ⟨q_34, e_35, h⟩ := zlet_ex h
    refine g_vi (ws' := (zW cy ad shM E q_34.2)) (As := [.int (nI 1)]) (rest := []) (res := q_34.1) C ((by rw [e_35]; exact c_X6_fails l D cy ad E X (nI 1))) zml_RX6_45 zcv_X6_fails (zW_get X sM_0) rfl rfl rfl ⟨Nat.le_of_ble_eq_true rfl, Nat.le_of_ble_eq_true rfl⟩ rfl rfl (Nat.le_of_ble_eq_true rfl) ⟨Nat.zero_le _, Nat.zero_le _⟩ dX6_sell_10 ?_
    obtain rfl := Option.some.inj h
    exact g_iret rfl C hr rfl dX6_sell_13
def f_X6_show (X : Nat → Nat → Int32) (v1 v2 : Int32) : Option (Int32 × (Nat → Nat → Int32)) := (if (f_X6_isShow X v1) = 0 then (zlet (f_X6_fails X (nI 1)) fun q_57 => some (q_57.1, q_57.2)) else (if (f_X6_in v2 (nI 0) (nI 11)) = 0 then (zlet (f_X6_fails X (nI 2)) fun q_55 => some (q_55.1, q_55.2)) else (if v2 = (nI 4) then ((f_X6_endOf X v1).bind fun q_4 => (zlet (f_X6_done X q_4) fun q_6 => some (q_6.1, q_6.2))) else (if v2 = (nI 5) then ((f_X6_showAt X v1 (nI 7)).bind fun q_9 => (zlet (f_X6_done X q_9) fun q_11 => some (q_11.1, q_11.2))) else (if v2 = (nI 6) then ((f_X6_showAt X v1 (nI 4)).bind fun q_14 => (zlet (f_X6_done X q_14) fun q_16 => some (q_16.1, q_16.2))) else (if v2 = (nI 7) then ((f_X6_showAt X v1 (nI 6)).bind fun q_19 => (zlet (f_X6_done X q_19) fun q_21 => some (q_21.1, q_21.2))) else (if v2 = (nI 8) then ((f_X6_stands X v1).bind fun q_24 => (if q_24 = 0 then (zlet (f_X6_done X (nI 1)) fun q_34 => some (q_34.1, q_34.2)) else ((f_X6_isOver X v1).bind fun q_27 => (if q_27 = 0 then (zlet (f_X6_done X (nI 0)) fun q_30 => some (q_30.1, q_30.2)) else (zlet (f_X6_done X (nI 2)) fun q_32 => some (q_32.1, q_32.2)))))) else (if v2 = (nI 9) then ((f_X6_receiptsOf X v1).bind fun q_37 => (zlet (f_X6_done X q_37) fun q_39 => some (q_39.1, q_39.2))) else (if v2 = (nI 10) then ((f_X6_partOf X v1).bind fun q_42 => (zlet (f_X6_done X q_42) fun q_44 => some (q_44.1, q_44.2))) else (if v2 = (nI 11) then ((f_X6_showAt X v1 (nI 5)).bind fun q_47 => (zlet (f_X6_done X q_47) fun q_49 => some (q_49.1, q_49.2))) else ((f_X6_showAt X v1 v2).bind fun q_51 => (zlet (f_X6_done X q_51) fun q_53 => some (q_53.1, q_53.2)))))))))))))
set_option maxRecDepth 100000 in
set_option maxHeartbeats 4000000 in
theorem c_X6_show (l : Launch) (D : va_G) (cy : Nat → ClassId) (ad : Nat → Nat) (E : va_W) (X : Nat → Nat → Int32) (v1 v2 : Int32) {res : Int32 × (Nat → Nat → Int32)} (h : f_X6_show X v1 v2 = some res) : zMi l yX6_show cX6_show 3 (some .int) (zrm 4) D (zTy cy) (zW cy ad shM E X) [.ref (ad 0), .int v1, .int v2] res.1 (zW cy ad shM E res.2) := by
  refine zMi.of (by decide) (Nat.le_of_ble_eq_true rfl) ?_
  intro p e s m below meth c A C hr
  unfold f_X6_show at h
  refine zG_L (L' := [(0, .ref (ad 0)), (1, .int v1), (2, .int v2)]) rfl ?_
  refine g_aload_n (j := 0) C dX6_show_0 rfl rfl ?_
  refine g_iload_n (j := 1) C dX6_show_1 rfl rfl ?_
  refine g_vi (ws' := (zW cy ad shM E X)) (As := [.int v1]) (rest := []) (res := (f_X6_isShow X v1)) C (c_X6_isShow l D cy ad E X v1) zml_RX6_203 zcv_X6_isShow (zW_get X sM_0) rfl rfl rfl ⟨Nat.le_of_ble_eq_true rfl, Nat.le_of_ble_eq_true rfl⟩ rfl rfl (Nat.le_of_ble_eq_true rfl) ⟨Nat.zero_le _, Nat.zero_le _⟩ dX6_show_2 ?_
  refine g_if_ne C dX6_show_5 (tgt := 14) (by decide) (fun hc_1 => ?_) (fun hc_1 => ?_)
  · replace h := (if_neg hc_1).symm.trans h
    refine g_iload_n (j := 2) C dX6_show_14 rfl rfl ?_
    refine g_iconst (v := (nI 0)) C dX6_show_15 (by decide) ?_
    refine g_bipush (v := (nI 11)) C dX6_show_16 (by decide) ?_
    refine g_si (ws' := (zW cy ad shM E X)) (As := [.int v2, .int (nI 0), .int (nI 11)]) (rest := []) (res := (f_X6_in v2 (nI 0) (nI 11))) C (c_X6_in l D cy (zW cy ad shM E X) v2 (nI 0) (nI 11)) zml_RX6_64 zcs_X6_in rfl rfl ⟨Nat.le_of_ble_eq_true rfl, Nat.le_of_ble_eq_true rfl⟩ rfl rfl (Nat.le_of_ble_eq_true rfl) ⟨Nat.zero_le _, Nat.zero_le _⟩ dX6_show_18 ?_
    refine g_if_ne C dX6_show_21 (tgt := 30) (by decide) (fun hc_2 => ?_) (fun hc_2 => ?_)
    · replace h := (if_neg hc_2).symm.trans h
      refine g_iload_n (j := 2) C dX6_show_30 rfl rfl ?_
      by_cases hc_3 : v2 = (nI 4)
      · replace h := (if_pos hc_3).symm.trans h
        refine g_tabEq C dX6_show_31 hc_3 (by decide) (by decide) rfl (tgt := 76) (by decide) ?_
        refine g_aload_n (j := 0) C dX6_show_76 rfl rfl ?_
        refine g_aload_n (j := 0) C dX6_show_77 rfl rfl ?_
        refine g_iload_n (j := 1) C dX6_show_78 rfl rfl ?_
        obtain ⟨q_4, hq_5, h⟩ := bind_isome h
        refine g_vi (ws' := (zW cy ad shM E X)) (As := [.int v1]) (rest := [.ref (ad 0)]) (res := q_4) C (c_X6_endOf l D cy ad E X v1 hq_5) zml_RX6_151 zcv_X6_endOf (zW_get X sM_0) rfl rfl rfl ⟨Nat.le_of_ble_eq_true rfl, Nat.le_of_ble_eq_true rfl⟩ rfl rfl (Nat.le_of_ble_eq_true rfl) ⟨Nat.zero_le _, Nat.zero_le _⟩ dX6_show_79 ?_
        obtain ⟨q_6, e_7, h⟩ := zlet_ex h
        refine g_vi (ws' := (zW cy ad shM E q_6.2)) (As := [.int q_4]) (rest := []) (res := q_6.1) C ((by rw [e_7]; exact c_X6_done l D cy ad E X q_4)) zml_RX6_71 zcv_X6_done (zW_get X sM_0) rfl rfl rfl ⟨Nat.le_of_ble_eq_true rfl, Nat.le_of_ble_eq_true rfl⟩ rfl rfl (Nat.le_of_ble_eq_true rfl) ⟨Nat.zero_le _, Nat.zero_le _⟩ dX6_show_82 ?_
        obtain rfl := Option.some.inj h
        exact g_iret rfl C hr rfl dX6_show_85
      replace h := (if_neg hc_3).symm.trans h
      by_cases hc_8 : v2 = (nI 5)
      · replace h := (if_pos hc_8).symm.trans h
        refine g_tabEq C dX6_show_31 hc_8 (by decide) (by decide) rfl (tgt := 86) (by decide) ?_
        refine g_aload_n (j := 0) C dX6_show_86 rfl rfl ?_
        refine g_aload_n (j := 0) C dX6_show_87 rfl rfl ?_
        refine g_iload_n (j := 1) C dX6_show_88 rfl rfl ?_
        refine g_bipush (v := (nI 7)) C dX6_show_89 (by decide) ?_
        obtain ⟨q_9, hq_10, h⟩ := bind_isome h
        refine g_vi (ws' := (zW cy ad shM E X)) (As := [.int v1, .int (nI 7)]) (rest := [.ref (ad 0)]) (res := q_9) C (c_X6_showAt l D cy ad E X v1 (nI 7) hq_10) zml_RX6_89 zcv_X6_showAt (zW_get X sM_0) rfl rfl rfl ⟨Nat.le_of_ble_eq_true rfl, Nat.le_of_ble_eq_true rfl⟩ rfl rfl (Nat.le_of_ble_eq_true rfl) ⟨Nat.zero_le _, Nat.zero_le _⟩ dX6_show_91 ?_
        obtain ⟨q_11, e_12, h⟩ := zlet_ex h
        refine g_vi (ws' := (zW cy ad shM E q_11.2)) (As := [.int q_9]) (rest := []) (res := q_11.1) C ((by rw [e_12]; exact c_X6_done l D cy ad E X q_9)) zml_RX6_71 zcv_X6_done (zW_get X sM_0) rfl rfl rfl ⟨Nat.le_of_ble_eq_true rfl, Nat.le_of_ble_eq_true rfl⟩ rfl rfl (Nat.le_of_ble_eq_true rfl) ⟨Nat.zero_le _, Nat.zero_le _⟩ dX6_show_94 ?_
        obtain rfl := Option.some.inj h
        exact g_iret rfl C hr rfl dX6_show_97
      replace h := (if_neg hc_8).symm.trans h
      by_cases hc_13 : v2 = (nI 6)
      · replace h := (if_pos hc_13).symm.trans h
        refine g_tabEq C dX6_show_31 hc_13 (by decide) (by decide) rfl (tgt := 98) (by decide) ?_
        refine g_aload_n (j := 0) C dX6_show_98 rfl rfl ?_
        refine g_aload_n (j := 0) C dX6_show_99 rfl rfl ?_
        refine g_iload_n (j := 1) C dX6_show_100 rfl rfl ?_
        refine g_iconst (v := (nI 4)) C dX6_show_101 (by decide) ?_
        obtain ⟨q_14, hq_15, h⟩ := bind_isome h
        refine g_vi (ws' := (zW cy ad shM E X)) (As := [.int v1, .int (nI 4)]) (rest := [.ref (ad 0)]) (res := q_14) C (c_X6_showAt l D cy ad E X v1 (nI 4) hq_15) zml_RX6_89 zcv_X6_showAt (zW_get X sM_0) rfl rfl rfl ⟨Nat.le_of_ble_eq_true rfl, Nat.le_of_ble_eq_true rfl⟩ rfl rfl (Nat.le_of_ble_eq_true rfl) ⟨Nat.zero_le _, Nat.zero_le _⟩ dX6_show_102 ?_
        obtain ⟨q_16, e_17, h⟩ := zlet_ex h
        refine g_vi (ws' := (zW cy ad shM E q_16.2)) (As := [.int q_14]) (rest := []) (res := q_16.1) C ((by rw [e_17]; exact c_X6_done l D cy ad E X q_14)) zml_RX6_71 zcv_X6_done (zW_get X sM_0) rfl rfl rfl ⟨Nat.le_of_ble_eq_true rfl, Nat.le_of_ble_eq_true rfl⟩ rfl rfl (Nat.le_of_ble_eq_true rfl) ⟨Nat.zero_le _, Nat.zero_le _⟩ dX6_show_105 ?_
        obtain rfl := Option.some.inj h
        exact g_iret rfl C hr rfl dX6_show_108
      replace h := (if_neg hc_13).symm.trans h
      by_cases hc_18 : v2 = (nI 7)
      · replace h := (if_pos hc_18).symm.trans h
        refine g_tabEq C dX6_show_31 hc_18 (by decide) (by decide) rfl (tgt := 109) (by decide) ?_
        refine g_aload_n (j := 0) C dX6_show_109 rfl rfl ?_
        refine g_aload_n (j := 0) C dX6_show_110 rfl rfl ?_
        refine g_iload_n (j := 1) C dX6_show_111 rfl rfl ?_
        refine g_bipush (v := (nI 6)) C dX6_show_112 (by decide) ?_
        obtain ⟨q_19, hq_20, h⟩ := bind_isome h
        refine g_vi (ws' := (zW cy ad shM E X)) (As := [.int v1, .int (nI 6)]) (rest := [.ref (ad 0)]) (res := q_19) C (c_X6_showAt l D cy ad E X v1 (nI 6) hq_20) zml_RX6_89 zcv_X6_showAt (zW_get X sM_0) rfl rfl rfl ⟨Nat.le_of_ble_eq_true rfl, Nat.le_of_ble_eq_true rfl⟩ rfl rfl (Nat.le_of_ble_eq_true rfl) ⟨Nat.zero_le _, Nat.zero_le _⟩ dX6_show_114 ?_
        obtain ⟨q_21, e_22, h⟩ := zlet_ex h
        refine g_vi (ws' := (zW cy ad shM E q_21.2)) (As := [.int q_19]) (rest := []) (res := q_21.1) C ((by rw [e_22]; exact c_X6_done l D cy ad E X q_19)) zml_RX6_71 zcv_X6_done (zW_get X sM_0) rfl rfl rfl ⟨Nat.le_of_ble_eq_true rfl, Nat.le_of_ble_eq_true rfl⟩ rfl rfl (Nat.le_of_ble_eq_true rfl) ⟨Nat.zero_le _, Nat.zero_le _⟩ dX6_show_117 ?_
        obtain rfl := Option.some.inj h
        exact g_iret rfl C hr rfl dX6_show_120
      replace h := (if_neg hc_18).symm.trans h
      by_cases hc_23 : v2 = (nI 8)
      · replace h := (if_pos hc_23).symm.trans h
        refine g_tabEq C dX6_show_31 hc_23 (by decide) (by decide) rfl (tgt := 121) (by decide) ?_
        refine g_aload_n (j := 0) C dX6_show_121 rfl rfl ?_
        refine g_aload_n (j := 0) C dX6_show_122 rfl rfl ?_
        refine g_iload_n (j := 1) C dX6_show_123 rfl rfl ?_
        obtain ⟨q_24, hq_25, h⟩ := bind_isome h
        refine g_vi (ws' := (zW cy ad shM E X)) (As := [.int v1]) (rest := [.ref (ad 0)]) (res := q_24) C (c_X6_stands l D cy ad E X v1 hq_25) zml_RX6_107 zcv_X6_stands (zW_get X sM_0) rfl rfl rfl ⟨Nat.le_of_ble_eq_true rfl, Nat.le_of_ble_eq_true rfl⟩ rfl rfl (Nat.le_of_ble_eq_true rfl) ⟨Nat.zero_le _, Nat.zero_le _⟩ dX6_show_124 ?_
        refine g_if_ne C dX6_show_127 (tgt := 134) (by decide) (fun hc_26 => ?_) (fun hc_26 => ?_)
        · replace h := (if_neg hc_26).symm.trans h
          refine g_aload_n (j := 0) C dX6_show_134 rfl rfl ?_
          refine g_iload_n (j := 1) C dX6_show_135 rfl rfl ?_
          obtain ⟨q_27, hq_28, h⟩ := bind_isome h
          refine g_vi (ws' := (zW cy ad shM E X)) (As := [.int v1]) (rest := [.ref (ad 0)]) (res := q_27) C (c_X6_isOver l D cy ad E X v1 hq_28) zml_RX6_206 zcv_X6_isOver (zW_get X sM_0) rfl rfl rfl ⟨Nat.le_of_ble_eq_true rfl, Nat.le_of_ble_eq_true rfl⟩ rfl rfl (Nat.le_of_ble_eq_true rfl) ⟨Nat.zero_le _, Nat.zero_le _⟩ dX6_show_136 ?_
          refine g_if_eq C dX6_show_139 (tgt := 146) (by decide) (fun hc_29 => ?_) (fun hc_29 => ?_)
          · replace h := (if_pos hc_29).symm.trans h
            refine g_iconst (v := (nI 0)) C dX6_show_146 (by decide) ?_
            obtain ⟨q_30, e_31, h⟩ := zlet_ex h
            refine g_vi (ws' := (zW cy ad shM E q_30.2)) (As := [.int (nI 0)]) (rest := []) (res := q_30.1) C ((by rw [e_31]; exact c_X6_done l D cy ad E X (nI 0))) zml_RX6_71 zcv_X6_done (zW_get X sM_0) rfl rfl rfl ⟨Nat.le_of_ble_eq_true rfl, Nat.le_of_ble_eq_true rfl⟩ rfl rfl (Nat.le_of_ble_eq_true rfl) ⟨Nat.zero_le _, Nat.zero_le _⟩ dX6_show_147 ?_
            obtain rfl := Option.some.inj h
            exact g_iret rfl C hr rfl dX6_show_150
          · replace h := (if_neg hc_29).symm.trans h
            refine g_iconst (v := (nI 2)) C dX6_show_142 (by decide) ?_
            refine g_goto C dX6_show_143 (tgt := 147) (by decide) ?_
            obtain ⟨q_32, e_33, h⟩ := zlet_ex h
            refine g_vi (ws' := (zW cy ad shM E q_32.2)) (As := [.int (nI 2)]) (rest := []) (res := q_32.1) C ((by rw [e_33]; exact c_X6_done l D cy ad E X (nI 2))) zml_RX6_71 zcv_X6_done (zW_get X sM_0) rfl rfl rfl ⟨Nat.le_of_ble_eq_true rfl, Nat.le_of_ble_eq_true rfl⟩ rfl rfl (Nat.le_of_ble_eq_true rfl) ⟨Nat.zero_le _, Nat.zero_le _⟩ dX6_show_147 ?_
            obtain rfl := Option.some.inj h
            exact g_iret rfl C hr rfl dX6_show_150
        · replace h := (if_pos hc_26).symm.trans h
          refine g_iconst (v := (nI 1)) C dX6_show_130 (by decide) ?_
          refine g_goto C dX6_show_131 (tgt := 147) (by decide) ?_
          obtain ⟨q_34, e_35, h⟩ := zlet_ex h
          refine g_vi (ws' := (zW cy ad shM E q_34.2)) (As := [.int (nI 1)]) (rest := []) (res := q_34.1) C ((by rw [e_35]; exact c_X6_done l D cy ad E X (nI 1))) zml_RX6_71 zcv_X6_done (zW_get X sM_0) rfl rfl rfl ⟨Nat.le_of_ble_eq_true rfl, Nat.le_of_ble_eq_true rfl⟩ rfl rfl (Nat.le_of_ble_eq_true rfl) ⟨Nat.zero_le _, Nat.zero_le _⟩ dX6_show_147 ?_
          obtain rfl := Option.some.inj h
          exact g_iret rfl C hr rfl dX6_show_150
      replace h := (if_neg hc_23).symm.trans h
      by_cases hc_36 : v2 = (nI 9)
      · replace h := (if_pos hc_36).symm.trans h
        refine g_tabEq C dX6_show_31 hc_36 (by decide) (by decide) rfl (tgt := 151) (by decide) ?_
        refine g_aload_n (j := 0) C dX6_show_151 rfl rfl ?_
        refine g_aload_n (j := 0) C dX6_show_152 rfl rfl ?_
        refine g_iload_n (j := 1) C dX6_show_153 rfl rfl ?_
        obtain ⟨q_37, hq_38, h⟩ := bind_isome h
        refine g_vi (ws' := (zW cy ad shM E X)) (As := [.int v1]) (rest := [.ref (ad 0)]) (res := q_37) C (c_X6_receiptsOf l D cy ad E X v1 hq_38) zml_RX6_98 zcv_X6_receiptsOf (zW_get X sM_0) rfl rfl rfl ⟨Nat.le_of_ble_eq_true rfl, Nat.le_of_ble_eq_true rfl⟩ rfl rfl (Nat.le_of_ble_eq_true rfl) ⟨Nat.zero_le _, Nat.zero_le _⟩ dX6_show_154 ?_
        obtain ⟨q_39, e_40, h⟩ := zlet_ex h
        refine g_vi (ws' := (zW cy ad shM E q_39.2)) (As := [.int q_37]) (rest := []) (res := q_39.1) C ((by rw [e_40]; exact c_X6_done l D cy ad E X q_37)) zml_RX6_71 zcv_X6_done (zW_get X sM_0) rfl rfl rfl ⟨Nat.le_of_ble_eq_true rfl, Nat.le_of_ble_eq_true rfl⟩ rfl rfl (Nat.le_of_ble_eq_true rfl) ⟨Nat.zero_le _, Nat.zero_le _⟩ dX6_show_157 ?_
        obtain rfl := Option.some.inj h
        exact g_iret rfl C hr rfl dX6_show_160
      replace h := (if_neg hc_36).symm.trans h
      by_cases hc_41 : v2 = (nI 10)
      · replace h := (if_pos hc_41).symm.trans h
        refine g_tabEq C dX6_show_31 hc_41 (by decide) (by decide) rfl (tgt := 161) (by decide) ?_
        refine g_aload_n (j := 0) C dX6_show_161 rfl rfl ?_
        refine g_aload_n (j := 0) C dX6_show_162 rfl rfl ?_
        refine g_iload_n (j := 1) C dX6_show_163 rfl rfl ?_
        obtain ⟨q_42, hq_43, h⟩ := bind_isome h
        refine g_vi (ws' := (zW cy ad shM E X)) (As := [.int v1]) (rest := [.ref (ad 0)]) (res := q_42) C (c_X6_partOf l D cy ad E X v1 hq_43) zml_RX6_110 zcv_X6_partOf (zW_get X sM_0) rfl rfl rfl ⟨Nat.le_of_ble_eq_true rfl, Nat.le_of_ble_eq_true rfl⟩ rfl rfl (Nat.le_of_ble_eq_true rfl) ⟨Nat.zero_le _, Nat.zero_le _⟩ dX6_show_164 ?_
        obtain ⟨q_44, e_45, h⟩ := zlet_ex h
        refine g_vi (ws' := (zW cy ad shM E q_44.2)) (As := [.int q_42]) (rest := []) (res := q_44.1) C ((by rw [e_45]; exact c_X6_done l D cy ad E X q_42)) zml_RX6_71 zcv_X6_done (zW_get X sM_0) rfl rfl rfl ⟨Nat.le_of_ble_eq_true rfl, Nat.le_of_ble_eq_true rfl⟩ rfl rfl (Nat.le_of_ble_eq_true rfl) ⟨Nat.zero_le _, Nat.zero_le _⟩ dX6_show_167 ?_
        obtain rfl := Option.some.inj h
        exact g_iret rfl C hr rfl dX6_show_170
      replace h := (if_neg hc_41).symm.trans h
      by_cases hc_46 : v2 = (nI 11)
      · replace h := (if_pos hc_46).symm.trans h
        refine g_tabEq C dX6_show_31 hc_46 (by decide) (by decide) rfl (tgt := 171) (by decide) ?_
        refine g_aload_n (j := 0) C dX6_show_171 rfl rfl ?_
        refine g_aload_n (j := 0) C dX6_show_172 rfl rfl ?_
        refine g_iload_n (j := 1) C dX6_show_173 rfl rfl ?_
        refine g_iconst (v := (nI 5)) C dX6_show_174 (by decide) ?_
        obtain ⟨q_47, hq_48, h⟩ := bind_isome h
        refine g_vi (ws' := (zW cy ad shM E X)) (As := [.int v1, .int (nI 5)]) (rest := [.ref (ad 0)]) (res := q_47) C (c_X6_showAt l D cy ad E X v1 (nI 5) hq_48) zml_RX6_89 zcv_X6_showAt (zW_get X sM_0) rfl rfl rfl ⟨Nat.le_of_ble_eq_true rfl, Nat.le_of_ble_eq_true rfl⟩ rfl rfl (Nat.le_of_ble_eq_true rfl) ⟨Nat.zero_le _, Nat.zero_le _⟩ dX6_show_175 ?_
        obtain ⟨q_49, e_50, h⟩ := zlet_ex h
        refine g_vi (ws' := (zW cy ad shM E q_49.2)) (As := [.int q_47]) (rest := []) (res := q_49.1) C ((by rw [e_50]; exact c_X6_done l D cy ad E X q_47)) zml_RX6_71 zcv_X6_done (zW_get X sM_0) rfl rfl rfl ⟨Nat.le_of_ble_eq_true rfl, Nat.le_of_ble_eq_true rfl⟩ rfl rfl (Nat.le_of_ble_eq_true rfl) ⟨Nat.zero_le _, Nat.zero_le _⟩ dX6_show_178 ?_
        obtain rfl := Option.some.inj h
        exact g_iret rfl C hr rfl dX6_show_181
      replace h := (if_neg hc_46).symm.trans h
      refine g_tabOut C dX6_show_31 (z_tabout_8 (lo := 4) (hi := 11) hc_3 hc_8 hc_13 hc_18 hc_23 hc_36 hc_41 hc_46 (by decide)) (tgt := 182) (by decide) ?_
      refine g_aload_n (j := 0) C dX6_show_182 rfl rfl ?_
      refine g_aload_n (j := 0) C dX6_show_183 rfl rfl ?_
      refine g_iload_n (j := 1) C dX6_show_184 rfl rfl ?_
      refine g_iload_n (j := 2) C dX6_show_185 rfl rfl ?_
      obtain ⟨q_51, hq_52, h⟩ := bind_isome h
      refine g_vi (ws' := (zW cy ad shM E X)) (As := [.int v1, .int v2]) (rest := [.ref (ad 0)]) (res := q_51) C (c_X6_showAt l D cy ad E X v1 v2 hq_52) zml_RX6_89 zcv_X6_showAt (zW_get X sM_0) rfl rfl rfl ⟨Nat.le_of_ble_eq_true rfl, Nat.le_of_ble_eq_true rfl⟩ rfl rfl (Nat.le_of_ble_eq_true rfl) ⟨Nat.zero_le _, Nat.zero_le _⟩ dX6_show_186 ?_
      obtain ⟨q_53, e_54, h⟩ := zlet_ex h
      refine g_vi (ws' := (zW cy ad shM E q_53.2)) (As := [.int q_51]) (rest := []) (res := q_53.1) C ((by rw [e_54]; exact c_X6_done l D cy ad E X q_51)) zml_RX6_71 zcv_X6_done (zW_get X sM_0) rfl rfl rfl ⟨Nat.le_of_ble_eq_true rfl, Nat.le_of_ble_eq_true rfl⟩ rfl rfl (Nat.le_of_ble_eq_true rfl) ⟨Nat.zero_le _, Nat.zero_le _⟩ dX6_show_189 ?_
      obtain rfl := Option.some.inj h
      exact g_iret rfl C hr rfl dX6_show_192
    · replace h := (if_pos hc_2).symm.trans h
      refine g_aload_n (j := 0) C dX6_show_24 rfl rfl ?_
      refine g_iconst (v := (nI 2)) C dX6_show_25 (by decide) ?_
      obtain ⟨q_55, e_56, h⟩ := zlet_ex h
      refine g_vi (ws' := (zW cy ad shM E q_55.2)) (As := [.int (nI 2)]) (rest := []) (res := q_55.1) C ((by rw [e_56]; exact c_X6_fails l D cy ad E X (nI 2))) zml_RX6_45 zcv_X6_fails (zW_get X sM_0) rfl rfl rfl ⟨Nat.le_of_ble_eq_true rfl, Nat.le_of_ble_eq_true rfl⟩ rfl rfl (Nat.le_of_ble_eq_true rfl) ⟨Nat.zero_le _, Nat.zero_le _⟩ dX6_show_26 ?_
      obtain rfl := Option.some.inj h
      exact g_iret rfl C hr rfl dX6_show_29
  · replace h := (if_pos hc_1).symm.trans h
    refine g_aload_n (j := 0) C dX6_show_8 rfl rfl ?_
    refine g_iconst (v := (nI 1)) C dX6_show_9 (by decide) ?_
    obtain ⟨q_57, e_58, h⟩ := zlet_ex h
    refine g_vi (ws' := (zW cy ad shM E q_57.2)) (As := [.int (nI 1)]) (rest := []) (res := q_57.1) C ((by rw [e_58]; exact c_X6_fails l D cy ad E X (nI 1))) zml_RX6_45 zcv_X6_fails (zW_get X sM_0) rfl rfl rfl ⟨Nat.le_of_ble_eq_true rfl, Nat.le_of_ble_eq_true rfl⟩ rfl rfl (Nat.le_of_ble_eq_true rfl) ⟨Nat.zero_le _, Nat.zero_le _⟩ dX6_show_10 ?_
    obtain rfl := Option.some.inj h
    exact g_iret rfl C hr rfl dX6_show_13
def f_X6_why (X : Nat → Nat → Int32) (v1 v2 v3 v4 v5 : Int32) : Option (Int32 × (Nat → Nat → Int32)) := (if (f_X6_isHall X v1) = 0 then (zlet (f_X6_fails X (nI 1)) fun q_2 => some (q_2.1, q_2.2)) else (if (f_X6_isFilm X v2) = 0 then (zlet (f_X6_fails X (nI 1)) fun q_15 => some (q_15.1, q_15.2)) else (if (f_X6_isPlace v3 v4) = 0 then (zlet (f_X6_fails X (nI 2)) fun q_13 => some (q_13.1, q_13.2)) else ((f_X6_breaksNew X v1 v2 v3 v4).bind fun q_6 => (if v5 = 0 then (zlet (f_X6_done q_6.2 q_6.1) fun q_9 => some (q_9.1, q_9.2)) else (zlet (f_X6_done q_6.2 (q_6.2 0 21)) fun q_11 => some (q_11.1, q_11.2)))))))
set_option maxRecDepth 100000 in
set_option maxHeartbeats 4000000 in
theorem c_X6_why (l : Launch) (D : va_G) (cy : Nat → ClassId) (ad : Nat → Nat) (E : va_W) (X : Nat → Nat → Int32) (v1 v2 v3 v4 v5 : Int32) {res : Int32 × (Nat → Nat → Int32)} (h : f_X6_why X v1 v2 v3 v4 v5 = some res) : zMi l yX6_why cX6_why 7 (some .int) (zrm 8) D (zTy cy) (zW cy ad shM E X) [.ref (ad 0), .int v1, .int v2, .int v3, .int v4, .int v5] res.1 (zW cy ad shM E res.2) := by
  refine zMi.of (by decide) (Nat.le_of_ble_eq_true rfl) ?_
  intro p e s m below meth c A C hr
  unfold f_X6_why at h
  refine zG_L (L' := [(0, .ref (ad 0)), (1, .int v1), (2, .int v2), (3, .int v3), (4, .int v4), (5, .int v5)]) rfl ?_
  refine g_aload_n (j := 0) C dX6_why_0 rfl rfl ?_
  refine g_iload_n (j := 1) C dX6_why_1 rfl rfl ?_
  refine g_vi (ws' := (zW cy ad shM E X)) (As := [.int v1]) (rest := []) (res := (f_X6_isHall X v1)) C (c_X6_isHall l D cy ad E X v1) zml_RX6_104 zcv_X6_isHall (zW_get X sM_0) rfl rfl rfl ⟨Nat.le_of_ble_eq_true rfl, Nat.le_of_ble_eq_true rfl⟩ rfl rfl (Nat.le_of_ble_eq_true rfl) ⟨Nat.zero_le _, Nat.zero_le _⟩ dX6_why_2 ?_
  refine g_if_eq C dX6_why_5 (tgt := 16) (by decide) (fun hc_1 => ?_) (fun hc_1 => ?_)
  · replace h := (if_pos hc_1).symm.trans h
    refine g_aload_n (j := 0) C dX6_why_16 rfl rfl ?_
    refine g_iconst (v := (nI 1)) C dX6_why_17 (by decide) ?_
    obtain ⟨q_2, e_3, h⟩ := zlet_ex h
    refine g_vi (ws' := (zW cy ad shM E q_2.2)) (As := [.int (nI 1)]) (rest := []) (res := q_2.1) C ((by rw [e_3]; exact c_X6_fails l D cy ad E X (nI 1))) zml_RX6_45 zcv_X6_fails (zW_get X sM_0) rfl rfl rfl ⟨Nat.le_of_ble_eq_true rfl, Nat.le_of_ble_eq_true rfl⟩ rfl rfl (Nat.le_of_ble_eq_true rfl) ⟨Nat.zero_le _, Nat.zero_le _⟩ dX6_why_18 ?_
    obtain rfl := Option.some.inj h
    exact g_iret rfl C hr rfl dX6_why_21
  · replace h := (if_neg hc_1).symm.trans h
    refine g_aload_n (j := 0) C dX6_why_8 rfl rfl ?_
    refine g_iload_n (j := 2) C dX6_why_9 rfl rfl ?_
    refine g_vi (ws' := (zW cy ad shM E X)) (As := [.int v2]) (rest := []) (res := (f_X6_isFilm X v2)) C (c_X6_isFilm l D cy ad E X v2) zml_RX6_78 zcv_X6_isFilm (zW_get X sM_0) rfl rfl rfl ⟨Nat.le_of_ble_eq_true rfl, Nat.le_of_ble_eq_true rfl⟩ rfl rfl (Nat.le_of_ble_eq_true rfl) ⟨Nat.zero_le _, Nat.zero_le _⟩ dX6_why_10 ?_
    refine g_if_ne C dX6_why_13 (tgt := 22) (by decide) (fun hc_4 => ?_) (fun hc_4 => ?_)
    · replace h := (if_neg hc_4).symm.trans h
      refine g_iload_n (j := 3) C dX6_why_22 rfl rfl ?_
      refine g_iload (j := 4) C dX6_why_23 rfl ?_
      refine g_si (ws' := (zW cy ad shM E X)) (As := [.int v3, .int v4]) (rest := []) (res := (f_X6_isPlace v3 v4)) C (c_X6_isPlace l D cy (zW cy ad shM E X) v3 v4) zml_RX6_192 zcs_X6_isPlace rfl rfl ⟨Nat.le_of_ble_eq_true rfl, Nat.le_of_ble_eq_true rfl⟩ rfl rfl (Nat.le_of_ble_eq_true rfl) ⟨Nat.zero_le _, Nat.zero_le _⟩ dX6_why_25 ?_
      refine g_if_ne C dX6_why_28 (tgt := 37) (by decide) (fun hc_5 => ?_) (fun hc_5 => ?_)
      · replace h := (if_neg hc_5).symm.trans h
        refine g_aload_n (j := 0) C dX6_why_37 rfl rfl ?_
        refine g_iload_n (j := 1) C dX6_why_38 rfl rfl ?_
        refine g_iload_n (j := 2) C dX6_why_39 rfl rfl ?_
        refine g_iload_n (j := 3) C dX6_why_40 rfl rfl ?_
        refine g_iload (j := 4) C dX6_why_41 rfl ?_
        obtain ⟨q_6, hq_7, h⟩ := bind_isome h
        refine g_vi (ws' := (zW cy ad shM E q_6.2)) (As := [.int v1, .int v2, .int v3, .int v4]) (rest := []) (res := q_6.1) C (c_X6_breaksNew l D cy ad E X v1 v2 v3 v4 hq_7) zml_RX6_195 zcv_X6_breaksNew (zW_get X sM_0) rfl rfl rfl ⟨Nat.le_of_ble_eq_true rfl, Nat.le_of_ble_eq_true rfl⟩ rfl rfl (Nat.le_of_ble_eq_true rfl) ⟨Nat.zero_le _, Nat.zero_le _⟩ dX6_why_43 ?_
        refine g_istore (L' := [(6, .int q_6.1), (0, .ref (ad 0)), (1, .int v1), (2, .int v2), (3, .int v3), (4, .int v4), (5, .int v5)]) C dX6_why_46 (by decide) rfl ?_
        refine g_aload_n (j := 1) C dX6_why_48 rfl rfl ?_
        refine g_iload (j := 6) C dX6_why_49 rfl ?_
        refine g_if_eq C dX6_why_51 (tgt := 61) (by decide) (fun hc_8 => ?_) (fun hc_8 => ?_)
        · replace h := (if_pos hc_8).symm.trans h
          refine g_iload (j := 0) C dX6_why_61 rfl ?_
          obtain ⟨q_9, e_10, h⟩ := zlet_ex h
          refine g_vi (ws' := (zW cy ad shM E q_9.2)) (As := [.int q_6.1]) (rest := []) (res := q_9.1) C ((by rw [e_10]; exact c_X6_done l D cy ad E q_6.2 q_6.1)) zml_RX6_71 zcv_X6_done (zW_get q_6.2 sM_0) rfl rfl rfl ⟨Nat.le_of_ble_eq_true rfl, Nat.le_of_ble_eq_true rfl⟩ rfl rfl (Nat.le_of_ble_eq_true rfl) ⟨Nat.zero_le _, Nat.zero_le _⟩ dX6_why_63 ?_
          obtain rfl := Option.some.inj h
          exact g_iret rfl C hr rfl dX6_why_66
        · replace h := (if_neg hc_8).symm.trans h
          refine g_aload_n (j := 1) C dX6_why_54 rfl rfl ?_
          refine g_geti (k := 21) (N := 27) C sM_0 rfl zin_RX6 (by decide) rfl zfl_RX6_166 rfl dX6_why_55 ?_
          refine g_goto C dX6_why_58 (tgt := 63) (by decide) ?_
          obtain ⟨q_11, e_12, h⟩ := zlet_ex h
          refine g_vi (ws' := (zW cy ad shM E q_11.2)) (As := [.int (q_6.2 0 21)]) (rest := []) (res := q_11.1) C ((by rw [e_12]; exact c_X6_done l D cy ad E q_6.2 (q_6.2 0 21))) zml_RX6_71 zcv_X6_done (zW_get q_6.2 sM_0) rfl rfl rfl ⟨Nat.le_of_ble_eq_true rfl, Nat.le_of_ble_eq_true rfl⟩ rfl rfl (Nat.le_of_ble_eq_true rfl) ⟨Nat.zero_le _, Nat.zero_le _⟩ dX6_why_63 ?_
          obtain rfl := Option.some.inj h
          exact g_iret rfl C hr rfl dX6_why_66
      · replace h := (if_pos hc_5).symm.trans h
        refine g_aload_n (j := 0) C dX6_why_31 rfl rfl ?_
        refine g_iconst (v := (nI 2)) C dX6_why_32 (by decide) ?_
        obtain ⟨q_13, e_14, h⟩ := zlet_ex h
        refine g_vi (ws' := (zW cy ad shM E q_13.2)) (As := [.int (nI 2)]) (rest := []) (res := q_13.1) C ((by rw [e_14]; exact c_X6_fails l D cy ad E X (nI 2))) zml_RX6_45 zcv_X6_fails (zW_get X sM_0) rfl rfl rfl ⟨Nat.le_of_ble_eq_true rfl, Nat.le_of_ble_eq_true rfl⟩ rfl rfl (Nat.le_of_ble_eq_true rfl) ⟨Nat.zero_le _, Nat.zero_le _⟩ dX6_why_33 ?_
        obtain rfl := Option.some.inj h
        exact g_iret rfl C hr rfl dX6_why_36
    · replace h := (if_pos hc_4).symm.trans h
      refine g_aload_n (j := 0) C dX6_why_16 rfl rfl ?_
      refine g_iconst (v := (nI 1)) C dX6_why_17 (by decide) ?_
      obtain ⟨q_15, e_16, h⟩ := zlet_ex h
      refine g_vi (ws' := (zW cy ad shM E q_15.2)) (As := [.int (nI 1)]) (rest := []) (res := q_15.1) C ((by rw [e_16]; exact c_X6_fails l D cy ad E X (nI 1))) zml_RX6_45 zcv_X6_fails (zW_get X sM_0) rfl rfl rfl ⟨Nat.le_of_ble_eq_true rfl, Nat.le_of_ble_eq_true rfl⟩ rfl rfl (Nat.le_of_ble_eq_true rfl) ⟨Nat.zero_le _, Nat.zero_le _⟩ dX6_why_18 ?_
      obtain rfl := Option.some.inj h
      exact g_iret rfl C hr rfl dX6_why_21
def f_X6_firstStart_L60 (k : (Nat → Nat → Int32) → Int32 → Option (Int32 × (Nat → Nat → Int32))) (k1 : (Nat → Nat → Int32) → Option (Int32 × (Nat → Nat → Int32))) (v1 : Int32) (v2 : Int32) (v3 : Int32) (v5 : Int32) : Nat → (Nat → Nat → Int32) → Int32 → Option (Int32 × (Nat → Nat → Int32))
  | 0, _, _ => none
  | fu + 1, X, v6 => (if (nI 960) ≤ v6 then k1 X else ((f_X6_breaks X v1 v2 v3 v6 v5 (-1 : Int32)).bind fun q_1013 => (if q_1013.1 = 0 then k q_1013.2 v6 else f_X6_firstStart_L60 k k1 v1 v2 v3 v5 fu q_1013.2 (v6 + 1))))
set_option maxRecDepth 100000 in
set_option maxHeartbeats 4000000 in
theorem w_X6_firstStart_L60 {p : Program} {e : Env} {s : State} {m : MethodId} {args : Array Value} {below : List Frame} {meth : Method} {c : Code} {A : Nat → Prop} (l : Launch) (D : va_G) (cy : Nat → ClassId) (ad : Nat → Nat) (E : va_W) (k : (Nat → Nat → Int32) → Int32 → Option (Int32 × (Nat → Nat → Int32))) (k1 : (Nat → Nat → Int32) → Option (Int32 × (Nat → Nat → Int32))) (v1 : Int32) (v2 : Int32) (v3 : Int32) (v5 : Int32) {res : Int32 × (Nat → Nat → Int32)} (C : zC p s m args meth c cX6_firstStart 7 RX6 D (zTy cy) A) (hr : meth.sig.returnType = (some .int)) : ∀ (fu : Nat) (X : Nat → Nat → Int32) (v6 : Int32) (h : f_X6_firstStart_L60 k k1 v1 v2 v3 v5 fu X v6 = some res) (hk : ∀ (X : Nat → Nat → Int32) (v6 : Int32), k X v6 = some res → zG p l e (zrm 7) s m args below meth c 7 D A 0 0 (MQ below (va_Qi (fun (r : Int32) (_ : Unit) => r = res.1) (fun _ t => zB D (zTy cy) A (zW cy ad shM E res.2) t) A) args s 0 0 A) (zW cy ad shM E X) 83 [(0, .ref (ad 0)), (6, .int v6)] []) (hk1 : ∀ (X : Nat → Nat → Int32), k1 X = some res → zG p l e (zrm 7) s m args below meth c 7 D A 0 0 (MQ below (va_Qi (fun (r : Int32) (_ : Unit) => r = res.1) (fun _ t => zB D (zTy cy) A (zW cy ad shM E res.2) t) A) args s 0 0 A) (zW cy ad shM E X) 96 [(0, .ref (ad 0))] []), zG p l e (zrm 7) s m args below meth c 7 D A 0 0 (MQ below (va_Qi (fun (r : Int32) (_ : Unit) => r = res.1) (fun _ t => zB D (zTy cy) A (zW cy ad shM E res.2) t) A) args s 0 0 A) (zW cy ad shM E X) 60 [(0, .ref (ad 0)), (1, .int v1), (2, .int v2), (3, .int v3), (5, .int v5), (6, .int v6)] [] := by
  intro fu
  induction fu with
  | zero => intro X v6 h hk hk1; simp [f_X6_firstStart_L60] at h
  | succ fu ih =>
    intro X v6 h hk hk1
    rw [f_X6_firstStart_L60] at h
    refine g_iload (j := 5) C dX6_firstStart_60 rfl ?_
    refine g_sipush (v := (nI 960)) C dX6_firstStart_62 (by decide) ?_
    refine g_icmp_ge C dX6_firstStart_65 (tgt := 96) (by decide) (fun hc_1012 => ?_) (fun hc_1012 => ?_)
    · replace h := (if_pos hc_1012).symm.trans h
      refine zG_sub (L' := [(0, .ref (ad 0))]) [0] rfl ?_
      exact hk1 X h
    · replace h := (if_neg hc_1012).symm.trans h
      refine g_aload_n (j := 0) C dX6_firstStart_68 rfl rfl ?_
      refine g_iload_n (j := 1) C dX6_firstStart_69 rfl rfl ?_
      refine g_iload_n (j := 2) C dX6_firstStart_70 rfl rfl ?_
      refine g_iload_n (j := 3) C dX6_firstStart_71 rfl rfl ?_
      refine g_iload (j := 5) C dX6_firstStart_72 rfl ?_
      refine g_iload (j := 4) C dX6_firstStart_74 rfl ?_
      refine g_iconst (v := (-1 : Int32)) C dX6_firstStart_76 (by decide) ?_
      obtain ⟨q_1013, hq_1014, h⟩ := bind_isome h
      refine g_vi (ws' := (zW cy ad shM E q_1013.2)) (As := [.int v1, .int v2, .int v3, .int v6, .int v5, .int (-1 : Int32)]) (rest := []) (res := q_1013.1) C (c_X6_breaks l D cy ad E X v1 v2 v3 v6 v5 (-1 : Int32) hq_1014) zml_RX6_188 zcv_X6_breaks (zW_get X sM_0) rfl rfl rfl ⟨Nat.le_of_ble_eq_true rfl, Nat.le_of_ble_eq_true rfl⟩ rfl rfl (Nat.le_of_ble_eq_true rfl) ⟨Nat.zero_le _, Nat.zero_le _⟩ dX6_firstStart_77 ?_
      refine g_if_ne C dX6_firstStart_80 (tgt := 90) (by decide) (fun hc_1015 => ?_) (fun hc_1015 => ?_)
      · replace h := (if_neg hc_1015).symm.trans h
        refine g_iinc (k := 5) (L' := [(6, .int (v6 + 1)), (0, .ref (ad 0)), (1, .int v1), (2, .int v2), (3, .int v3), (5, .int v5)]) C dX6_firstStart_90 rfl (z_iinc (by decide)) (by decide) rfl ?_
        refine g_goto C dX6_firstStart_93 (tgt := 60) (by decide) ?_
        refine zG_sub (L' := [(0, .ref (ad 0)), (1, .int v1), (2, .int v2), (3, .int v3), (5, .int v5), (6, .int (v6 + 1))]) [1, 2, 3, 4, 5, 0] rfl ?_
        exact ih q_1013.2 (v6 + 1) h hk hk1
      · replace h := (if_pos hc_1015).symm.trans h
        refine zG_sub (L' := [(0, .ref (ad 0)), (6, .int v6)]) [0, 5] rfl ?_
        exact hk q_1013.2 v6 h
def f_X6_firstStart (X : Nat → Nat → Int32) (v1 v2 v3 v4 : Int32) : Option (Int32 × (Nat → Nat → Int32)) := (if (f_X6_isHall X v1) = 0 then (zlet (f_X6_fails X (nI 1)) fun q_2 => some (q_2.1, q_2.2)) else (if (f_X6_isFilm X v2) = 0 then (zlet (f_X6_fails X (nI 1)) fun q_1025 => some (q_1025.1, q_1025.2)) else (if (f_X6_isPlace v3 v4) = 0 then (zlet (f_X6_fails X (nI 2)) fun q_1023 => some (q_1023.1, q_1023.2)) else ((f_X6_bestReel X v2 v3).bind fun q_6 => ((f_X6_lengthOf X q_6).bind fun q_8 => ((f_X6_filmAt X v2 (nI 0)).bind fun q_10 => f_X6_firstStart_L60 (fun X_1017 v6_1016 => (zlet (f_X6_done X_1017 v6_1016) fun q_1018 => some (q_1018.1, q_1018.2))) (fun X_1020 => (zlet (f_X6_fails X_1020 (nI 3)) fun q_1021 => some (q_1021.1, q_1021.2))) v1 v2 v3 (q_8 + q_10) zFuel X v4))))))
set_option maxRecDepth 100000 in
set_option maxHeartbeats 4000000 in
theorem c_X6_firstStart (l : Launch) (D : va_G) (cy : Nat → ClassId) (ad : Nat → Nat) (E : va_W) (X : Nat → Nat → Int32) (v1 v2 v3 v4 : Int32) {res : Int32 × (Nat → Nat → Int32)} (h : f_X6_firstStart X v1 v2 v3 v4 = some res) : zMi l yX6_firstStart cX6_firstStart 7 (some .int) (zrm 7) D (zTy cy) (zW cy ad shM E X) [.ref (ad 0), .int v1, .int v2, .int v3, .int v4] res.1 (zW cy ad shM E res.2) := by
  refine zMi.of (by decide) (Nat.le_of_ble_eq_true rfl) ?_
  intro p e s m below meth c A C hr
  unfold f_X6_firstStart at h
  refine zG_L (L' := [(0, .ref (ad 0)), (1, .int v1), (2, .int v2), (3, .int v3), (4, .int v4)]) rfl ?_
  refine g_aload_n (j := 0) C dX6_firstStart_0 rfl rfl ?_
  refine g_iload_n (j := 1) C dX6_firstStart_1 rfl rfl ?_
  refine g_vi (ws' := (zW cy ad shM E X)) (As := [.int v1]) (rest := []) (res := (f_X6_isHall X v1)) C (c_X6_isHall l D cy ad E X v1) zml_RX6_104 zcv_X6_isHall (zW_get X sM_0) rfl rfl rfl ⟨Nat.le_of_ble_eq_true rfl, Nat.le_of_ble_eq_true rfl⟩ rfl rfl (Nat.le_of_ble_eq_true rfl) ⟨Nat.zero_le _, Nat.zero_le _⟩ dX6_firstStart_2 ?_
  refine g_if_eq C dX6_firstStart_5 (tgt := 16) (by decide) (fun hc_1 => ?_) (fun hc_1 => ?_)
  · replace h := (if_pos hc_1).symm.trans h
    refine g_aload_n (j := 0) C dX6_firstStart_16 rfl rfl ?_
    refine g_iconst (v := (nI 1)) C dX6_firstStart_17 (by decide) ?_
    obtain ⟨q_2, e_3, h⟩ := zlet_ex h
    refine g_vi (ws' := (zW cy ad shM E q_2.2)) (As := [.int (nI 1)]) (rest := []) (res := q_2.1) C ((by rw [e_3]; exact c_X6_fails l D cy ad E X (nI 1))) zml_RX6_45 zcv_X6_fails (zW_get X sM_0) rfl rfl rfl ⟨Nat.le_of_ble_eq_true rfl, Nat.le_of_ble_eq_true rfl⟩ rfl rfl (Nat.le_of_ble_eq_true rfl) ⟨Nat.zero_le _, Nat.zero_le _⟩ dX6_firstStart_18 ?_
    obtain rfl := Option.some.inj h
    exact g_iret rfl C hr rfl dX6_firstStart_21
  · replace h := (if_neg hc_1).symm.trans h
    refine g_aload_n (j := 0) C dX6_firstStart_8 rfl rfl ?_
    refine g_iload_n (j := 2) C dX6_firstStart_9 rfl rfl ?_
    refine g_vi (ws' := (zW cy ad shM E X)) (As := [.int v2]) (rest := []) (res := (f_X6_isFilm X v2)) C (c_X6_isFilm l D cy ad E X v2) zml_RX6_78 zcv_X6_isFilm (zW_get X sM_0) rfl rfl rfl ⟨Nat.le_of_ble_eq_true rfl, Nat.le_of_ble_eq_true rfl⟩ rfl rfl (Nat.le_of_ble_eq_true rfl) ⟨Nat.zero_le _, Nat.zero_le _⟩ dX6_firstStart_10 ?_
    refine g_if_ne C dX6_firstStart_13 (tgt := 22) (by decide) (fun hc_4 => ?_) (fun hc_4 => ?_)
    · replace h := (if_neg hc_4).symm.trans h
      refine g_iload_n (j := 3) C dX6_firstStart_22 rfl rfl ?_
      refine g_iload (j := 4) C dX6_firstStart_23 rfl ?_
      refine g_si (ws' := (zW cy ad shM E X)) (As := [.int v3, .int v4]) (rest := []) (res := (f_X6_isPlace v3 v4)) C (c_X6_isPlace l D cy (zW cy ad shM E X) v3 v4) zml_RX6_192 zcs_X6_isPlace rfl rfl ⟨Nat.le_of_ble_eq_true rfl, Nat.le_of_ble_eq_true rfl⟩ rfl rfl (Nat.le_of_ble_eq_true rfl) ⟨Nat.zero_le _, Nat.zero_le _⟩ dX6_firstStart_25 ?_
      refine g_if_ne C dX6_firstStart_28 (tgt := 37) (by decide) (fun hc_5 => ?_) (fun hc_5 => ?_)
      · replace h := (if_neg hc_5).symm.trans h
        refine g_aload_n (j := 0) C dX6_firstStart_37 rfl rfl ?_
        refine g_aload_n (j := 0) C dX6_firstStart_38 rfl rfl ?_
        refine g_iload_n (j := 2) C dX6_firstStart_39 rfl rfl ?_
        refine g_iload_n (j := 3) C dX6_firstStart_40 rfl rfl ?_
        obtain ⟨q_6, hq_7, h⟩ := bind_isome h
        refine g_vi (ws' := (zW cy ad shM E X)) (As := [.int v2, .int v3]) (rest := [.ref (ad 0)]) (res := q_6) C (c_X6_bestReel l D cy ad E X v2 v3 hq_7) zml_RX6_130 zcv_X6_bestReel (zW_get X sM_0) rfl rfl rfl ⟨Nat.le_of_ble_eq_true rfl, Nat.le_of_ble_eq_true rfl⟩ rfl rfl (Nat.le_of_ble_eq_true rfl) ⟨Nat.zero_le _, Nat.zero_le _⟩ dX6_firstStart_41 ?_
        obtain ⟨q_8, hq_9, h⟩ := bind_isome h
        refine g_vi (ws' := (zW cy ad shM E X)) (As := [.int q_6]) (rest := []) (res := q_8) C (c_X6_lengthOf l D cy ad E X q_6 hq_9) zml_RX6_119 zcv_X6_lengthOf (zW_get X sM_0) rfl rfl rfl ⟨Nat.le_of_ble_eq_true rfl, Nat.le_of_ble_eq_true rfl⟩ rfl rfl (Nat.le_of_ble_eq_true rfl) ⟨Nat.zero_le _, Nat.zero_le _⟩ dX6_firstStart_44 ?_
        refine g_aload_n (j := 0) C dX6_firstStart_47 rfl rfl ?_
        refine g_iload_n (j := 2) C dX6_firstStart_48 rfl rfl ?_
        refine g_iconst (v := (nI 0)) C dX6_firstStart_49 (by decide) ?_
        obtain ⟨q_10, hq_11, h⟩ := bind_isome h
        refine g_vi (ws' := (zW cy ad shM E X)) (As := [.int v2, .int (nI 0)]) (rest := [.int q_8]) (res := q_10) C (c_X6_filmAt l D cy ad E X v2 (nI 0) hq_11) zml_RX6_81 zcv_X6_filmAt (zW_get X sM_0) rfl rfl rfl ⟨Nat.le_of_ble_eq_true rfl, Nat.le_of_ble_eq_true rfl⟩ rfl rfl (Nat.le_of_ble_eq_true rfl) ⟨Nat.zero_le _, Nat.zero_le _⟩ dX6_firstStart_50 ?_
        refine g_iadd C dX6_firstStart_53 ?_
        refine g_istore (L' := [(5, .int (q_8 + q_10)), (0, .ref (ad 0)), (1, .int v1), (2, .int v2), (3, .int v3), (4, .int v4)]) C dX6_firstStart_54 (by decide) rfl ?_
        refine g_iload (j := 5) C dX6_firstStart_56 rfl ?_
        refine g_istore (L' := [(6, .int v4), (5, .int (q_8 + q_10)), (0, .ref (ad 0)), (1, .int v1), (2, .int v2), (3, .int v3), (4, .int v4)]) C dX6_firstStart_58 (by decide) rfl ?_
        refine zG_sub (L' := [(0, .ref (ad 0)), (1, .int v1), (2, .int v2), (3, .int v3), (5, .int (q_8 + q_10)), (6, .int v4)]) [2, 3, 4, 5, 1, 0] rfl ?_
        refine w_X6_firstStart_L60 l D cy ad E _ _ v1 v2 v3 (q_8 + q_10) C hr zFuel X v4 h ?_ ?_
        · intro X_1017 v6_1016 h
          refine g_aload_n (j := 0) C dX6_firstStart_83 rfl rfl ?_
          refine g_iload (j := 1) C dX6_firstStart_84 rfl ?_
          obtain ⟨q_1018, e_1019, h⟩ := zlet_ex h
          refine g_vi (ws' := (zW cy ad shM E q_1018.2)) (As := [.int v6_1016]) (rest := []) (res := q_1018.1) C ((by rw [e_1019]; exact c_X6_done l D cy ad E X_1017 v6_1016)) zml_RX6_71 zcv_X6_done (zW_get X_1017 sM_0) rfl rfl rfl ⟨Nat.le_of_ble_eq_true rfl, Nat.le_of_ble_eq_true rfl⟩ rfl rfl (Nat.le_of_ble_eq_true rfl) ⟨Nat.zero_le _, Nat.zero_le _⟩ dX6_firstStart_86 ?_
          obtain rfl := Option.some.inj h
          exact g_iret rfl C hr rfl dX6_firstStart_89
        · intro X_1020 h
          refine g_aload_n (j := 0) C dX6_firstStart_96 rfl rfl ?_
          refine g_iconst (v := (nI 3)) C dX6_firstStart_97 (by decide) ?_
          obtain ⟨q_1021, e_1022, h⟩ := zlet_ex h
          refine g_vi (ws' := (zW cy ad shM E q_1021.2)) (As := [.int (nI 3)]) (rest := []) (res := q_1021.1) C ((by rw [e_1022]; exact c_X6_fails l D cy ad E X_1020 (nI 3))) zml_RX6_45 zcv_X6_fails (zW_get X_1020 sM_0) rfl rfl rfl ⟨Nat.le_of_ble_eq_true rfl, Nat.le_of_ble_eq_true rfl⟩ rfl rfl (Nat.le_of_ble_eq_true rfl) ⟨Nat.zero_le _, Nat.zero_le _⟩ dX6_firstStart_98 ?_
          obtain rfl := Option.some.inj h
          exact g_iret rfl C hr rfl dX6_firstStart_101
      · replace h := (if_pos hc_5).symm.trans h
        refine g_aload_n (j := 0) C dX6_firstStart_31 rfl rfl ?_
        refine g_iconst (v := (nI 2)) C dX6_firstStart_32 (by decide) ?_
        obtain ⟨q_1023, e_1024, h⟩ := zlet_ex h
        refine g_vi (ws' := (zW cy ad shM E q_1023.2)) (As := [.int (nI 2)]) (rest := []) (res := q_1023.1) C ((by rw [e_1024]; exact c_X6_fails l D cy ad E X (nI 2))) zml_RX6_45 zcv_X6_fails (zW_get X sM_0) rfl rfl rfl ⟨Nat.le_of_ble_eq_true rfl, Nat.le_of_ble_eq_true rfl⟩ rfl rfl (Nat.le_of_ble_eq_true rfl) ⟨Nat.zero_le _, Nat.zero_le _⟩ dX6_firstStart_33 ?_
        obtain rfl := Option.some.inj h
        exact g_iret rfl C hr rfl dX6_firstStart_36
    · replace h := (if_pos hc_4).symm.trans h
      refine g_aload_n (j := 0) C dX6_firstStart_16 rfl rfl ?_
      refine g_iconst (v := (nI 1)) C dX6_firstStart_17 (by decide) ?_
      obtain ⟨q_1025, e_1026, h⟩ := zlet_ex h
      refine g_vi (ws' := (zW cy ad shM E q_1025.2)) (As := [.int (nI 1)]) (rest := []) (res := q_1025.1) C ((by rw [e_1026]; exact c_X6_fails l D cy ad E X (nI 1))) zml_RX6_45 zcv_X6_fails (zW_get X sM_0) rfl rfl rfl ⟨Nat.le_of_ble_eq_true rfl, Nat.le_of_ble_eq_true rfl⟩ rfl rfl (Nat.le_of_ble_eq_true rfl) ⟨Nat.zero_le _, Nat.zero_le _⟩ dX6_firstStart_18 ?_
      obtain rfl := Option.some.inj h
      exact g_iret rfl C hr rfl dX6_firstStart_21
def f_X6_findsAt_L2 (k : (Nat → Nat → Int32) → Int32 → Option (Int32 × (Nat → Nat → Int32))) (v1 : Int32) (v2 : Int32) : Nat → (Nat → Nat → Int32) → Int32 → Option (Int32 × (Nat → Nat → Int32))
  | 0, _, _ => none
  | fu + 1, X, v3 => (if (X 1 (nI 1).toNatClampNeg) ≤ v3 then some ((nI 0), X) else (if (f_X6_in v2 (nI 0) (nI 959)) = 0 then some ((nI 0), X) else ((f_X6_showAt X v1 (nI 0)).bind fun q_1003 => (if v3 = q_1003 then f_X6_findsAt_L2 k v1 v2 fu X (v3 + 1) else ((f_X6_hallAt X v3 (nI 0)).bind fun q_1006 => ((f_X6_showAt X v1 (nI 7)).bind fun q_1008 => (if q_1006 < q_1008 then f_X6_findsAt_L2 k v1 v2 fu X (v3 + 1) else ((f_X6_showAt X v1 (nI 1)).bind fun q_1011 => ((f_X6_showAt X v1 (nI 2)).bind fun q_1013 => ((f_X6_minutesOf X v1).bind fun q_1015 => ((f_X6_breaks X v3 q_1011 q_1013 v2 q_1015 v1).bind fun q_1017 => (if q_1017.1 = 0 then k q_1017.2 v3 else f_X6_findsAt_L2 k v1 v2 fu q_1017.2 (v3 + 1)))))))))))))
set_option maxRecDepth 100000 in
set_option maxHeartbeats 4000000 in
theorem w_X6_findsAt_L2 {p : Program} {e : Env} {s : State} {m : MethodId} {args : Array Value} {below : List Frame} {meth : Method} {c : Code} {A : Nat → Prop} (l : Launch) (D : va_G) (cy : Nat → ClassId) (ad : Nat → Nat) (E : va_W) (k : (Nat → Nat → Int32) → Int32 → Option (Int32 × (Nat → Nat → Int32))) (v1 : Int32) (v2 : Int32) {res : Int32 × (Nat → Nat → Int32)} (C : zC p s m args meth c cX6_findsAt 5 RX6 D (zTy cy) A) (hr : meth.sig.returnType = (some .boolean)) : ∀ (fu : Nat) (X : Nat → Nat → Int32) (v3 : Int32) (h : f_X6_findsAt_L2 k v1 v2 fu X v3 = some res) (hk : ∀ (X : Nat → Nat → Int32) (v3 : Int32), k X v3 = some res → zG p l e (zrm 7) s m args below meth c 5 D A 0 0 (MQ below (va_Qi (fun (r : Int32) (_ : Unit) => r = res.1) (fun _ t => zB D (zTy cy) A (zW cy ad shM E res.2) t) A) args s 0 0 A) (zW cy ad shM E X) 88 [(0, .ref (ad 0)), (2, .int v2), (3, .int v3)] []), zG p l e (zrm 7) s m args below meth c 5 D A 0 0 (MQ below (va_Qi (fun (r : Int32) (_ : Unit) => r = res.1) (fun _ t => zB D (zTy cy) A (zW cy ad shM E res.2) t) A) args s 0 0 A) (zW cy ad shM E X) 2 [(0, .ref (ad 0)), (1, .int v1), (2, .int v2), (3, .int v3)] [] := by
  intro fu
  induction fu with
  | zero => intro X v3 h hk; simp [f_X6_findsAt_L2] at h
  | succ fu ih =>
    intro X v3 h hk
    rw [f_X6_findsAt_L2] at h
    refine g_iload_n (j := 3) C dX6_findsAt_2 rfl rfl ?_
    refine g_aload_n (j := 0) C dX6_findsAt_3 rfl rfl ?_
    refine g_getr (k := 1) (N := 27) C sM_0 rfl zin_RX6 (by decide) rfl zfl_RX6_9 rfl dX6_findsAt_4 ?_
    refine g_iconst (v := (nI 1)) C dX6_findsAt_7 (by decide) ?_
    refine g_iald C sM_1 (by decide) dX6_findsAt_8 ?_
    refine g_icmp_ge C dX6_findsAt_9 (tgt := 106) (by decide) (fun hc_1001 => ?_) (fun hc_1001 => ?_)
    · replace h := (if_pos hc_1001).symm.trans h
      refine g_iconst (v := (nI 0)) C dX6_findsAt_106 (by decide) ?_
      obtain rfl := Option.some.inj h
      exact g_iret rfl C hr (z_nb (Or.inl rfl)) dX6_findsAt_107
    · replace h := (if_neg hc_1001).symm.trans h
      refine g_iload_n (j := 2) C dX6_findsAt_12 rfl rfl ?_
      refine g_iconst (v := (nI 0)) C dX6_findsAt_13 (by decide) ?_
      refine g_sipush (v := (nI 959)) C dX6_findsAt_14 (by decide) ?_
      refine g_si (ws' := (zW cy ad shM E X)) (As := [.int v2, .int (nI 0), .int (nI 959)]) (rest := []) (res := (f_X6_in v2 (nI 0) (nI 959))) C (c_X6_in l D cy (zW cy ad shM E X) v2 (nI 0) (nI 959)) zml_RX6_64 zcs_X6_in rfl rfl ⟨Nat.le_of_ble_eq_true rfl, Nat.le_of_ble_eq_true rfl⟩ rfl rfl (Nat.le_of_ble_eq_true rfl) ⟨Nat.zero_le _, Nat.zero_le _⟩ dX6_findsAt_17 ?_
      refine g_if_eq C dX6_findsAt_20 (tgt := 106) (by decide) (fun hc_1002 => ?_) (fun hc_1002 => ?_)
      · replace h := (if_pos hc_1002).symm.trans h
        refine g_iconst (v := (nI 0)) C dX6_findsAt_106 (by decide) ?_
        obtain rfl := Option.some.inj h
        exact g_iret rfl C hr (z_nb (Or.inl rfl)) dX6_findsAt_107
      · replace h := (if_neg hc_1002).symm.trans h
        refine g_iload_n (j := 3) C dX6_findsAt_23 rfl rfl ?_
        refine g_aload_n (j := 0) C dX6_findsAt_24 rfl rfl ?_
        refine g_iload_n (j := 1) C dX6_findsAt_25 rfl rfl ?_
        refine g_iconst (v := (nI 0)) C dX6_findsAt_26 (by decide) ?_
        obtain ⟨q_1003, hq_1004, h⟩ := bind_isome h
        refine g_vi (ws' := (zW cy ad shM E X)) (As := [.int v1, .int (nI 0)]) (rest := [.int v3]) (res := q_1003) C (c_X6_showAt l D cy ad E X v1 (nI 0) hq_1004) zml_RX6_89 zcv_X6_showAt (zW_get X sM_0) rfl rfl rfl ⟨Nat.le_of_ble_eq_true rfl, Nat.le_of_ble_eq_true rfl⟩ rfl rfl (Nat.le_of_ble_eq_true rfl) ⟨Nat.zero_le _, Nat.zero_le _⟩ dX6_findsAt_27 ?_
        refine g_icmp_eq C dX6_findsAt_30 (tgt := 53) (by decide) (fun hc_1005 => ?_) (fun hc_1005 => ?_)
        · replace h := (if_pos hc_1005).symm.trans h
          refine g_iconst (v := (nI 0)) C dX6_findsAt_53 (by decide) ?_
          refine g_istore (L' := [(4, .int (nI 0)), (0, .ref (ad 0)), (1, .int v1), (2, .int v2), (3, .int v3)]) C dX6_findsAt_54 (by decide) rfl ?_
          refine g_iload (j := 0) C dX6_findsAt_56 rfl ?_
          refine g_if_eq C dX6_findsAt_58 (tgt := 100) (by decide) (fun _ => ?_) (fun h9 => absurd h9 (by decide))
          refine g_iinc (k := 4) (L' := [(3, .int (v3 + 1)), (4, .int (nI 0)), (0, .ref (ad 0)), (1, .int v1), (2, .int v2)]) C dX6_findsAt_100 rfl (z_iinc (by decide)) (by decide) rfl ?_
          refine g_goto C dX6_findsAt_103 (tgt := 2) (by decide) ?_
          refine zG_sub (L' := [(0, .ref (ad 0)), (1, .int v1), (2, .int v2), (3, .int (v3 + 1))]) [2, 3, 4, 0] rfl ?_
          exact ih X (v3 + 1) h hk
        · replace h := (if_neg hc_1005).symm.trans h
          refine g_aload_n (j := 0) C dX6_findsAt_33 rfl rfl ?_
          refine g_iload_n (j := 3) C dX6_findsAt_34 rfl rfl ?_
          refine g_iconst (v := (nI 0)) C dX6_findsAt_35 (by decide) ?_
          obtain ⟨q_1006, hq_1007, h⟩ := bind_isome h
          refine g_vi (ws' := (zW cy ad shM E X)) (As := [.int v3, .int (nI 0)]) (rest := []) (res := q_1006) C (c_X6_hallAt l D cy ad E X v3 (nI 0) hq_1007) zml_RX6_95 zcv_X6_hallAt (zW_get X sM_0) rfl rfl rfl ⟨Nat.le_of_ble_eq_true rfl, Nat.le_of_ble_eq_true rfl⟩ rfl rfl (Nat.le_of_ble_eq_true rfl) ⟨Nat.zero_le _, Nat.zero_le _⟩ dX6_findsAt_36 ?_
          refine g_aload_n (j := 0) C dX6_findsAt_39 rfl rfl ?_
          refine g_iload_n (j := 1) C dX6_findsAt_40 rfl rfl ?_
          refine g_bipush (v := (nI 7)) C dX6_findsAt_41 (by decide) ?_
          obtain ⟨q_1008, hq_1009, h⟩ := bind_isome h
          refine g_vi (ws' := (zW cy ad shM E X)) (As := [.int v1, .int (nI 7)]) (rest := [.int q_1006]) (res := q_1008) C (c_X6_showAt l D cy ad E X v1 (nI 7) hq_1009) zml_RX6_89 zcv_X6_showAt (zW_get X sM_0) rfl rfl rfl ⟨Nat.le_of_ble_eq_true rfl, Nat.le_of_ble_eq_true rfl⟩ rfl rfl (Nat.le_of_ble_eq_true rfl) ⟨Nat.zero_le _, Nat.zero_le _⟩ dX6_findsAt_43 ?_
          refine g_icmp_lt C dX6_findsAt_46 (tgt := 53) (by decide) (fun hc_1010 => ?_) (fun hc_1010 => ?_)
          · replace h := (if_pos hc_1010).symm.trans h
            refine g_iconst (v := (nI 0)) C dX6_findsAt_53 (by decide) ?_
            refine g_istore (L' := [(4, .int (nI 0)), (0, .ref (ad 0)), (1, .int v1), (2, .int v2), (3, .int v3)]) C dX6_findsAt_54 (by decide) rfl ?_
            refine g_iload (j := 0) C dX6_findsAt_56 rfl ?_
            refine g_if_eq C dX6_findsAt_58 (tgt := 100) (by decide) (fun _ => ?_) (fun h9 => absurd h9 (by decide))
            refine g_iinc (k := 4) (L' := [(3, .int (v3 + 1)), (4, .int (nI 0)), (0, .ref (ad 0)), (1, .int v1), (2, .int v2)]) C dX6_findsAt_100 rfl (z_iinc (by decide)) (by decide) rfl ?_
            refine g_goto C dX6_findsAt_103 (tgt := 2) (by decide) ?_
            refine zG_sub (L' := [(0, .ref (ad 0)), (1, .int v1), (2, .int v2), (3, .int (v3 + 1))]) [2, 3, 4, 0] rfl ?_
            exact ih X (v3 + 1) h hk
          · replace h := (if_neg hc_1010).symm.trans h
            refine g_iconst (v := (nI 1)) C dX6_findsAt_49 (by decide) ?_
            refine g_goto C dX6_findsAt_50 (tgt := 54) (by decide) ?_
            refine g_istore (L' := [(4, .int (nI 1)), (0, .ref (ad 0)), (1, .int v1), (2, .int v2), (3, .int v3)]) C dX6_findsAt_54 (by decide) rfl ?_
            refine g_iload (j := 0) C dX6_findsAt_56 rfl ?_
            refine g_if_eq C dX6_findsAt_58 (tgt := 100) (by decide) (fun h9 => absurd h9 (by decide)) (fun _ => ?_)
            refine g_aload_n (j := 1) C dX6_findsAt_61 rfl rfl ?_
            refine g_iload_n (j := 4) C dX6_findsAt_62 rfl rfl ?_
            refine g_aload_n (j := 1) C dX6_findsAt_63 rfl rfl ?_
            refine g_iload_n (j := 2) C dX6_findsAt_64 rfl rfl ?_
            refine g_iconst (v := (nI 1)) C dX6_findsAt_65 (by decide) ?_
            obtain ⟨q_1011, hq_1012, h⟩ := bind_isome h
            refine g_vi (ws' := (zW cy ad shM E X)) (As := [.int v1, .int (nI 1)]) (rest := [.int v3, .ref (ad 0)]) (res := q_1011) C (c_X6_showAt l D cy ad E X v1 (nI 1) hq_1012) zml_RX6_89 zcv_X6_showAt (zW_get X sM_0) rfl rfl rfl ⟨Nat.le_of_ble_eq_true rfl, Nat.le_of_ble_eq_true rfl⟩ rfl rfl (Nat.le_of_ble_eq_true rfl) ⟨Nat.zero_le _, Nat.zero_le _⟩ dX6_findsAt_66 ?_
            refine g_aload_n (j := 1) C dX6_findsAt_69 rfl rfl ?_
            refine g_iload_n (j := 2) C dX6_findsAt_70 rfl rfl ?_
            refine g_iconst (v := (nI 2)) C dX6_findsAt_71 (by decide) ?_
            obtain ⟨q_1013, hq_1014, h⟩ := bind_isome h
            refine g_vi (ws' := (zW cy ad shM E X)) (As := [.int v1, .int (nI 2)]) (rest := [.int q_1011, .int v3, .ref (ad 0)]) (res := q_1013) C (c_X6_showAt l D cy ad E X v1 (nI 2) hq_1014) zml_RX6_89 zcv_X6_showAt (zW_get X sM_0) rfl rfl rfl ⟨Nat.le_of_ble_eq_true rfl, Nat.le_of_ble_eq_true rfl⟩ rfl rfl (Nat.le_of_ble_eq_true rfl) ⟨Nat.zero_le _, Nat.zero_le _⟩ dX6_findsAt_72 ?_
            refine g_iload_n (j := 3) C dX6_findsAt_75 rfl rfl ?_
            refine g_aload_n (j := 1) C dX6_findsAt_76 rfl rfl ?_
            refine g_iload_n (j := 2) C dX6_findsAt_77 rfl rfl ?_
            obtain ⟨q_1015, hq_1016, h⟩ := bind_isome h
            refine g_vi (ws' := (zW cy ad shM E X)) (As := [.int v1]) (rest := [.int v2, .int q_1013, .int q_1011, .int v3, .ref (ad 0)]) (res := q_1015) C (c_X6_minutesOf l D cy ad E X v1 hq_1016) zml_RX6_92 zcv_X6_minutesOf (zW_get X sM_0) rfl rfl rfl ⟨Nat.le_of_ble_eq_true rfl, Nat.le_of_ble_eq_true rfl⟩ rfl rfl (Nat.le_of_ble_eq_true rfl) ⟨Nat.zero_le _, Nat.zero_le _⟩ dX6_findsAt_78 ?_
            refine g_iload_n (j := 2) C dX6_findsAt_81 rfl rfl ?_
            obtain ⟨q_1017, hq_1018, h⟩ := bind_isome h
            refine g_vi (ws' := (zW cy ad shM E q_1017.2)) (As := [.int v3, .int q_1011, .int q_1013, .int v2, .int q_1015, .int v1]) (rest := []) (res := q_1017.1) C (c_X6_breaks l D cy ad E X v3 q_1011 q_1013 v2 q_1015 v1 hq_1018) zml_RX6_188 zcv_X6_breaks (zW_get X sM_0) rfl rfl rfl ⟨Nat.le_of_ble_eq_true rfl, Nat.le_of_ble_eq_true rfl⟩ rfl rfl (Nat.le_of_ble_eq_true rfl) ⟨Nat.zero_le _, Nat.zero_le _⟩ dX6_findsAt_82 ?_
            refine g_if_ne C dX6_findsAt_85 (tgt := 100) (by decide) (fun hc_1019 => ?_) (fun hc_1019 => ?_)
            · replace h := (if_neg hc_1019).symm.trans h
              refine g_iinc (k := 4) (L' := [(3, .int (v3 + 1)), (4, .int (nI 1)), (0, .ref (ad 0)), (1, .int v1), (2, .int v2)]) C dX6_findsAt_100 rfl (z_iinc (by decide)) (by decide) rfl ?_
              refine g_goto C dX6_findsAt_103 (tgt := 2) (by decide) ?_
              refine zG_sub (L' := [(0, .ref (ad 0)), (1, .int v1), (2, .int v2), (3, .int (v3 + 1))]) [2, 3, 4, 0] rfl ?_
              exact ih q_1017.2 (v3 + 1) h hk
            · replace h := (if_pos hc_1019).symm.trans h
              refine zG_sub (L' := [(0, .ref (ad 0)), (2, .int v2), (3, .int v3)]) [1, 3, 4] rfl ?_
              exact hk q_1017.2 v3 h
def f_X6_findsAt (X : Nat → Nat → Int32) (v1 v2 : Int32) : Option (Int32 × (Nat → Nat → Int32)) := f_X6_findsAt_L2 (fun X_1021 v3_1020 => (zlet (zU X_1021 0 22 v3_1020) fun X_1022 => (zlet (zU X_1022 0 23 v2) fun X_1024 => some ((nI 1), X_1024)))) v1 v2 zFuel X (nI 0)
set_option maxRecDepth 100000 in
set_option maxHeartbeats 4000000 in
theorem c_X6_findsAt (l : Launch) (D : va_G) (cy : Nat → ClassId) (ad : Nat → Nat) (E : va_W) (X : Nat → Nat → Int32) (v1 v2 : Int32) {res : Int32 × (Nat → Nat → Int32)} (h : f_X6_findsAt X v1 v2 = some res) : zMi l yX6_findsAt cX6_findsAt 5 (some .boolean) (zrm 7) D (zTy cy) (zW cy ad shM E X) [.ref (ad 0), .int v1, .int v2] res.1 (zW cy ad shM E res.2) := by
  refine zMi.of (by decide) (Nat.le_of_ble_eq_true rfl) ?_
  intro p e s m below meth c A C hr
  unfold f_X6_findsAt at h
  refine zG_L (L' := [(0, .ref (ad 0)), (1, .int v1), (2, .int v2)]) rfl ?_
  refine g_iconst (v := (nI 0)) C dX6_findsAt_0 (by decide) ?_
  refine g_istore_n (L' := [(3, .int (nI 0)), (0, .ref (ad 0)), (1, .int v1), (2, .int v2)]) C dX6_findsAt_1 rfl (by decide) rfl ?_
  refine zG_sub (L' := [(0, .ref (ad 0)), (1, .int v1), (2, .int v2), (3, .int (nI 0))]) [1, 2, 3, 0] rfl ?_
  refine w_X6_findsAt_L2 l D cy ad E _ v1 v2 C hr zFuel X (nI 0) h ?_
  intro X_1021 v3_1020 h
  refine g_aload_n (j := 0) C dX6_findsAt_88 rfl rfl ?_
  refine g_iload_n (j := 2) C dX6_findsAt_89 rfl rfl ?_
  refine g_puti (k := 22) (N := 27) (ty := .int) C sM_0 rfl zin_RX6 (by decide) rfl zfl_RX6_212 rfl tyX6_ok nmX6 rfl (by decide +kernel) rfl rfl dX6_findsAt_90 ?_
  obtain ⟨X_1022, e_1023, h⟩ := zlet_ex h
  rw [← e_1023]
  refine g_aload_n (j := 0) C dX6_findsAt_93 rfl rfl ?_
  refine g_iload_n (j := 1) C dX6_findsAt_94 rfl rfl ?_
  refine g_puti (k := 23) (N := 27) (ty := .int) C sM_0 rfl zin_RX6 (by decide) rfl zfl_RX6_215 rfl tyX6_ok nmX6 rfl (by decide +kernel) rfl rfl dX6_findsAt_95 ?_
  obtain ⟨X_1024, e_1025, h⟩ := zlet_ex h
  rw [← e_1025]
  refine g_iconst (v := (nI 1)) C dX6_findsAt_98 (by decide) ?_
  obtain rfl := Option.some.inj h
  exact g_iret rfl C hr (z_nb (Or.inr rfl)) dX6_findsAt_99
def f_X6_findsPlace_L12 (v1 : Int32) (v2 : Int32) : Nat → (Nat → Nat → Int32) → Int32 → Int32 → Option (Int32 × (Nat → Nat → Int32))
  | 0, _, _, _ => none
  | fu + 1, X, v3, v4 => (if (X 1 (nI 12).toNatClampNeg) < v4 then (if ¬ (v3 = 0 ∨ v3 = 1) then none else some (v3, X)) else (if v3 = 0 then ((f_X6_findsAt X v1 (v2 - v4)).bind fun q_1007 => (if q_1007.1 = 0 then ((f_X6_findsAt q_1007.2 v1 (v2 + v4)).bind fun q_1010 => (if q_1010.1 = 0 then f_X6_findsPlace_L12 v1 v2 fu q_1010.2 (nI 0) (v4 + 1) else f_X6_findsPlace_L12 v1 v2 fu q_1010.2 (nI 1) (v4 + 1))) else f_X6_findsPlace_L12 v1 v2 fu q_1007.2 (nI 1) (v4 + 1))) else (if ¬ (v3 = 0 ∨ v3 = 1) then none else some (v3, X))))
set_option maxRecDepth 100000 in
set_option maxHeartbeats 4000000 in
theorem w_X6_findsPlace_L12 {p : Program} {e : Env} {s : State} {m : MethodId} {args : Array Value} {below : List Frame} {meth : Method} {c : Code} {A : Nat → Prop} (l : Launch) (D : va_G) (cy : Nat → ClassId) (ad : Nat → Nat) (E : va_W) (v1 : Int32) (v2 : Int32) {res : Int32 × (Nat → Nat → Int32)} (C : zC p s m args meth c cX6_findsPlace 5 RX6 D (zTy cy) A) (hr : meth.sig.returnType = (some .boolean)) : ∀ (fu : Nat) (X : Nat → Nat → Int32) (v3 v4 : Int32) (h : f_X6_findsPlace_L12 v1 v2 fu X v3 v4 = some res), zG p l e (zrm 8) s m args below meth c 5 D A 0 0 (MQ below (va_Qi (fun (r : Int32) (_ : Unit) => r = res.1) (fun _ t => zB D (zTy cy) A (zW cy ad shM E res.2) t) A) args s 0 0 A) (zW cy ad shM E X) 12 [(0, .ref (ad 0)), (1, .int v1), (2, .int v2), (3, .int v3), (4, .int v4)] [] := by
  intro fu
  induction fu with
  | zero => intro X v3 v4 h; simp [f_X6_findsPlace_L12] at h
  | succ fu ih =>
    intro X v3 v4 h
    rw [f_X6_findsPlace_L12] at h
    refine g_iload (j := 4) C dX6_findsPlace_12 rfl ?_
    refine g_aload_n (j := 0) C dX6_findsPlace_14 rfl rfl ?_
    refine g_getr (k := 1) (N := 27) C sM_0 rfl zin_RX6 (by decide) rfl zfl_RX6_9 rfl dX6_findsPlace_15 ?_
    refine g_bipush (v := (nI 12)) C dX6_findsPlace_18 (by decide) ?_
    refine g_iald C sM_1 (by decide) dX6_findsPlace_20 ?_
    refine g_icmp_gt C dX6_findsPlace_21 (tgt := 64) (by decide) (fun hc_1003 => ?_) (fun hc_1003 => ?_)
    · replace h := (if_pos hc_1003).symm.trans h
      refine g_iload_n (j := 3) C dX6_findsPlace_64 rfl rfl ?_
      obtain ⟨hg_1004, h⟩ := ite_inone h
      obtain rfl := Option.some.inj h
      exact g_iret rfl C hr (z_nb (Decidable.not_not.mp hg_1004)) dX6_findsPlace_65
    · replace h := (if_neg hc_1003).symm.trans h
      refine g_iload_n (j := 3) C dX6_findsPlace_24 rfl rfl ?_
      refine g_if_ne C dX6_findsPlace_25 (tgt := 64) (by decide) (fun hc_1005 => ?_) (fun hc_1005 => ?_)
      · replace h := (if_neg hc_1005).symm.trans h
        refine g_iload_n (j := 3) C dX6_findsPlace_64 rfl rfl ?_
        obtain ⟨hg_1006, h⟩ := ite_inone h
        obtain rfl := Option.some.inj h
        exact g_iret rfl C hr (z_nb (Decidable.not_not.mp hg_1006)) dX6_findsPlace_65
      · replace h := (if_pos hc_1005).symm.trans h
        refine g_aload_n (j := 0) C dX6_findsPlace_28 rfl rfl ?_
        refine g_iload_n (j := 1) C dX6_findsPlace_29 rfl rfl ?_
        refine g_iload_n (j := 2) C dX6_findsPlace_30 rfl rfl ?_
        refine g_iload (j := 4) C dX6_findsPlace_31 rfl ?_
        refine g_isub C dX6_findsPlace_33 ?_
        obtain ⟨q_1007, hq_1008, h⟩ := bind_isome h
        refine g_vi (ws' := (zW cy ad shM E q_1007.2)) (As := [.int v1, .int (v2 - v4)]) (rest := []) (res := q_1007.1) C (c_X6_findsAt l D cy ad E X v1 (v2 - v4) hq_1008) zml_RX6_218 zcv_X6_findsAt (zW_get X sM_0) rfl rfl rfl ⟨Nat.le_of_ble_eq_true rfl, Nat.le_of_ble_eq_true rfl⟩ rfl rfl (Nat.le_of_ble_eq_true rfl) ⟨Nat.zero_le _, Nat.zero_le _⟩ dX6_findsPlace_34 ?_
        refine g_if_ne C dX6_findsPlace_37 (tgt := 52) (by decide) (fun hc_1009 => ?_) (fun hc_1009 => ?_)
        · replace h := (if_neg hc_1009).symm.trans h
          refine g_iconst (v := (nI 1)) C dX6_findsPlace_52 (by decide) ?_
          refine g_goto C dX6_findsPlace_53 (tgt := 57) (by decide) ?_
          refine g_istore_n (L' := [(3, .int (nI 1)), (0, .ref (ad 0)), (1, .int v1), (2, .int v2), (4, .int v4)]) C dX6_findsPlace_57 rfl (by decide) rfl ?_
          refine g_iinc (k := 4) (L' := [(4, .int (v4 + 1)), (3, .int (nI 1)), (0, .ref (ad 0)), (1, .int v1), (2, .int v2)]) C dX6_findsPlace_58 rfl (z_iinc (by decide)) (by decide) rfl ?_
          refine g_goto C dX6_findsPlace_61 (tgt := 12) (by decide) ?_
          refine zG_sub (L' := [(0, .ref (ad 0)), (1, .int v1), (2, .int v2), (3, .int (nI 1)), (4, .int (v4 + 1))]) [2, 3, 4, 1, 0] rfl ?_
          exact ih q_1007.2 (nI 1) (v4 + 1) h
        · replace h := (if_pos hc_1009).symm.trans h
          refine g_aload_n (j := 0) C dX6_findsPlace_40 rfl rfl ?_
          refine g_iload_n (j := 1) C dX6_findsPlace_41 rfl rfl ?_
          refine g_iload_n (j := 2) C dX6_findsPlace_42 rfl rfl ?_
          refine g_iload (j := 4) C dX6_findsPlace_43 rfl ?_
          refine g_iadd C dX6_findsPlace_45 ?_
          obtain ⟨q_1010, hq_1011, h⟩ := bind_isome h
          refine g_vi (ws' := (zW cy ad shM E q_1010.2)) (As := [.int v1, .int (v2 + v4)]) (rest := []) (res := q_1010.1) C (c_X6_findsAt l D cy ad E q_1007.2 v1 (v2 + v4) hq_1011) zml_RX6_218 zcv_X6_findsAt (zW_get q_1007.2 sM_0) rfl rfl rfl ⟨Nat.le_of_ble_eq_true rfl, Nat.le_of_ble_eq_true rfl⟩ rfl rfl (Nat.le_of_ble_eq_true rfl) ⟨Nat.zero_le _, Nat.zero_le _⟩ dX6_findsPlace_46 ?_
          refine g_if_eq C dX6_findsPlace_49 (tgt := 56) (by decide) (fun hc_1012 => ?_) (fun hc_1012 => ?_)
          · replace h := (if_pos hc_1012).symm.trans h
            refine g_iconst (v := (nI 0)) C dX6_findsPlace_56 (by decide) ?_
            refine g_istore_n (L' := [(3, .int (nI 0)), (0, .ref (ad 0)), (1, .int v1), (2, .int v2), (4, .int v4)]) C dX6_findsPlace_57 rfl (by decide) rfl ?_
            refine g_iinc (k := 4) (L' := [(4, .int (v4 + 1)), (3, .int (nI 0)), (0, .ref (ad 0)), (1, .int v1), (2, .int v2)]) C dX6_findsPlace_58 rfl (z_iinc (by decide)) (by decide) rfl ?_
            refine g_goto C dX6_findsPlace_61 (tgt := 12) (by decide) ?_
            refine zG_sub (L' := [(0, .ref (ad 0)), (1, .int v1), (2, .int v2), (3, .int (nI 0)), (4, .int (v4 + 1))]) [2, 3, 4, 1, 0] rfl ?_
            exact ih q_1010.2 (nI 0) (v4 + 1) h
          · replace h := (if_neg hc_1012).symm.trans h
            refine g_iconst (v := (nI 1)) C dX6_findsPlace_52 (by decide) ?_
            refine g_goto C dX6_findsPlace_53 (tgt := 57) (by decide) ?_
            refine g_istore_n (L' := [(3, .int (nI 1)), (0, .ref (ad 0)), (1, .int v1), (2, .int v2), (4, .int v4)]) C dX6_findsPlace_57 rfl (by decide) rfl ?_
            refine g_iinc (k := 4) (L' := [(4, .int (v4 + 1)), (3, .int (nI 1)), (0, .ref (ad 0)), (1, .int v1), (2, .int v2)]) C dX6_findsPlace_58 rfl (z_iinc (by decide)) (by decide) rfl ?_
            refine g_goto C dX6_findsPlace_61 (tgt := 12) (by decide) ?_
            refine zG_sub (L' := [(0, .ref (ad 0)), (1, .int v1), (2, .int v2), (3, .int (nI 1)), (4, .int (v4 + 1))]) [2, 3, 4, 1, 0] rfl ?_
            exact ih q_1010.2 (nI 1) (v4 + 1) h
def f_X6_findsPlace (X : Nat → Nat → Int32) (v1 : Int32) : Option (Int32 × (Nat → Nat → Int32)) := ((f_X6_showAt X v1 (nI 3)).bind fun q_1 => f_X6_findsPlace_L12 v1 q_1 zFuel X (nI 0) (nI 0))
set_option maxRecDepth 100000 in
set_option maxHeartbeats 4000000 in
theorem c_X6_findsPlace (l : Launch) (D : va_G) (cy : Nat → ClassId) (ad : Nat → Nat) (E : va_W) (X : Nat → Nat → Int32) (v1 : Int32) {res : Int32 × (Nat → Nat → Int32)} (h : f_X6_findsPlace X v1 = some res) : zMi l yX6_findsPlace cX6_findsPlace 5 (some .boolean) (zrm 8) D (zTy cy) (zW cy ad shM E X) [.ref (ad 0), .int v1] res.1 (zW cy ad shM E res.2) := by
  refine zMi.of (by decide) (Nat.le_of_ble_eq_true rfl) ?_
  intro p e s m below meth c A C hr
  unfold f_X6_findsPlace at h
  refine zG_L (L' := [(0, .ref (ad 0)), (1, .int v1)]) rfl ?_
  refine g_aload_n (j := 0) C dX6_findsPlace_0 rfl rfl ?_
  refine g_iload_n (j := 1) C dX6_findsPlace_1 rfl rfl ?_
  refine g_iconst (v := (nI 3)) C dX6_findsPlace_2 (by decide) ?_
  obtain ⟨q_1, hq_2, h⟩ := bind_isome h
  refine g_vi (ws' := (zW cy ad shM E X)) (As := [.int v1, .int (nI 3)]) (rest := []) (res := q_1) C (c_X6_showAt l D cy ad E X v1 (nI 3) hq_2) zml_RX6_89 zcv_X6_showAt (zW_get X sM_0) rfl rfl rfl ⟨Nat.le_of_ble_eq_true rfl, Nat.le_of_ble_eq_true rfl⟩ rfl rfl (Nat.le_of_ble_eq_true rfl) ⟨Nat.zero_le _, Nat.zero_le _⟩ dX6_findsPlace_3 ?_
  refine g_istore_n (L' := [(2, .int q_1), (0, .ref (ad 0)), (1, .int v1)]) C dX6_findsPlace_6 rfl (by decide) rfl ?_
  refine g_iconst (v := (nI 0)) C dX6_findsPlace_7 (by decide) ?_
  refine g_istore_n (L' := [(3, .int (nI 0)), (2, .int q_1), (0, .ref (ad 0)), (1, .int v1)]) C dX6_findsPlace_8 rfl (by decide) rfl ?_
  refine g_iconst (v := (nI 0)) C dX6_findsPlace_9 (by decide) ?_
  refine g_istore (L' := [(4, .int (nI 0)), (3, .int (nI 0)), (2, .int q_1), (0, .ref (ad 0)), (1, .int v1)]) C dX6_findsPlace_10 (by decide) rfl ?_
  refine zG_sub (L' := [(0, .ref (ad 0)), (1, .int v1), (2, .int q_1), (3, .int (nI 0)), (4, .int (nI 0))]) [3, 4, 2, 1, 0] rfl ?_
  exact w_X6_findsPlace_L12 l D cy ad E v1 q_1 C hr zFuel X (nI 0) (nI 0) h
def f_X6_nextOut_L4 (X : Nat → Nat → Int32) : Nat → Int32 → Int32 → Option Int32
  | 0, _, _ => none
  | fu + 1, v1, v2 => (if (X 1 (nI 4).toNatClampNeg) ≤ v2 then some v1 else ((f_X6_showAt X v2 (nI 8)).bind fun q_1002 => (if q_1002 = (nI 2) then (if v1 = (-1 : Int32) then f_X6_nextOut_L4 X fu v2 (v2 + 1) else ((f_X6_showAt X v2 (nI 2)).bind fun q_1006 => ((f_X6_showAt X v1 (nI 2)).bind fun q_1008 => (if q_1006 < q_1008 then f_X6_nextOut_L4 X fu v2 (v2 + 1) else ((f_X6_showAt X v2 (nI 2)).bind fun q_1011 => ((f_X6_showAt X v1 (nI 2)).bind fun q_1013 => (if q_1011 = q_1013 then ((f_X6_showAt X v2 (nI 3)).bind fun q_1016 => ((f_X6_showAt X v1 (nI 3)).bind fun q_1018 => (if q_1018 ≤ q_1016 then f_X6_nextOut_L4 X fu v1 (v2 + 1) else f_X6_nextOut_L4 X fu v2 (v2 + 1)))) else f_X6_nextOut_L4 X fu v1 (v2 + 1)))))))) else f_X6_nextOut_L4 X fu v1 (v2 + 1))))
set_option maxRecDepth 100000 in
set_option maxHeartbeats 4000000 in
theorem w_X6_nextOut_L4 {p : Program} {e : Env} {s : State} {m : MethodId} {args : Array Value} {below : List Frame} {meth : Method} {c : Code} {A : Nat → Prop} (l : Launch) (D : va_G) (cy : Nat → ClassId) (ad : Nat → Nat) (E : va_W) (X : Nat → Nat → Int32) {res : Int32} (C : zC p s m args meth c cX6_nextOut 5 RX6 D (zTy cy) A) (hr : meth.sig.returnType = (some .int)) : ∀ (fu : Nat) (v1 v2 : Int32) (h : f_X6_nextOut_L4 X fu v1 v2 = some res), zG p l e (zrm 2) s m args below meth c 5 D A 0 0 (MQ below (va_Qi (fun (r : Int32) (_ : Unit) => r = res) (fun _ t => zB D (zTy cy) A (zW cy ad shM E X) t) A) args s 0 0 A) (zW cy ad shM E X) 4 [(0, .ref (ad 0)), (1, .int v1), (2, .int v2)] [] := by
  intro fu
  induction fu with
  | zero => intro v1 v2 h; simp [f_X6_nextOut_L4] at h
  | succ fu ih =>
    intro v1 v2 h
    rw [f_X6_nextOut_L4] at h
    refine g_iload_n (j := 2) C dX6_nextOut_4 rfl rfl ?_
    refine g_aload_n (j := 0) C dX6_nextOut_5 rfl rfl ?_
    refine g_getr (k := 1) (N := 27) C sM_0 rfl zin_RX6 (by decide) rfl zfl_RX6_9 rfl dX6_nextOut_6 ?_
    refine g_iconst (v := (nI 4)) C dX6_nextOut_9 (by decide) ?_
    refine g_iald C sM_1 (by decide) dX6_nextOut_10 ?_
    refine g_icmp_ge C dX6_nextOut_11 (tgt := 109) (by decide) (fun hc_1001 => ?_) (fun hc_1001 => ?_)
    · replace h := (if_pos hc_1001).symm.trans h
      refine g_iload_n (j := 1) C dX6_nextOut_109 rfl rfl ?_
      obtain rfl := Option.some.inj h
      exact g_iret rfl C hr rfl dX6_nextOut_110
    · replace h := (if_neg hc_1001).symm.trans h
      refine g_aload_n (j := 0) C dX6_nextOut_14 rfl rfl ?_
      refine g_iload_n (j := 2) C dX6_nextOut_15 rfl rfl ?_
      refine g_bipush (v := (nI 8)) C dX6_nextOut_16 (by decide) ?_
      obtain ⟨q_1002, hq_1003, h⟩ := bind_isome h
      refine g_vi (ws' := (zW cy ad shM E X)) (As := [.int v2, .int (nI 8)]) (rest := []) (res := q_1002) C (c_X6_showAt l D cy ad E X v2 (nI 8) hq_1003) zml_RX6_89 zcv_X6_showAt (zW_get X sM_0) rfl rfl rfl ⟨Nat.le_of_ble_eq_true rfl, Nat.le_of_ble_eq_true rfl⟩ rfl rfl (Nat.le_of_ble_eq_true rfl) ⟨Nat.zero_le _, Nat.zero_le _⟩ dX6_nextOut_18 ?_
      refine g_iconst (v := (nI 2)) C dX6_nextOut_21 (by decide) ?_
      refine g_icmp_ne C dX6_nextOut_22 (tgt := 29) (by decide) (fun hc_1004 => ?_) (fun hc_1004 => ?_)
      · replace h := (if_neg hc_1004).symm.trans h
        refine g_iconst (v := (nI 0)) C dX6_nextOut_29 (by decide) ?_
        refine g_istore_n (L' := [(3, .int (nI 0)), (0, .ref (ad 0)), (1, .int v1), (2, .int v2)]) C dX6_nextOut_30 rfl (by decide) rfl ?_
        refine g_iload_n (j := 0) C dX6_nextOut_31 rfl rfl ?_
        refine g_if_eq C dX6_nextOut_32 (tgt := 89) (by decide) (fun _ => ?_) (fun h9 => absurd h9 (by decide))
        refine g_iconst (v := (nI 0)) C dX6_nextOut_89 (by decide) ?_
        refine g_istore (L' := [(4, .int (nI 0)), (3, .int (nI 0)), (0, .ref (ad 0)), (1, .int v1), (2, .int v2)]) C dX6_nextOut_90 (by decide) rfl ?_
        refine g_iload (j := 0) C dX6_nextOut_92 rfl ?_
        refine g_if_eq C dX6_nextOut_94 (tgt := 101) (by decide) (fun _ => ?_) (fun h9 => absurd h9 (by decide))
        refine g_iload_n (j := 3) C dX6_nextOut_101 rfl rfl ?_
        refine g_istore_n (L' := [(1, .int v1), (4, .int (nI 0)), (3, .int (nI 0)), (0, .ref (ad 0)), (2, .int v2)]) C dX6_nextOut_102 rfl (by decide) rfl ?_
        refine g_iinc (k := 4) (L' := [(2, .int (v2 + 1)), (1, .int v1), (4, .int (nI 0)), (3, .int (nI 0)), (0, .ref (ad 0))]) C dX6_nextOut_103 rfl (z_iinc (by decide)) (by decide) rfl ?_
        refine g_goto C dX6_nextOut_106 (tgt := 4) (by decide) ?_
        refine zG_sub (L' := [(0, .ref (ad 0)), (1, .int v1), (2, .int (v2 + 1))]) [4, 1, 0] rfl ?_
        exact ih v1 (v2 + 1) h
      · replace h := (if_pos hc_1004).symm.trans h
        refine g_iconst (v := (nI 1)) C dX6_nextOut_25 (by decide) ?_
        refine g_goto C dX6_nextOut_26 (tgt := 30) (by decide) ?_
        refine g_istore_n (L' := [(3, .int (nI 1)), (0, .ref (ad 0)), (1, .int v1), (2, .int v2)]) C dX6_nextOut_30 rfl (by decide) rfl ?_
        refine g_iload_n (j := 0) C dX6_nextOut_31 rfl rfl ?_
        refine g_if_eq C dX6_nextOut_32 (tgt := 89) (by decide) (fun h9 => absurd h9 (by decide)) (fun _ => ?_)
        refine g_iload_n (j := 2) C dX6_nextOut_35 rfl rfl ?_
        refine g_iconst (v := (-1 : Int32)) C dX6_nextOut_36 (by decide) ?_
        refine g_icmp_eq C dX6_nextOut_37 (tgt := 85) (by decide) (fun hc_1005 => ?_) (fun hc_1005 => ?_)
        · replace h := (if_pos hc_1005).symm.trans h
          refine g_iconst (v := (nI 1)) C dX6_nextOut_85 (by decide) ?_
          refine g_goto C dX6_nextOut_86 (tgt := 90) (by decide) ?_
          refine g_istore (L' := [(4, .int (nI 1)), (3, .int (nI 1)), (0, .ref (ad 0)), (1, .int v1), (2, .int v2)]) C dX6_nextOut_90 (by decide) rfl ?_
          refine g_iload (j := 0) C dX6_nextOut_92 rfl ?_
          refine g_if_eq C dX6_nextOut_94 (tgt := 101) (by decide) (fun h9 => absurd h9 (by decide)) (fun _ => ?_)
          refine g_iload_n (j := 4) C dX6_nextOut_97 rfl rfl ?_
          refine g_goto C dX6_nextOut_98 (tgt := 102) (by decide) ?_
          refine g_istore_n (L' := [(1, .int v2), (4, .int (nI 1)), (3, .int (nI 1)), (0, .ref (ad 0)), (2, .int v2)]) C dX6_nextOut_102 rfl (by decide) rfl ?_
          refine g_iinc (k := 4) (L' := [(2, .int (v2 + 1)), (1, .int v2), (4, .int (nI 1)), (3, .int (nI 1)), (0, .ref (ad 0))]) C dX6_nextOut_103 rfl (z_iinc (by decide)) (by decide) rfl ?_
          refine g_goto C dX6_nextOut_106 (tgt := 4) (by decide) ?_
          refine zG_sub (L' := [(0, .ref (ad 0)), (1, .int v2), (2, .int (v2 + 1))]) [4, 1, 0] rfl ?_
          exact ih v2 (v2 + 1) h
        · replace h := (if_neg hc_1005).symm.trans h
          refine g_aload_n (j := 1) C dX6_nextOut_40 rfl rfl ?_
          refine g_iload_n (j := 3) C dX6_nextOut_41 rfl rfl ?_
          refine g_iconst (v := (nI 2)) C dX6_nextOut_42 (by decide) ?_
          obtain ⟨q_1006, hq_1007, h⟩ := bind_isome h
          refine g_vi (ws' := (zW cy ad shM E X)) (As := [.int v2, .int (nI 2)]) (rest := []) (res := q_1006) C (c_X6_showAt l D cy ad E X v2 (nI 2) hq_1007) zml_RX6_89 zcv_X6_showAt (zW_get X sM_0) rfl rfl rfl ⟨Nat.le_of_ble_eq_true rfl, Nat.le_of_ble_eq_true rfl⟩ rfl rfl (Nat.le_of_ble_eq_true rfl) ⟨Nat.zero_le _, Nat.zero_le _⟩ dX6_nextOut_43 ?_
          refine g_aload_n (j := 1) C dX6_nextOut_46 rfl rfl ?_
          refine g_iload_n (j := 2) C dX6_nextOut_47 rfl rfl ?_
          refine g_iconst (v := (nI 2)) C dX6_nextOut_48 (by decide) ?_
          obtain ⟨q_1008, hq_1009, h⟩ := bind_isome h
          refine g_vi (ws' := (zW cy ad shM E X)) (As := [.int v1, .int (nI 2)]) (rest := [.int q_1006]) (res := q_1008) C (c_X6_showAt l D cy ad E X v1 (nI 2) hq_1009) zml_RX6_89 zcv_X6_showAt (zW_get X sM_0) rfl rfl rfl ⟨Nat.le_of_ble_eq_true rfl, Nat.le_of_ble_eq_true rfl⟩ rfl rfl (Nat.le_of_ble_eq_true rfl) ⟨Nat.zero_le _, Nat.zero_le _⟩ dX6_nextOut_49 ?_
          refine g_icmp_lt C dX6_nextOut_52 (tgt := 85) (by decide) (fun hc_1010 => ?_) (fun hc_1010 => ?_)
          · replace h := (if_pos hc_1010).symm.trans h
            refine g_iconst (v := (nI 1)) C dX6_nextOut_85 (by decide) ?_
            refine g_goto C dX6_nextOut_86 (tgt := 90) (by decide) ?_
            refine g_istore (L' := [(4, .int (nI 1)), (3, .int (nI 1)), (0, .ref (ad 0)), (1, .int v1), (2, .int v2)]) C dX6_nextOut_90 (by decide) rfl ?_
            refine g_iload (j := 0) C dX6_nextOut_92 rfl ?_
            refine g_if_eq C dX6_nextOut_94 (tgt := 101) (by decide) (fun h9 => absurd h9 (by decide)) (fun _ => ?_)
            refine g_iload_n (j := 4) C dX6_nextOut_97 rfl rfl ?_
            refine g_goto C dX6_nextOut_98 (tgt := 102) (by decide) ?_
            refine g_istore_n (L' := [(1, .int v2), (4, .int (nI 1)), (3, .int (nI 1)), (0, .ref (ad 0)), (2, .int v2)]) C dX6_nextOut_102 rfl (by decide) rfl ?_
            refine g_iinc (k := 4) (L' := [(2, .int (v2 + 1)), (1, .int v2), (4, .int (nI 1)), (3, .int (nI 1)), (0, .ref (ad 0))]) C dX6_nextOut_103 rfl (z_iinc (by decide)) (by decide) rfl ?_
            refine g_goto C dX6_nextOut_106 (tgt := 4) (by decide) ?_
            refine zG_sub (L' := [(0, .ref (ad 0)), (1, .int v2), (2, .int (v2 + 1))]) [4, 1, 0] rfl ?_
            exact ih v2 (v2 + 1) h
          · replace h := (if_neg hc_1010).symm.trans h
            refine g_aload_n (j := 1) C dX6_nextOut_55 rfl rfl ?_
            refine g_iload_n (j := 3) C dX6_nextOut_56 rfl rfl ?_
            refine g_iconst (v := (nI 2)) C dX6_nextOut_57 (by decide) ?_
            obtain ⟨q_1011, hq_1012, h⟩ := bind_isome h
            refine g_vi (ws' := (zW cy ad shM E X)) (As := [.int v2, .int (nI 2)]) (rest := []) (res := q_1011) C (c_X6_showAt l D cy ad E X v2 (nI 2) hq_1012) zml_RX6_89 zcv_X6_showAt (zW_get X sM_0) rfl rfl rfl ⟨Nat.le_of_ble_eq_true rfl, Nat.le_of_ble_eq_true rfl⟩ rfl rfl (Nat.le_of_ble_eq_true rfl) ⟨Nat.zero_le _, Nat.zero_le _⟩ dX6_nextOut_58 ?_
            refine g_aload_n (j := 1) C dX6_nextOut_61 rfl rfl ?_
            refine g_iload_n (j := 2) C dX6_nextOut_62 rfl rfl ?_
            refine g_iconst (v := (nI 2)) C dX6_nextOut_63 (by decide) ?_
            obtain ⟨q_1013, hq_1014, h⟩ := bind_isome h
            refine g_vi (ws' := (zW cy ad shM E X)) (As := [.int v1, .int (nI 2)]) (rest := [.int q_1011]) (res := q_1013) C (c_X6_showAt l D cy ad E X v1 (nI 2) hq_1014) zml_RX6_89 zcv_X6_showAt (zW_get X sM_0) rfl rfl rfl ⟨Nat.le_of_ble_eq_true rfl, Nat.le_of_ble_eq_true rfl⟩ rfl rfl (Nat.le_of_ble_eq_true rfl) ⟨Nat.zero_le _, Nat.zero_le _⟩ dX6_nextOut_64 ?_
            refine g_icmp_ne C dX6_nextOut_67 (tgt := 89) (by decide) (fun hc_1015 => ?_) (fun hc_1015 => ?_)
            · replace h := (if_neg hc_1015).symm.trans h
              refine g_iconst (v := (nI 0)) C dX6_nextOut_89 (by decide) ?_
              refine g_istore (L' := [(4, .int (nI 0)), (3, .int (nI 1)), (0, .ref (ad 0)), (1, .int v1), (2, .int v2)]) C dX6_nextOut_90 (by decide) rfl ?_
              refine g_iload (j := 0) C dX6_nextOut_92 rfl ?_
              refine g_if_eq C dX6_nextOut_94 (tgt := 101) (by decide) (fun _ => ?_) (fun h9 => absurd h9 (by decide))
              refine g_iload_n (j := 3) C dX6_nextOut_101 rfl rfl ?_
              refine g_istore_n (L' := [(1, .int v1), (4, .int (nI 0)), (3, .int (nI 1)), (0, .ref (ad 0)), (2, .int v2)]) C dX6_nextOut_102 rfl (by decide) rfl ?_
              refine g_iinc (k := 4) (L' := [(2, .int (v2 + 1)), (1, .int v1), (4, .int (nI 0)), (3, .int (nI 1)), (0, .ref (ad 0))]) C dX6_nextOut_103 rfl (z_iinc (by decide)) (by decide) rfl ?_
              refine g_goto C dX6_nextOut_106 (tgt := 4) (by decide) ?_
              refine zG_sub (L' := [(0, .ref (ad 0)), (1, .int v1), (2, .int (v2 + 1))]) [4, 1, 0] rfl ?_
              exact ih v1 (v2 + 1) h
            · replace h := (if_pos hc_1015).symm.trans h
              refine g_aload_n (j := 1) C dX6_nextOut_70 rfl rfl ?_
              refine g_iload_n (j := 3) C dX6_nextOut_71 rfl rfl ?_
              refine g_iconst (v := (nI 3)) C dX6_nextOut_72 (by decide) ?_
              obtain ⟨q_1016, hq_1017, h⟩ := bind_isome h
              refine g_vi (ws' := (zW cy ad shM E X)) (As := [.int v2, .int (nI 3)]) (rest := []) (res := q_1016) C (c_X6_showAt l D cy ad E X v2 (nI 3) hq_1017) zml_RX6_89 zcv_X6_showAt (zW_get X sM_0) rfl rfl rfl ⟨Nat.le_of_ble_eq_true rfl, Nat.le_of_ble_eq_true rfl⟩ rfl rfl (Nat.le_of_ble_eq_true rfl) ⟨Nat.zero_le _, Nat.zero_le _⟩ dX6_nextOut_73 ?_
              refine g_aload_n (j := 1) C dX6_nextOut_76 rfl rfl ?_
              refine g_iload_n (j := 2) C dX6_nextOut_77 rfl rfl ?_
              refine g_iconst (v := (nI 3)) C dX6_nextOut_78 (by decide) ?_
              obtain ⟨q_1018, hq_1019, h⟩ := bind_isome h
              refine g_vi (ws' := (zW cy ad shM E X)) (As := [.int v1, .int (nI 3)]) (rest := [.int q_1016]) (res := q_1018) C (c_X6_showAt l D cy ad E X v1 (nI 3) hq_1019) zml_RX6_89 zcv_X6_showAt (zW_get X sM_0) rfl rfl rfl ⟨Nat.le_of_ble_eq_true rfl, Nat.le_of_ble_eq_true rfl⟩ rfl rfl (Nat.le_of_ble_eq_true rfl) ⟨Nat.zero_le _, Nat.zero_le _⟩ dX6_nextOut_79 ?_
              refine g_icmp_ge C dX6_nextOut_82 (tgt := 89) (by decide) (fun hc_1020 => ?_) (fun hc_1020 => ?_)
              · replace h := (if_pos hc_1020).symm.trans h
                refine g_iconst (v := (nI 0)) C dX6_nextOut_89 (by decide) ?_
                refine g_istore (L' := [(4, .int (nI 0)), (3, .int (nI 1)), (0, .ref (ad 0)), (1, .int v1), (2, .int v2)]) C dX6_nextOut_90 (by decide) rfl ?_
                refine g_iload (j := 0) C dX6_nextOut_92 rfl ?_
                refine g_if_eq C dX6_nextOut_94 (tgt := 101) (by decide) (fun _ => ?_) (fun h9 => absurd h9 (by decide))
                refine g_iload_n (j := 3) C dX6_nextOut_101 rfl rfl ?_
                refine g_istore_n (L' := [(1, .int v1), (4, .int (nI 0)), (3, .int (nI 1)), (0, .ref (ad 0)), (2, .int v2)]) C dX6_nextOut_102 rfl (by decide) rfl ?_
                refine g_iinc (k := 4) (L' := [(2, .int (v2 + 1)), (1, .int v1), (4, .int (nI 0)), (3, .int (nI 1)), (0, .ref (ad 0))]) C dX6_nextOut_103 rfl (z_iinc (by decide)) (by decide) rfl ?_
                refine g_goto C dX6_nextOut_106 (tgt := 4) (by decide) ?_
                refine zG_sub (L' := [(0, .ref (ad 0)), (1, .int v1), (2, .int (v2 + 1))]) [4, 1, 0] rfl ?_
                exact ih v1 (v2 + 1) h
              · replace h := (if_neg hc_1020).symm.trans h
                refine g_iconst (v := (nI 1)) C dX6_nextOut_85 (by decide) ?_
                refine g_goto C dX6_nextOut_86 (tgt := 90) (by decide) ?_
                refine g_istore (L' := [(4, .int (nI 1)), (3, .int (nI 1)), (0, .ref (ad 0)), (1, .int v1), (2, .int v2)]) C dX6_nextOut_90 (by decide) rfl ?_
                refine g_iload (j := 0) C dX6_nextOut_92 rfl ?_
                refine g_if_eq C dX6_nextOut_94 (tgt := 101) (by decide) (fun h9 => absurd h9 (by decide)) (fun _ => ?_)
                refine g_iload_n (j := 4) C dX6_nextOut_97 rfl rfl ?_
                refine g_goto C dX6_nextOut_98 (tgt := 102) (by decide) ?_
                refine g_istore_n (L' := [(1, .int v2), (4, .int (nI 1)), (3, .int (nI 1)), (0, .ref (ad 0)), (2, .int v2)]) C dX6_nextOut_102 rfl (by decide) rfl ?_
                refine g_iinc (k := 4) (L' := [(2, .int (v2 + 1)), (1, .int v2), (4, .int (nI 1)), (3, .int (nI 1)), (0, .ref (ad 0))]) C dX6_nextOut_103 rfl (z_iinc (by decide)) (by decide) rfl ?_
                refine g_goto C dX6_nextOut_106 (tgt := 4) (by decide) ?_
                refine zG_sub (L' := [(0, .ref (ad 0)), (1, .int v2), (2, .int (v2 + 1))]) [4, 1, 0] rfl ?_
                exact ih v2 (v2 + 1) h
def f_X6_nextOut (X : Nat → Nat → Int32) : Option Int32 := f_X6_nextOut_L4 X zFuel (-1 : Int32) (nI 0)
set_option maxRecDepth 100000 in
set_option maxHeartbeats 4000000 in
theorem c_X6_nextOut (l : Launch) (D : va_G) (cy : Nat → ClassId) (ad : Nat → Nat) (E : va_W) (X : Nat → Nat → Int32) {res : Int32} (h : f_X6_nextOut X = some res) : zMi l yX6_nextOut cX6_nextOut 5 (some .int) (zrm 2) D (zTy cy) (zW cy ad shM E X) [.ref (ad 0)] res (zW cy ad shM E X) := by
  refine zMi.of (by decide) (Nat.le_of_ble_eq_true rfl) ?_
  intro p e s m below meth c A C hr
  unfold f_X6_nextOut at h
  refine zG_L (L' := [(0, .ref (ad 0))]) rfl ?_
  refine g_iconst (v := (-1 : Int32)) C dX6_nextOut_0 (by decide) ?_
  refine g_istore_n (L' := [(1, .int (-1 : Int32)), (0, .ref (ad 0))]) C dX6_nextOut_1 rfl (by decide) rfl ?_
  refine g_iconst (v := (nI 0)) C dX6_nextOut_2 (by decide) ?_
  refine g_istore_n (L' := [(2, .int (nI 0)), (1, .int (-1 : Int32)), (0, .ref (ad 0))]) C dX6_nextOut_3 rfl (by decide) rfl ?_
  refine zG_sub (L' := [(0, .ref (ad 0)), (1, .int (-1 : Int32)), (2, .int (nI 0))]) [2, 1, 0] rfl ?_
  exact w_X6_nextOut_L4 l D cy ad E X C hr zFuel (-1 : Int32) (nI 0) h
