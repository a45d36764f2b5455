/-! laid by wip/whole/mkparts.py -/
theorem in_X6_plan_RX6 : ∀ w ∈ u_ws RX6 TX6 27, w ∈ wsX6_plan := by decide +kernel
theorem fl_X6_plan_9 : (Cond.fieldLink RX6 9 RX6 (TX6 1).2.1 (TX6 1).2.2.1) ∈ wsX6_plan := by decide +kernel
theorem fl_X6_plan_166 : (Cond.fieldLink RX6 166 RX6 (TX6 21).2.1 (TX6 21).2.2.1) ∈ wsX6_plan := by decide +kernel
theorem hd_X6_plan : yX6_plan.cls = RX6 ∧ yX6_plan.cls ≠ "java/lang/invoke/MethodHandle" ∧ yX6_plan.cls ≠ "java/lang/invoke/VarHandle" ∧ (parseMethodDescriptor yX6_plan.desc).map (fun d => d.parameters.length) = some 4 := by decide +kernel
def f_X6_plan (X : Nat → Nat → Int32) (v1 v2 v3 v4 : Int32) : Option (Int32 × (Nat → Nat → Int32)) := (if (f_X6_isHall X v1) = 0 then (zlet (f_X6_fails X (1 : Int32)) fun q_2 => some (q_2.1, q_2.2)) else (if (f_X6_isFilm X v2) = 0 then (zlet (f_X6_fails X (1 : Int32)) fun q_53 => some (q_53.1, q_53.2)) else (if (f_X6_isPlace v3 v4) = 0 then (zlet (f_X6_fails X (2 : Int32)) fun q_51 => some (q_51.1, q_51.2)) else ((f_X6_breaksNew X v1 v2 v3 v4).bind fun q_6 => (if q_6.1 = 0 then (if (q_6.2 1 (4 : Int32).toNatClampNeg) = (30 : Int32) then (zlet (f_X6_refuses q_6.2 (10 : Int32) (30 : Int32) (3 : Int32)) fun q_47 => some (q_47.1, q_47.2)) else ((f_X6_remembers q_6.2).bind fun q_10 => ((f_X6_bestReel q_10 v2 v3).bind fun q_12 => (if (((158 : Int32) + ((9 : Int32) * (q_10 1 (4 : Int32).toNatClampNeg))) + (0 : Int32)) < 0 ∨ 580 ≤ (((158 : Int32) + ((9 : Int32) * (q_10 1 (4 : Int32).toNatClampNeg))) + (0 : Int32)).toNatClampNeg then none else (zlet (zU q_10 1 (((158 : Int32) + ((9 : Int32) * (q_10 1 (4 : Int32).toNatClampNeg))) + (0 : Int32)).toNatClampNeg v1) fun X_15 => (if (((158 : Int32) + ((9 : Int32) * (q_10 1 (4 : Int32).toNatClampNeg))) + (1 : Int32)) < 0 ∨ 580 ≤ (((158 : Int32) + ((9 : Int32) * (q_10 1 (4 : Int32).toNatClampNeg))) + (1 : Int32)).toNatClampNeg then none else (zlet (zU X_15 1 (((158 : Int32) + ((9 : Int32) * (q_10 1 (4 : Int32).toNatClampNeg))) + (1 : Int32)).toNatClampNeg v2) fun X_18 => (if (((158 : Int32) + ((9 : Int32) * (q_10 1 (4 : Int32).toNatClampNeg))) + (2 : Int32)) < 0 ∨ 580 ≤ (((158 : Int32) + ((9 : Int32) * (q_10 1 (4 : Int32).toNatClampNeg))) + (2 : Int32)).toNatClampNeg then none else (zlet (zU X_18 1 (((158 : Int32) + ((9 : Int32) * (q_10 1 (4 : Int32).toNatClampNeg))) + (2 : Int32)).toNatClampNeg v3) fun X_21 => (if (((158 : Int32) + ((9 : Int32) * (q_10 1 (4 : Int32).toNatClampNeg))) + (3 : Int32)) < 0 ∨ 580 ≤ (((158 : Int32) + ((9 : Int32) * (q_10 1 (4 : Int32).toNatClampNeg))) + (3 : Int32)).toNatClampNeg then none else (zlet (zU X_21 1 (((158 : Int32) + ((9 : Int32) * (q_10 1 (4 : Int32).toNatClampNeg))) + (3 : Int32)).toNatClampNeg v4) fun X_24 => (if (((158 : Int32) + ((9 : Int32) * (q_10 1 (4 : Int32).toNatClampNeg))) + (4 : Int32)) < 0 ∨ 580 ≤ (((158 : Int32) + ((9 : Int32) * (q_10 1 (4 : Int32).toNatClampNeg))) + (4 : Int32)).toNatClampNeg then none else (zlet (zU X_24 1 (((158 : Int32) + ((9 : Int32) * (q_10 1 (4 : Int32).toNatClampNeg))) + (4 : Int32)).toNatClampNeg q_12) fun X_27 => ((f_X6_lengthOf X_27 q_12).bind fun q_29 => (if (((158 : Int32) + ((9 : Int32) * (q_10 1 (4 : Int32).toNatClampNeg))) + (5 : Int32)) < 0 ∨ 580 ≤ (((158 : Int32) + ((9 : Int32) * (q_10 1 (4 : Int32).toNatClampNeg))) + (5 : Int32)).toNatClampNeg then none else (zlet (zU X_27 1 (((158 : Int32) + ((9 : Int32) * (q_10 1 (4 : Int32).toNatClampNeg))) + (5 : Int32)).toNatClampNeg q_29) fun X_32 => (if (((158 : Int32) + ((9 : Int32) * (q_10 1 (4 : Int32).toNatClampNeg))) + (6 : Int32)) < 0 ∨ 580 ≤ (((158 : Int32) + ((9 : Int32) * (q_10 1 (4 : Int32).toNatClampNeg))) + (6 : Int32)).toNatClampNeg then none else (zlet (zU X_32 1 (((158 : Int32) + ((9 : Int32) * (q_10 1 (4 : Int32).toNatClampNeg))) + (6 : Int32)).toNatClampNeg (X_32 1 (13 : Int32).toNatClampNeg)) fun X_35 => (if (((158 : Int32) + ((9 : Int32) * (q_10 1 (4 : Int32).toNatClampNeg))) + (7 : Int32)) < 0 ∨ 580 ≤ (((158 : Int32) + ((9 : Int32) * (q_10 1 (4 : Int32).toNatClampNeg))) + (7 : Int32)).toNatClampNeg then none else (zlet (zU X_35 1 (((158 : Int32) + ((9 : Int32) * (q_10 1 (4 : Int32).toNatClampNeg))) + (7 : Int32)).toNatClampNeg (0 : Int32)) fun X_38 => (if (((158 : Int32) + ((9 : Int32) * (q_10 1 (4 : Int32).toNatClampNeg))) + (8 : Int32)) < 0 ∨ 580 ≤ (((158 : Int32) + ((9 : Int32) * (q_10 1 (4 : Int32).toNatClampNeg))) + (8 : Int32)).toNatClampNeg then none else (zlet (zU X_38 1 (((158 : Int32) + ((9 : Int32) * (q_10 1 (4 : Int32).toNatClampNeg))) + (8 : Int32)).toNatClampNeg (0 : Int32)) fun X_41 => (zlet (zU X_41 1 (4 : Int32).toNatClampNeg ((X_41 1 (4 : Int32).toNatClampNeg) + (1 : Int32))) fun X_43 => (zlet (f_X6_done X_43 (q_10 1 (4 : Int32).toNatClampNeg)) fun q_45 => some (q_45.1, q_45.2))))))))))))))))))))))))) else (zlet (f_X6_refuses q_6.2 q_6.1 (q_6.2 0 21) (3 : Int32)) fun q_49 => some (q_49.1, q_49.2)))))))
set_option maxRecDepth 100000 in
set_option maxHeartbeats 4000000 in
theorem c_X6_plan (l : Launch) (D : va_G) (cy : Nat → ClassId) (ad : Nat → Nat) (E : va_W) (X : Nat → Nat → Int32) (v1 v2 v3 v4 : Int32) {res : Int32 × (Nat → Nat → Int32)} (h : f_X6_plan X v1 v2 v3 v4 = some res) : zMi l yX6_plan wsX6_plan (zrm 8) D (zTy cy) (zW cy ad shM E X) [.ref (ad 0), .int v1, .int v2, .int v3, .int v4] res.1 (zW cy ad shM E res.2) := by
  refine zMi.of (cc := cX6_plan) (maxL := 9) (ret := (some .int)) (by decide) rfl (Nat.le_of_ble_eq_true rfl) ?_
  intro p e s m below meth c A C hr
  unfold f_X6_plan at h
  refine zG_L (L' := [(0, .ref (ad 0)), (1, .int v1), (2, .int v2), (3, .int v3), (4, .int v4)]) rfl ?_
  refine g_aload_n (j := 0) C dX6_plan_0 rfl rfl ?_
  refine g_iload_n (j := 1) C dX6_plan_1 rfl rfl ?_
  refine g_vi (ws' := (zW cy ad shM E X)) (As := [.int v1]) (rest := []) (res := (f_X6_isHall X v1)) C (c_X6_isHall l D cy ad E X v1) gX6_plan_X6_isHall rfl hd_X6_isHall (zW_get X sM_0) rfl rfl rfl ⟨Nat.le_of_ble_eq_true rfl, Nat.le_of_ble_eq_true rfl⟩ rfl rfl (Nat.le_of_ble_eq_true rfl) ⟨Nat.zero_le _, Nat.zero_le _⟩ dX6_plan_2 ?_
  refine g_if_eq C dX6_plan_5 (tgt := 16) (by decide) (fun hc_1 => ?_) (fun hc_1 => ?_)
  · replace h := (if_pos hc_1).symm.trans h
    refine g_aload_n (j := 0) C dX6_plan_16 rfl rfl ?_
    refine g_iconst (v := 1) C dX6_plan_17 (by decide) ?_
    obtain ⟨q_2, e_3, h⟩ := zlet_ex h
    refine g_vi (ws' := (zW cy ad shM E q_2.2)) (As := [.int (1 : Int32)]) (rest := []) (res := q_2.1) C ((by rw [e_3]; exact c_X6_fails l D cy ad E X (1 : Int32))) gX6_plan_X6_fails rfl hd_X6_fails (zW_get X sM_0) rfl rfl rfl ⟨Nat.le_of_ble_eq_true rfl, Nat.le_of_ble_eq_true rfl⟩ rfl rfl (Nat.le_of_ble_eq_true rfl) ⟨Nat.zero_le _, Nat.zero_le _⟩ dX6_plan_18 ?_
    obtain rfl := Option.some.inj h
    exact g_iret rfl C hr rfl dX6_plan_21
  · replace h := (if_neg hc_1).symm.trans h
    refine g_aload_n (j := 0) C dX6_plan_8 rfl rfl ?_
    refine g_iload_n (j := 2) C dX6_plan_9 rfl rfl ?_
    refine g_vi (ws' := (zW cy ad shM E X)) (As := [.int v2]) (rest := []) (res := (f_X6_isFilm X v2)) C (c_X6_isFilm l D cy ad E X v2) gX6_plan_X6_isFilm rfl hd_X6_isFilm (zW_get X sM_0) rfl rfl rfl ⟨Nat.le_of_ble_eq_true rfl, Nat.le_of_ble_eq_true rfl⟩ rfl rfl (Nat.le_of_ble_eq_true rfl) ⟨Nat.zero_le _, Nat.zero_le _⟩ dX6_plan_10 ?_
    refine g_if_ne C dX6_plan_13 (tgt := 22) (by decide) (fun hc_4 => ?_) (fun hc_4 => ?_)
    · replace h := (if_neg hc_4).symm.trans h
      refine g_iload_n (j := 3) C dX6_plan_22 rfl rfl ?_
      refine g_iload (j := 4) C dX6_plan_23 rfl ?_
      refine g_si (ws' := (zW cy ad shM E X)) (As := [.int v3, .int v4]) (rest := []) (res := (f_X6_isPlace v3 v4)) C (c_X6_isPlace l D cy (zW cy ad shM E X) v3 v4) gX6_plan_X6_isPlace rfl hd_X6_isPlace rfl rfl ⟨Nat.le_of_ble_eq_true rfl, Nat.le_of_ble_eq_true rfl⟩ rfl rfl (Nat.le_of_ble_eq_true rfl) ⟨Nat.zero_le _, Nat.zero_le _⟩ dX6_plan_25 ?_
      refine g_if_ne C dX6_plan_28 (tgt := 37) (by decide) (fun hc_5 => ?_) (fun hc_5 => ?_)
      · replace h := (if_neg hc_5).symm.trans h
        refine g_aload_n (j := 0) C dX6_plan_37 rfl rfl ?_
        refine g_iload_n (j := 1) C dX6_plan_38 rfl rfl ?_
        refine g_iload_n (j := 2) C dX6_plan_39 rfl rfl ?_
        refine g_iload_n (j := 3) C dX6_plan_40 rfl rfl ?_
        refine g_iload (j := 4) C dX6_plan_41 rfl ?_
        obtain ⟨q_6, hq_7, h⟩ := bind_isome h
        refine g_vi (ws' := (zW cy ad shM E q_6.2)) (As := [.int v1, .int v2, .int v3, .int v4]) (rest := []) (res := q_6.1) C (c_X6_breaksNew l D cy ad E X v1 v2 v3 v4 hq_7) gX6_plan_X6_breaksNew rfl hd_X6_breaksNew (zW_get X sM_0) rfl rfl rfl ⟨Nat.le_of_ble_eq_true rfl, Nat.le_of_ble_eq_true rfl⟩ rfl rfl (Nat.le_of_ble_eq_true rfl) ⟨Nat.zero_le _, Nat.zero_le _⟩ dX6_plan_43 ?_
        refine g_istore (L' := [(5, .int q_6.1), (0, .ref (ad 0)), (1, .int v1), (2, .int v2), (3, .int v3), (4, .int v4)]) C dX6_plan_46 (by decide) rfl ?_
        refine g_iload (j := 0) C dX6_plan_48 rfl ?_
        refine g_if_eq C dX6_plan_50 (tgt := 65) (by decide) (fun hc_8 => ?_) (fun hc_8 => ?_)
        · replace h := (if_pos hc_8).symm.trans h
          refine g_aload_n (j := 1) C dX6_plan_65 rfl rfl ?_
          refine g_getr (k := 1) (N := 27) C sM_0 rfl in_X6_plan_RX6 (by decide) rfl fl_X6_plan_9 rfl dX6_plan_66 ?_
          refine g_iconst (v := 4) C dX6_plan_69 (by decide) ?_
          refine g_iald C sM_1 (by decide) dX6_plan_70 ?_
          refine g_bipush (v := 30) C dX6_plan_71 (by decide) ?_
          refine g_icmp_ne C dX6_plan_73 (tgt := 86) (by decide) (fun hc_9 => ?_) (fun hc_9 => ?_)
          · replace h := (if_neg hc_9).symm.trans h
            refine g_aload_n (j := 1) C dX6_plan_86 rfl rfl ?_
            obtain ⟨q_10, hq_11, h⟩ := bind_isome h
            refine g_vv (ws' := (zW cy ad shM E q_10)) (As := []) (rest := []) C (c_X6_remembers l D cy ad E q_6.2 hq_11) gX6_plan_X6_remembers rfl hd_X6_remembers (zW_get q_6.2 sM_0) rfl rfl rfl ⟨Nat.le_of_ble_eq_true rfl, Nat.le_of_ble_eq_true rfl⟩ rfl rfl (Nat.le_of_ble_eq_true rfl) ⟨Nat.zero_le _, Nat.zero_le _⟩ dX6_plan_87 ?_
            refine g_aload_n (j := 1) C dX6_plan_90 rfl rfl ?_
            refine g_getr (k := 1) (N := 27) C sM_0 rfl in_X6_plan_RX6 (by decide) rfl fl_X6_plan_9 rfl dX6_plan_91 ?_
            refine g_iconst (v := 4) C dX6_plan_94 (by decide) ?_
            refine g_iald C sM_1 (by decide) dX6_plan_95 ?_
            refine g_istore (L' := [(6, .int (q_10 1 (4 : Int32).toNatClampNeg)), (5, .int q_6.1), (0, .ref (ad 0)), (1, .int v1), (2, .int v2), (3, .int v3), (4, .int v4)]) C dX6_plan_96 (by decide) rfl ?_
            refine g_sipush (v := 158) C dX6_plan_98 (by decide) ?_
            refine g_bipush (v := 9) C dX6_plan_101 (by decide) ?_
            refine g_iload (j := 0) C dX6_plan_103 rfl ?_
            refine g_imul C dX6_plan_105 ?_
            refine g_iadd C dX6_plan_106 ?_
            refine g_istore (L' := [(7, .int ((158 : Int32) + ((9 : Int32) * (q_10 1 (4 : Int32).toNatClampNeg)))), (6, .int (q_10 1 (4 : Int32).toNatClampNeg)), (5, .int q_6.1), (0, .ref (ad 0)), (1, .int v1), (2, .int v2), (3, .int v3), (4, .int v4)]) C dX6_plan_107 (by decide) rfl ?_
            refine g_aload_n (j := 3) C dX6_plan_109 rfl rfl ?_
            refine g_iload_n (j := 5) C dX6_plan_110 rfl rfl ?_
            refine g_iload_n (j := 6) C dX6_plan_111 rfl rfl ?_
            obtain ⟨q_12, hq_13, h⟩ := bind_isome h
            refine g_vi (ws' := (zW cy ad shM E q_10)) (As := [.int v2, .int v3]) (rest := []) (res := q_12) C (c_X6_bestReel l D cy ad E q_10 v2 v3 hq_13) gX6_plan_X6_bestReel rfl hd_X6_bestReel (zW_get q_10 sM_0) rfl rfl rfl ⟨Nat.le_of_ble_eq_true rfl, Nat.le_of_ble_eq_true rfl⟩ rfl rfl (Nat.le_of_ble_eq_true rfl) ⟨Nat.zero_le _, Nat.zero_le _⟩ dX6_plan_112 ?_
            refine g_istore (L' := [(8, .int q_12), (7, .int ((158 : Int32) + ((9 : Int32) * (q_10 1 (4 : Int32).toNatClampNeg)))), (6, .int (q_10 1 (4 : Int32).toNatClampNeg)), (5, .int q_6.1), (0, .ref (ad 0)), (1, .int v1), (2, .int v2), (3, .int v3), (4, .int v4)]) C dX6_plan_115 (by decide) rfl ?_
            refine g_aload_n (j := 4) C dX6_plan_117 rfl rfl ?_
            refine g_getr (k := 1) (N := 27) C sM_0 rfl in_X6_plan_RX6 (by decide) rfl fl_X6_plan_9 rfl dX6_plan_118 ?_
            refine g_iload (j := 1) C dX6_plan_121 rfl ?_
            refine g_iconst (v := 0) C dX6_plan_123 (by decide) ?_
            refine g_iadd C dX6_plan_124 ?_
            refine g_iload_n (j := 5) C dX6_plan_125 rfl rfl ?_
            obtain ⟨hi_14, h⟩ := ite_inone h
            refine g_iast C sM_1 hi_14 dX6_plan_126 ?_
            obtain ⟨X_15, e_16, h⟩ := zlet_ex h
            rw [← e_16]
            refine g_aload_n (j := 4) C dX6_plan_127 rfl rfl ?_
            refine g_getr (k := 1) (N := 27) C sM_0 rfl in_X6_plan_RX6 (by decide) rfl fl_X6_plan_9 rfl dX6_plan_128 ?_
            refine g_iload (j := 1) C dX6_plan_131 rfl ?_
            refine g_iconst (v := 1) C dX6_plan_133 (by decide) ?_
            refine g_iadd C dX6_plan_134 ?_
            refine g_iload_n (j := 6) C dX6_plan_135 rfl rfl ?_
            obtain ⟨hi_17, h⟩ := ite_inone h
            refine g_iast C sM_1 hi_17 dX6_plan_136 ?_
            obtain ⟨X_18, e_19, h⟩ := zlet_ex h
            rw [← e_19]
            refine g_aload_n (j := 4) C dX6_plan_137 rfl rfl ?_
            refine g_getr (k := 1) (N := 27) C sM_0 rfl in_X6_plan_RX6 (by decide) rfl fl_X6_plan_9 rfl dX6_plan_138 ?_
            refine g_iload (j := 1) C dX6_plan_141 rfl ?_
            refine g_iconst (v := 2) C dX6_plan_143 (by decide) ?_
            refine g_iadd C dX6_plan_144 ?_
            refine g_iload_n (j := 7) C dX6_plan_145 rfl rfl ?_
            obtain ⟨hi_20, h⟩ := ite_inone h
            refine g_iast C sM_1 hi_20 dX6_plan_146 ?_
            obtain ⟨X_21, e_22, h⟩ := zlet_ex h
            rw [← e_22]
            refine g_aload_n (j := 4) C dX6_plan_147 rfl rfl ?_
            refine g_getr (k := 1) (N := 27) C sM_0 rfl in_X6_plan_RX6 (by decide) rfl fl_X6_plan_9 rfl dX6_plan_148 ?_
            refine g_iload (j := 1) C dX6_plan_151 rfl ?_
            refine g_iconst (v := 3) C dX6_plan_153 (by decide) ?_
            refine g_iadd C dX6_plan_154 ?_
            refine g_iload (j := 8) C dX6_plan_155 rfl ?_
            obtain ⟨hi_23, h⟩ := ite_inone h
            refine g_iast C sM_1 hi_23 dX6_plan_157 ?_
            obtain ⟨X_24, e_25, h⟩ := zlet_ex h
            rw [← e_25]
            refine g_aload_n (j := 4) C dX6_plan_158 rfl rfl ?_
            refine g_getr (k := 1) (N := 27) C sM_0 rfl in_X6_plan_RX6 (by decide) rfl fl_X6_plan_9 rfl dX6_plan_159 ?_
            refine g_iload (j := 1) C dX6_plan_162 rfl ?_
            refine g_iconst (v := 4) C dX6_plan_164 (by decide) ?_
            refine g_iadd C dX6_plan_165 ?_
            refine g_iload (j := 0) C dX6_plan_166 rfl ?_
            obtain ⟨hi_26, h⟩ := ite_inone h
            refine g_iast C sM_1 hi_26 dX6_plan_168 ?_
            obtain ⟨X_27, e_28, h⟩ := zlet_ex h
            rw [← e_28]
            refine g_aload_n (j := 4) C dX6_plan_169 rfl rfl ?_
            refine g_getr (k := 1) (N := 27) C sM_0 rfl in_X6_plan_RX6 (by decide) rfl fl_X6_plan_9 rfl dX6_plan_170 ?_
            refine g_iload (j := 1) C dX6_plan_173 rfl ?_
            refine g_iconst (v := 5) C dX6_plan_175 (by decide) ?_
            refine g_iadd C dX6_plan_176 ?_
            refine g_aload_n (j := 4) C dX6_plan_177 rfl rfl ?_
            refine g_iload (j := 0) C dX6_plan_178 rfl ?_
            obtain ⟨q_29, hq_30, h⟩ := bind_isome h
            refine g_vi (ws' := (zW cy ad shM E X_27)) (As := [.int q_12]) (rest := [.int (((158 : Int32) + ((9 : Int32) * (q_10 1 (4 : Int32).toNatClampNeg))) + (5 : Int32)), .ref (ad 1)]) (res := q_29) C (c_X6_lengthOf l D cy ad E X_27 q_12 hq_30) gX6_plan_X6_lengthOf rfl hd_X6_lengthOf (zW_get X_27 sM_0) rfl rfl rfl ⟨Nat.le_of_ble_eq_true rfl, Nat.le_of_ble_eq_true rfl⟩ rfl rfl (Nat.le_of_ble_eq_true rfl) ⟨Nat.zero_le _, Nat.zero_le _⟩ dX6_plan_180 ?_
            obtain ⟨hi_31, h⟩ := ite_inone h
            refine g_iast C sM_1 hi_31 dX6_plan_183 ?_
            obtain ⟨X_32, e_33, h⟩ := zlet_ex h
            rw [← e_33]
            refine g_aload_n (j := 4) C dX6_plan_184 rfl rfl ?_
            refine g_getr (k := 1) (N := 27) C sM_0 rfl in_X6_plan_RX6 (by decide) rfl fl_X6_plan_9 rfl dX6_plan_185 ?_
            refine g_iload (j := 1) C dX6_plan_188 rfl ?_
            refine g_bipush (v := 6) C dX6_plan_190 (by decide) ?_
            refine g_iadd C dX6_plan_192 ?_
            refine g_aload_n (j := 4) C dX6_plan_193 rfl rfl ?_
            refine g_getr (k := 1) (N := 27) C sM_0 rfl in_X6_plan_RX6 (by decide) rfl fl_X6_plan_9 rfl dX6_plan_194 ?_
            refine g_bipush (v := 13) C dX6_plan_197 (by decide) ?_
            refine g_iald C sM_1 (by decide) dX6_plan_199 ?_
            obtain ⟨hi_34, h⟩ := ite_inone h
            refine g_iast C sM_1 hi_34 dX6_plan_200 ?_
            obtain ⟨X_35, e_36, h⟩ := zlet_ex h
            rw [← e_36]
            refine g_aload_n (j := 4) C dX6_plan_201 rfl rfl ?_
            refine g_getr (k := 1) (N := 27) C sM_0 rfl in_X6_plan_RX6 (by decide) rfl fl_X6_plan_9 rfl dX6_plan_202 ?_
            refine g_iload (j := 1) C dX6_plan_205 rfl ?_
            refine g_bipush (v := 7) C dX6_plan_207 (by decide) ?_
            refine g_iadd C dX6_plan_209 ?_
            refine g_iconst (v := 0) C dX6_plan_210 (by decide) ?_
            obtain ⟨hi_37, h⟩ := ite_inone h
            refine g_iast C sM_1 hi_37 dX6_plan_211 ?_
            obtain ⟨X_38, e_39, h⟩ := zlet_ex h
            rw [← e_39]
            refine g_aload_n (j := 4) C dX6_plan_212 rfl rfl ?_
            refine g_getr (k := 1) (N := 27) C sM_0 rfl in_X6_plan_RX6 (by decide) rfl fl_X6_plan_9 rfl dX6_plan_213 ?_
            refine g_iload (j := 1) C dX6_plan_216 rfl ?_
            refine g_bipush (v := 8) C dX6_plan_218 (by decide) ?_
            refine g_iadd C dX6_plan_220 ?_
            refine g_iconst (v := 0) C dX6_plan_221 (by decide) ?_
            obtain ⟨hi_40, h⟩ := ite_inone h
            refine g_iast C sM_1 hi_40 dX6_plan_222 ?_
            obtain ⟨X_41, e_42, h⟩ := zlet_ex h
            rw [← e_42]
            refine g_aload_n (j := 4) C dX6_plan_223 rfl rfl ?_
            refine g_getr (k := 1) (N := 27) C sM_0 rfl in_X6_plan_RX6 (by decide) rfl fl_X6_plan_9 rfl dX6_plan_224 ?_
            refine g_iconst (v := 4) C dX6_plan_227 (by decide) ?_
            refine g_dup2 C dX6_plan_228 rfl rfl ?_
            refine g_iald C sM_1 (by decide) dX6_plan_229 ?_
            refine g_iconst (v := 1) C dX6_plan_230 (by decide) ?_
            refine g_iadd C dX6_plan_231 ?_
            refine g_iast C sM_1 (by decide) dX6_plan_232 ?_
            obtain ⟨X_43, e_44, h⟩ := zlet_ex h
            rw [← e_44]
            refine g_aload_n (j := 4) C dX6_plan_233 rfl rfl ?_
            refine g_iload (j := 2) C dX6_plan_234 rfl ?_
            obtain ⟨q_45, e_46, h⟩ := zlet_ex h
            refine g_vi (ws' := (zW cy ad shM E q_45.2)) (As := [.int (q_10 1 (4 : Int32).toNatClampNeg)]) (rest := []) (res := q_45.1) C ((by rw [e_46]; exact c_X6_done l D cy ad E X_43 (q_10 1 (4 : Int32).toNatClampNeg))) gX6_plan_X6_done rfl hd_X6_done (zW_get X_43 sM_0) rfl rfl rfl ⟨Nat.le_of_ble_eq_true rfl, Nat.le_of_ble_eq_true rfl⟩ rfl rfl (Nat.le_of_ble_eq_true rfl) ⟨Nat.zero_le _, Nat.zero_le _⟩ dX6_plan_236 ?_
            obtain rfl := Option.some.inj h
            exact g_iret rfl C hr rfl dX6_plan_239
          · replace h := (if_pos hc_9).symm.trans h
            refine g_aload_n (j := 1) C dX6_plan_76 rfl rfl ?_
            refine g_bipush (v := 10) C dX6_plan_77 (by decide) ?_
            refine g_bipush (v := 30) C dX6_plan_79 (by decide) ?_
            refine g_iconst (v := 3) C dX6_plan_81 (by decide) ?_
            obtain ⟨q_47, e_48, h⟩ := zlet_ex h
            refine g_vi (ws' := (zW cy ad shM E q_47.2)) (As := [.int (10 : Int32), .int (30 : Int32), .int (3 : Int32)]) (rest := []) (res := q_47.1) C ((by rw [e_48]; exact c_X6_refuses l D cy ad E q_6.2 (10 : Int32) (30 : Int32) (3 : Int32))) gX6_plan_X6_refuses rfl hd_X6_refuses (zW_get q_6.2 sM_0) rfl rfl rfl ⟨Nat.le_of_ble_eq_true rfl, Nat.le_of_ble_eq_true rfl⟩ rfl rfl (Nat.le_of_ble_eq_true rfl) ⟨Nat.zero_le _, Nat.zero_le _⟩ dX6_plan_82 ?_
            obtain rfl := Option.some.inj h
            exact g_iret rfl C hr rfl dX6_plan_85
        · replace h := (if_neg hc_8).symm.trans h
          refine g_aload_n (j := 1) C dX6_plan_53 rfl rfl ?_
          refine g_iload (j := 0) C dX6_plan_54 rfl ?_
          refine g_aload_n (j := 1) C dX6_plan_56 rfl rfl ?_
          refine g_geti (k := 21) (N := 27) C sM_0 rfl in_X6_plan_RX6 (by decide) rfl fl_X6_plan_166 rfl dX6_plan_57 ?_
          refine g_iconst (v := 3) C dX6_plan_60 (by decide) ?_
          obtain ⟨q_49, e_50, h⟩ := zlet_ex h
          refine g_vi (ws' := (zW cy ad shM E q_49.2)) (As := [.int q_6.1, .int (q_6.2 0 21), .int (3 : Int32)]) (rest := []) (res := q_49.1) C ((by rw [e_50]; exact c_X6_refuses l D cy ad E q_6.2 q_6.1 (q_6.2 0 21) (3 : Int32))) gX6_plan_X6_refuses rfl hd_X6_refuses (zW_get q_6.2 sM_0) rfl rfl rfl ⟨Nat.le_of_ble_eq_true rfl, Nat.le_of_ble_eq_true rfl⟩ rfl rfl (Nat.le_of_ble_eq_true rfl) ⟨Nat.zero_le _, Nat.zero_le _⟩ dX6_plan_61 ?_
          obtain rfl := Option.some.inj h
          exact g_iret rfl C hr rfl dX6_plan_64
      · replace h := (if_pos hc_5).symm.trans h
        refine g_aload_n (j := 0) C dX6_plan_31 rfl rfl ?_
        refine g_iconst (v := 2) C dX6_plan_32 (by decide) ?_
        obtain ⟨q_51, e_52, h⟩ := zlet_ex h
        refine g_vi (ws' := (zW cy ad shM E q_51.2)) (As := [.int (2 : Int32)]) (rest := []) (res := q_51.1) C ((by rw [e_52]; exact c_X6_fails l D cy ad E X (2 : Int32))) gX6_plan_X6_fails rfl hd_X6_fails (zW_get X sM_0) rfl rfl rfl ⟨Nat.le_of_ble_eq_true rfl, Nat.le_of_ble_eq_true rfl⟩ rfl rfl (Nat.le_of_ble_eq_true rfl) ⟨Nat.zero_le _, Nat.zero_le _⟩ dX6_plan_33 ?_
        obtain rfl := Option.some.inj h
        exact g_iret rfl C hr rfl dX6_plan_36
    · replace h := (if_pos hc_4).symm.trans h
      refine g_aload_n (j := 0) C dX6_plan_16 rfl rfl ?_
      refine g_iconst (v := 1) C dX6_plan_17 (by decide) ?_
      obtain ⟨q_53, e_54, h⟩ := zlet_ex h
      refine g_vi (ws' := (zW cy ad shM E q_53.2)) (As := [.int (1 : Int32)]) (rest := []) (res := q_53.1) C ((by rw [e_54]; exact c_X6_fails l D cy ad E X (1 : Int32))) gX6_plan_X6_fails rfl hd_X6_fails (zW_get X sM_0) rfl rfl rfl ⟨Nat.le_of_ble_eq_true rfl, Nat.le_of_ble_eq_true rfl⟩ rfl rfl (Nat.le_of_ble_eq_true rfl) ⟨Nat.zero_le _, Nat.zero_le _⟩ dX6_plan_18 ?_
      obtain rfl := Option.some.inj h
      exact g_iret rfl C hr rfl dX6_plan_21
theorem in_X6_move_RX6 : ∀ w ∈ u_ws RX6 TX6 27, w ∈ wsX6_move := by decide +kernel
theorem fl_X6_move_9 : (Cond.fieldLink RX6 9 RX6 (TX6 1).2.1 (TX6 1).2.2.1) ∈ wsX6_move := by decide +kernel
theorem fl_X6_move_166 : (Cond.fieldLink RX6 166 RX6 (TX6 21).2.1 (TX6 21).2.2.1) ∈ wsX6_move := by decide +kernel
theorem hd_X6_move : yX6_move.cls = RX6 ∧ yX6_move.cls ≠ "java/lang/invoke/MethodHandle" ∧ yX6_move.cls ≠ "java/lang/invoke/VarHandle" ∧ (parseMethodDescriptor yX6_move.desc).map (fun d => d.parameters.length) = some 3 := by decide +kernel
def f_X6_move (X : Nat → Nat → Int32) (v1 v2 v3 : Int32) : Option (Int32 × (Nat → Nat → Int32)) := (if (f_X6_isShow X v1) = 0 then (zlet (f_X6_fails X (1 : Int32)) fun q_2 => some (q_2.1, q_2.2)) else (if (f_X6_isHall X v2) = 0 then (zlet (f_X6_fails X (1 : Int32)) fun q_53 => some (q_53.1, q_53.2)) else (if (f_X6_in v3 (0 : Int32) (959 : Int32)) = 0 then (zlet (f_X6_fails X (2 : Int32)) fun q_51 => some (q_51.1, q_51.2)) else ((f_X6_stands X v1).bind fun q_6 => (if q_6 = 0 then (zlet (f_X6_fails X (3 : Int32)) fun q_9 => some (q_9.1, q_9.2)) else ((f_X6_isOver X v1).bind fun q_11 => (if q_11 = 0 then ((f_X6_hallAt X v2 (0 : Int32)).bind fun q_14 => ((f_X6_showAt X v1 (7 : Int32)).bind fun q_16 => (if q_16 ≤ q_14 then ((f_X6_showAt X v1 (1 : Int32)).bind fun q_19 => ((f_X6_showAt X v1 (2 : Int32)).bind fun q_21 => ((f_X6_minutesOf X v1).bind fun q_23 => ((f_X6_breaks X v2 q_19 q_21 v3 q_23 v1).bind fun q_25 => (if q_25.1 = 0 then ((f_X6_remembers q_25.2).bind fun q_28 => ((f_X6_showAt q_28 v1 (3 : Int32)).bind fun q_30 => (if (((158 : Int32) + ((9 : Int32) * v1)) + (0 : Int32)) < 0 ∨ 580 ≤ (((158 : Int32) + ((9 : Int32) * v1)) + (0 : Int32)).toNatClampNeg then none else (zlet (zU q_28 1 (((158 : Int32) + ((9 : Int32) * v1)) + (0 : Int32)).toNatClampNeg v2) fun X_33 => (if (((158 : Int32) + ((9 : Int32) * v1)) + (3 : Int32)) < 0 ∨ 580 ≤ (((158 : Int32) + ((9 : Int32) * v1)) + (3 : Int32)).toNatClampNeg then none else (zlet (zU X_33 1 (((158 : Int32) + ((9 : Int32) * v1)) + (3 : Int32)).toNatClampNeg v3) fun X_36 => (if 0 ≤ (v3 - q_30) then (zlet (f_X6_done X_36 (v3 - q_30)) fun q_39 => some (q_39.1, q_39.2)) else (zlet (f_X6_done X_36 (-(v3 - q_30))) fun q_41 => some (q_41.1, q_41.2))))))))) else (zlet (f_X6_refuses q_25.2 q_25.1 (q_25.2 0 21) (4 : Int32)) fun q_43 => some (q_43.1, q_43.2))))))) else ((f_X6_hallAt X v2 (0 : Int32)).bind fun q_45 => (zlet (f_X6_refuses X (11 : Int32) q_45 (4 : Int32)) fun q_47 => some (q_47.1, q_47.2)))))) else (zlet (f_X6_fails X (3 : Int32)) fun q_49 => some (q_49.1, q_49.2)))))))))
set_option maxRecDepth 100000 in
set_option maxHeartbeats 4000000 in
theorem c_X6_move (l : Launch) (D : va_G) (cy : Nat → ClassId) (ad : Nat → Nat) (E : va_W) (X : Nat → Nat → Int32) (v1 v2 v3 : Int32) {res : Int32 × (Nat → Nat → Int32)} (h : f_X6_move X v1 v2 v3 = some res) : zMi l yX6_move wsX6_move (zrm 7) D (zTy cy) (zW cy ad shM E X) [.ref (ad 0), .int v1, .int v2, .int v3] res.1 (zW cy ad shM E res.2) := by
  refine zMi.of (cc := cX6_move) (maxL := 6) (ret := (some .int)) (by decide) rfl (Nat.le_of_ble_eq_true rfl) ?_
  intro p e s m below meth c A C hr
  unfold f_X6_move at h
  refine zG_L (L' := [(0, .ref (ad 0)), (1, .int v1), (2, .int v2), (3, .int v3)]) rfl ?_
  refine g_aload_n (j := 0) C dX6_move_0 rfl rfl ?_
  refine g_iload_n (j := 1) C dX6_move_1 rfl rfl ?_
  refine g_vi (ws' := (zW cy ad shM E X)) (As := [.int v1]) (rest := []) (res := (f_X6_isShow X v1)) C (c_X6_isShow l D cy ad E X v1) gX6_move_X6_isShow rfl hd_X6_isShow (zW_get X sM_0) rfl rfl rfl ⟨Nat.le_of_ble_eq_true rfl, Nat.le_of_ble_eq_true rfl⟩ rfl rfl (Nat.le_of_ble_eq_true rfl) ⟨Nat.zero_le _, Nat.zero_le _⟩ dX6_move_2 ?_
  refine g_if_eq C dX6_move_5 (tgt := 16) (by decide) (fun hc_1 => ?_) (fun hc_1 => ?_)
  · replace h := (if_pos hc_1).symm.trans h
    refine g_aload_n (j := 0) C dX6_move_16 rfl rfl ?_
    refine g_iconst (v := 1) C dX6_move_17 (by decide) ?_
    obtain ⟨q_2, e_3, h⟩ := zlet_ex h
    refine g_vi (ws' := (zW cy ad shM E q_2.2)) (As := [.int (1 : Int32)]) (rest := []) (res := q_2.1) C ((by rw [e_3]; exact c_X6_fails l D cy ad E X (1 : Int32))) gX6_move_X6_fails rfl hd_X6_fails (zW_get X sM_0) rfl rfl rfl ⟨Nat.le_of_ble_eq_true rfl, Nat.le_of_ble_eq_true rfl⟩ rfl rfl (Nat.le_of_ble_eq_true rfl) ⟨Nat.zero_le _, Nat.zero_le _⟩ dX6_move_18 ?_
    obtain rfl := Option.some.inj h
    exact g_iret rfl C hr rfl dX6_move_21
  · replace h := (if_neg hc_1).symm.trans h
    refine g_aload_n (j := 0) C dX6_move_8 rfl rfl ?_
    refine g_iload_n (j := 2) C dX6_move_9 rfl rfl ?_
    refine g_vi (ws' := (zW cy ad shM E X)) (As := [.int v2]) (rest := []) (res := (f_X6_isHall X v2)) C (c_X6_isHall l D cy ad E X v2) gX6_move_X6_isHall rfl hd_X6_isHall (zW_get X sM_0) rfl rfl rfl ⟨Nat.le_of_ble_eq_true rfl, Nat.le_of_ble_eq_true rfl⟩ rfl rfl (Nat.le_of_ble_eq_true rfl) ⟨Nat.zero_le _, Nat.zero_le _⟩ dX6_move_10 ?_
    refine g_if_ne C dX6_move_13 (tgt := 22) (by decide) (fun hc_4 => ?_) (fun hc_4 => ?_)
    · replace h := (if_neg hc_4).symm.trans h
      refine g_iload_n (j := 3) C dX6_move_22 rfl rfl ?_
      refine g_iconst (v := 0) C dX6_move_23 (by decide) ?_
      refine g_sipush (v := 959) C dX6_move_24 (by decide) ?_
      refine g_si (ws' := (zW cy ad shM E X)) (As := [.int v3, .int (0 : Int32), .int (959 : Int32)]) (rest := []) (res := (f_X6_in v3 (0 : Int32) (959 : Int32))) C (c_X6_in l D cy (zW cy ad shM E X) v3 (0 : Int32) (959 : Int32)) gX6_move_X6_in rfl hd_X6_in rfl rfl ⟨Nat.le_of_ble_eq_true rfl, Nat.le_of_ble_eq_true rfl⟩ rfl rfl (Nat.le_of_ble_eq_true rfl) ⟨Nat.zero_le _, Nat.zero_le _⟩ dX6_move_27 ?_
      refine g_if_ne C dX6_move_30 (tgt := 39) (by decide) (fun hc_5 => ?_) (fun hc_5 => ?_)
      · replace h := (if_neg hc_5).symm.trans h
        refine g_aload_n (j := 0) C dX6_move_39 rfl rfl ?_
        refine g_iload_n (j := 1) C dX6_move_40 rfl rfl ?_
        obtain ⟨q_6, hq_7, h⟩ := bind_isome h
        refine g_vi (ws' := (zW cy ad shM E X)) (As := [.int v1]) (rest := []) (res := q_6) C (c_X6_stands l D cy ad E X v1 hq_7) gX6_move_X6_stands rfl hd_X6_stands (zW_get X sM_0) rfl rfl rfl ⟨Nat.le_of_ble_eq_true rfl, Nat.le_of_ble_eq_true rfl⟩ rfl rfl (Nat.le_of_ble_eq_true rfl) ⟨Nat.zero_le _, Nat.zero_le _⟩ dX6_move_41 ?_
        refine g_if_eq C dX6_move_44 (tgt := 55) (by decide) (fun hc_8 => ?_) (fun hc_8 => ?_)
        · replace h := (if_pos hc_8).symm.trans h
          refine g_aload_n (j := 0) C dX6_move_55 rfl rfl ?_
          refine g_iconst (v := 3) C dX6_move_56 (by decide) ?_
          obtain ⟨q_9, e_10, h⟩ := zlet_ex h
          refine g_vi (ws' := (zW cy ad shM E q_9.2)) (As := [.int (3 : Int32)]) (rest := []) (res := q_9.1) C ((by rw [e_10]; exact c_X6_fails l D cy ad E X (3 : Int32))) gX6_move_X6_fails rfl hd_X6_fails (zW_get X sM_0) rfl rfl rfl ⟨Nat.le_of_ble_eq_true rfl, Nat.le_of_ble_eq_true rfl⟩ rfl rfl (Nat.le_of_ble_eq_true rfl) ⟨Nat.zero_le _, Nat.zero_le _⟩ dX6_move_57 ?_
          obtain rfl := Option.some.inj h
          exact g_iret rfl C hr rfl dX6_move_60
        · replace h := (if_neg hc_8).symm.trans h
          refine g_aload_n (j := 0) C dX6_move_47 rfl rfl ?_
          refine g_iload_n (j := 1) C dX6_move_48 rfl rfl ?_
          obtain ⟨q_11, hq_12, h⟩ := bind_isome h
          refine g_vi (ws' := (zW cy ad shM E X)) (As := [.int v1]) (rest := []) (res := q_11) C (c_X6_isOver l D cy ad E X v1 hq_12) gX6_move_X6_isOver rfl hd_X6_isOver (zW_get X sM_0) rfl rfl rfl ⟨Nat.le_of_ble_eq_true rfl, Nat.le_of_ble_eq_true rfl⟩ rfl rfl (Nat.le_of_ble_eq_true rfl) ⟨Nat.zero_le _, Nat.zero_le _⟩ dX6_move_49 ?_
          refine g_if_eq C dX6_move_52 (tgt := 61) (by decide) (fun hc_13 => ?_) (fun hc_13 => ?_)
          · replace h := (if_pos hc_13).symm.trans h
            refine g_aload_n (j := 0) C dX6_move_61 rfl rfl ?_
            refine g_iload_n (j := 2) C dX6_move_62 rfl rfl ?_
            refine g_iconst (v := 0) C dX6_move_63 (by decide) ?_
            obtain ⟨q_14, hq_15, h⟩ := bind_isome h
            refine g_vi (ws' := (zW cy ad shM E X)) (As := [.int v2, .int (0 : Int32)]) (rest := []) (res := q_14) C (c_X6_hallAt l D cy ad E X v2 (0 : Int32) hq_15) gX6_move_X6_hallAt rfl hd_X6_hallAt (zW_get X sM_0) rfl rfl rfl ⟨Nat.le_of_ble_eq_true rfl, Nat.le_of_ble_eq_true rfl⟩ rfl rfl (Nat.le_of_ble_eq_true rfl) ⟨Nat.zero_le _, Nat.zero_le _⟩ dX6_move_64 ?_
            refine g_aload_n (j := 0) C dX6_move_67 rfl rfl ?_
            refine g_iload_n (j := 1) C dX6_move_68 rfl rfl ?_
            refine g_bipush (v := 7) C dX6_move_69 (by decide) ?_
            obtain ⟨q_16, hq_17, h⟩ := bind_isome h
            refine g_vi (ws' := (zW cy ad shM E X)) (As := [.int v1, .int (7 : Int32)]) (rest := [.int q_14]) (res := q_16) C (c_X6_showAt l D cy ad E X v1 (7 : Int32) hq_17) gX6_move_X6_showAt rfl hd_X6_showAt (zW_get X sM_0) rfl rfl rfl ⟨Nat.le_of_ble_eq_true rfl, Nat.le_of_ble_eq_true rfl⟩ rfl rfl (Nat.le_of_ble_eq_true rfl) ⟨Nat.zero_le _, Nat.zero_le _⟩ dX6_move_71 ?_
            refine g_icmp_ge C dX6_move_74 (tgt := 91) (by decide) (fun hc_18 => ?_) (fun hc_18 => ?_)
            · replace h := (if_pos hc_18).symm.trans h
              refine g_aload_n (j := 0) C dX6_move_91 rfl rfl ?_
              refine g_iload_n (j := 2) C dX6_move_92 rfl rfl ?_
              refine g_aload_n (j := 0) C dX6_move_93 rfl rfl ?_
              refine g_iload_n (j := 1) C dX6_move_94 rfl rfl ?_
              refine g_iconst (v := 1) C dX6_move_95 (by decide) ?_
              obtain ⟨q_19, hq_20, h⟩ := bind_isome h
              refine g_vi (ws' := (zW cy ad shM E X)) (As := [.int v1, .int (1 : Int32)]) (rest := [.int v2, .ref (ad 0)]) (res := q_19) C (c_X6_showAt l D cy ad E X v1 (1 : Int32) hq_20) gX6_move_X6_showAt rfl hd_X6_showAt (zW_get X sM_0) rfl rfl rfl ⟨Nat.le_of_ble_eq_true rfl, Nat.le_of_ble_eq_true rfl⟩ rfl rfl (Nat.le_of_ble_eq_true rfl) ⟨Nat.zero_le _, Nat.zero_le _⟩ dX6_move_96 ?_
              refine g_aload_n (j := 0) C dX6_move_99 rfl rfl ?_
              refine g_iload_n (j := 1) C dX6_move_100 rfl rfl ?_
              refine g_iconst (v := 2) C dX6_move_101 (by decide) ?_
              obtain ⟨q_21, hq_22, h⟩ := bind_isome h
              refine g_vi (ws' := (zW cy ad shM E X)) (As := [.int v1, .int (2 : Int32)]) (rest := [.int q_19, .int v2, .ref (ad 0)]) (res := q_21) C (c_X6_showAt l D cy ad E X v1 (2 : Int32) hq_22) gX6_move_X6_showAt rfl hd_X6_showAt (zW_get X sM_0) rfl rfl rfl ⟨Nat.le_of_ble_eq_true rfl, Nat.le_of_ble_eq_true rfl⟩ rfl rfl (Nat.le_of_ble_eq_true rfl) ⟨Nat.zero_le _, Nat.zero_le _⟩ dX6_move_102 ?_
              refine g_iload_n (j := 3) C dX6_move_105 rfl rfl ?_
              refine g_aload_n (j := 0) C dX6_move_106 rfl rfl ?_
              refine g_iload_n (j := 1) C dX6_move_107 rfl rfl ?_
              obtain ⟨q_23, hq_24, h⟩ := bind_isome h
              refine g_vi (ws' := (zW cy ad shM E X)) (As := [.int v1]) (rest := [.int v3, .int q_21, .int q_19, .int v2, .ref (ad 0)]) (res := q_23) C (c_X6_minutesOf l D cy ad E X v1 hq_24) gX6_move_X6_minutesOf rfl hd_X6_minutesOf (zW_get X sM_0) rfl rfl rfl ⟨Nat.le_of_ble_eq_true rfl, Nat.le_of_ble_eq_true rfl⟩ rfl rfl (Nat.le_of_ble_eq_true rfl) ⟨Nat.zero_le _, Nat.zero_le _⟩ dX6_move_108 ?_
              refine g_iload_n (j := 1) C dX6_move_111 rfl rfl ?_
              obtain ⟨q_25, hq_26, h⟩ := bind_isome h
              refine g_vi (ws' := (zW cy ad shM E q_25.2)) (As := [.int v2, .int q_19, .int q_21, .int v3, .int q_23, .int v1]) (rest := []) (res := q_25.1) C (c_X6_breaks l D cy ad E X v2 q_19 q_21 v3 q_23 v1 hq_26) gX6_move_X6_breaks rfl hd_X6_breaks (zW_get X sM_0) rfl rfl rfl ⟨Nat.le_of_ble_eq_true rfl, Nat.le_of_ble_eq_true rfl⟩ rfl rfl (Nat.le_of_ble_eq_true rfl) ⟨Nat.zero_le _, Nat.zero_le _⟩ dX6_move_112 ?_
              refine g_istore (L' := [(4, .int q_25.1), (0, .ref (ad 0)), (1, .int v1), (2, .int v2), (3, .int v3)]) C dX6_move_115 (by decide) rfl ?_
              refine g_iload (j := 0) C dX6_move_117 rfl ?_
              refine g_if_eq C dX6_move_119 (tgt := 134) (by decide) (fun hc_27 => ?_) (fun hc_27 => ?_)
              · replace h := (if_pos hc_27).symm.trans h
                refine g_aload_n (j := 1) C dX6_move_134 rfl rfl ?_
                obtain ⟨q_28, hq_29, h⟩ := bind_isome h
                refine g_vv (ws' := (zW cy ad shM E q_28)) (As := []) (rest := []) C (c_X6_remembers l D cy ad E q_25.2 hq_29) gX6_move_X6_remembers rfl hd_X6_remembers (zW_get q_25.2 sM_0) rfl rfl rfl ⟨Nat.le_of_ble_eq_true rfl, Nat.le_of_ble_eq_true rfl⟩ rfl rfl (Nat.le_of_ble_eq_true rfl) ⟨Nat.zero_le _, Nat.zero_le _⟩ dX6_move_135 ?_
                refine g_iload_n (j := 4) C dX6_move_138 rfl rfl ?_
                refine g_aload_n (j := 1) C dX6_move_139 rfl rfl ?_
                refine g_iload_n (j := 2) C dX6_move_140 rfl rfl ?_
                refine g_iconst (v := 3) C dX6_move_141 (by decide) ?_
                obtain ⟨q_30, hq_31, h⟩ := bind_isome h
                refine g_vi (ws' := (zW cy ad shM E q_28)) (As := [.int v1, .int (3 : Int32)]) (rest := [.int v3]) (res := q_30) C (c_X6_showAt l D cy ad E q_28 v1 (3 : Int32) hq_31) gX6_move_X6_showAt rfl hd_X6_showAt (zW_get q_28 sM_0) rfl rfl rfl ⟨Nat.le_of_ble_eq_true rfl, Nat.le_of_ble_eq_true rfl⟩ rfl rfl (Nat.le_of_ble_eq_true rfl) ⟨Nat.zero_le _, Nat.zero_le _⟩ dX6_move_142 ?_
                refine g_isub C dX6_move_145 ?_
                refine g_istore (L' := [(5, .int (v3 - q_30)), (4, .int q_25.1), (0, .ref (ad 0)), (1, .int v1), (2, .int v2), (3, .int v3)]) C dX6_move_146 (by decide) rfl ?_
                refine g_aload_n (j := 2) C dX6_move_148 rfl rfl ?_
                refine g_getr (k := 1) (N := 27) C sM_0 rfl in_X6_move_RX6 (by decide) rfl fl_X6_move_9 rfl dX6_move_149 ?_
                refine g_sipush (v := 158) C dX6_move_152 (by decide) ?_
                refine g_bipush (v := 9) C dX6_move_155 (by decide) ?_
                refine g_iload_n (j := 3) C dX6_move_157 rfl rfl ?_
                refine g_imul C dX6_move_158 ?_
                refine g_iadd C dX6_move_159 ?_
                refine g_iconst (v := 0) C dX6_move_160 (by decide) ?_
                refine g_iadd C dX6_move_161 ?_
                refine g_iload_n (j := 4) C dX6_move_162 rfl rfl ?_
                obtain ⟨hi_32, h⟩ := ite_inone h
                refine g_iast C sM_1 hi_32 dX6_move_163 ?_
                obtain ⟨X_33, e_34, h⟩ := zlet_ex h
                rw [← e_34]
                refine g_aload_n (j := 2) C dX6_move_164 rfl rfl ?_
                refine g_getr (k := 1) (N := 27) C sM_0 rfl in_X6_move_RX6 (by decide) rfl fl_X6_move_9 rfl dX6_move_165 ?_
                refine g_sipush (v := 158) C dX6_move_168 (by decide) ?_
                refine g_bipush (v := 9) C dX6_move_171 (by decide) ?_
                refine g_iload_n (j := 3) C dX6_move_173 rfl rfl ?_
                refine g_imul C dX6_move_174 ?_
                refine g_iadd C dX6_move_175 ?_
                refine g_iconst (v := 3) C dX6_move_176 (by decide) ?_
                refine g_iadd C dX6_move_177 ?_
                refine g_iload_n (j := 5) C dX6_move_178 rfl rfl ?_
                obtain ⟨hi_35, h⟩ := ite_inone h
                refine g_iast C sM_1 hi_35 dX6_move_179 ?_
                obtain ⟨X_36, e_37, h⟩ := zlet_ex h
                rw [← e_37]
                refine g_aload_n (j := 2) C dX6_move_180 rfl rfl ?_
                refine g_iload (j := 0) C dX6_move_181 rfl ?_
                refine g_if_ge C dX6_move_183 (tgt := 192) (by decide) (fun hc_38 => ?_) (fun hc_38 => ?_)
                · replace h := (if_pos hc_38).symm.trans h
                  refine g_iload (j := 0) C dX6_move_192 rfl ?_
                  obtain ⟨q_39, e_40, h⟩ := zlet_ex h
                  refine g_vi (ws' := (zW cy ad shM E q_39.2)) (As := [.int (v3 - q_30)]) (rest := []) (res := q_39.1) C ((by rw [e_40]; exact c_X6_done l D cy ad E X_36 (v3 - q_30))) gX6_move_X6_done rfl hd_X6_done (zW_get X_36 sM_0) rfl rfl rfl ⟨Nat.le_of_ble_eq_true rfl, Nat.le_of_ble_eq_true rfl⟩ rfl rfl (Nat.le_of_ble_eq_true rfl) ⟨Nat.zero_le _, Nat.zero_le _⟩ dX6_move_194 ?_
                  obtain rfl := Option.some.inj h
                  exact g_iret rfl C hr rfl dX6_move_197
                · replace h := (if_neg hc_38).symm.trans h
                  refine g_iload (j := 0) C dX6_move_186 rfl ?_
                  refine g_ineg C dX6_move_188 ?_
                  refine g_goto C dX6_move_189 (tgt := 194) (by decide) ?_
                  obtain ⟨q_41, e_42, h⟩ := zlet_ex h
                  refine g_vi (ws' := (zW cy ad shM E q_41.2)) (As := [.int (-(v3 - q_30))]) (rest := []) (res := q_41.1) C ((by rw [e_42]; exact c_X6_done l D cy ad E X_36 (-(v3 - q_30)))) gX6_move_X6_done rfl hd_X6_done (zW_get X_36 sM_0) rfl rfl rfl ⟨Nat.le_of_ble_eq_true rfl, Nat.le_of_ble_eq_true rfl⟩ rfl rfl (Nat.le_of_ble_eq_true rfl) ⟨Nat.zero_le _, Nat.zero_le _⟩ dX6_move_194 ?_
                  obtain rfl := Option.some.inj h
                  exact g_iret rfl C hr rfl dX6_move_197
              · replace h := (if_neg hc_27).symm.trans h
                refine g_aload_n (j := 1) C dX6_move_122 rfl rfl ?_
                refine g_iload (j := 0) C dX6_move_123 rfl ?_
                refine g_aload_n (j := 1) C dX6_move_125 rfl rfl ?_
                refine g_geti (k := 21) (N := 27) C sM_0 rfl in_X6_move_RX6 (by decide) rfl fl_X6_move_166 rfl dX6_move_126 ?_
                refine g_iconst (v := 4) C dX6_move_129 (by decide) ?_
                obtain ⟨q_43, e_44, h⟩ := zlet_ex h
                refine g_vi (ws' := (zW cy ad shM E q_43.2)) (As := [.int q_25.1, .int (q_25.2 0 21), .int (4 : Int32)]) (rest := []) (res := q_43.1) C ((by rw [e_44]; exact c_X6_refuses l D cy ad E q_25.2 q_25.1 (q_25.2 0 21) (4 : Int32))) gX6_move_X6_refuses rfl hd_X6_refuses (zW_get q_25.2 sM_0) rfl rfl rfl ⟨Nat.le_of_ble_eq_true rfl, Nat.le_of_ble_eq_true rfl⟩ rfl rfl (Nat.le_of_ble_eq_true rfl) ⟨Nat.zero_le _, Nat.zero_le _⟩ dX6_move_130 ?_
                obtain rfl := Option.some.inj h
                exact g_iret rfl C hr rfl dX6_move_133
            · replace h := (if_neg hc_18).symm.trans h
              refine g_aload_n (j := 0) C dX6_move_77 rfl rfl ?_
              refine g_bipush (v := 11) C dX6_move_78 (by decide) ?_
              refine g_aload_n (j := 0) C dX6_move_80 rfl rfl ?_
              refine g_iload_n (j := 2) C dX6_move_81 rfl rfl ?_
              refine g_iconst (v := 0) C dX6_move_82 (by decide) ?_
              obtain ⟨q_45, hq_46, h⟩ := bind_isome h
              refine g_vi (ws' := (zW cy ad shM E X)) (As := [.int v2, .int (0 : Int32)]) (rest := [.int (11 : Int32), .ref (ad 0)]) (res := q_45) C (c_X6_hallAt l D cy ad E X v2 (0 : Int32) hq_46) gX6_move_X6_hallAt rfl hd_X6_hallAt (zW_get X sM_0) rfl rfl rfl ⟨Nat.le_of_ble_eq_true rfl, Nat.le_of_ble_eq_true rfl⟩ rfl rfl (Nat.le_of_ble_eq_true rfl) ⟨Nat.zero_le _, Nat.zero_le _⟩ dX6_move_83 ?_
              refine g_iconst (v := 4) C dX6_move_86 (by decide) ?_
              obtain ⟨q_47, e_48, h⟩ := zlet_ex h
              refine g_vi (ws' := (zW cy ad shM E q_47.2)) (As := [.int (11 : Int32), .int q_45, .int (4 : Int32)]) (rest := []) (res := q_47.1) C ((by rw [e_48]; exact c_X6_refuses l D cy ad E X (11 : Int32) q_45 (4 : Int32))) gX6_move_X6_refuses rfl hd_X6_refuses (zW_get X sM_0) rfl rfl rfl ⟨Nat.le_of_ble_eq_true rfl, Nat.le_of_ble_eq_true rfl⟩ rfl rfl (Nat.le_of_ble_eq_true rfl) ⟨Nat.zero_le _, Nat.zero_le _⟩ dX6_move_87 ?_
              obtain rfl := Option.some.inj h
              exact g_iret rfl C hr rfl dX6_move_90
          · replace h := (if_neg hc_13).symm.trans h
            refine g_aload_n (j := 0) C dX6_move_55 rfl rfl ?_
            refine g_iconst (v := 3) C dX6_move_56 (by decide) ?_
            obtain ⟨q_49, e_50, h⟩ := zlet_ex h
            refine g_vi (ws' := (zW cy ad shM E q_49.2)) (As := [.int (3 : Int32)]) (rest := []) (res := q_49.1) C ((by rw [e_50]; exact c_X6_fails l D cy ad E X (3 : Int32))) gX6_move_X6_fails rfl hd_X6_fails (zW_get X sM_0) rfl rfl rfl ⟨Nat.le_of_ble_eq_true rfl, Nat.le_of_ble_eq_true rfl⟩ rfl rfl (Nat.le_of_ble_eq_true rfl) ⟨Nat.zero_le _, Nat.zero_le _⟩ dX6_move_57 ?_
            obtain rfl := Option.some.inj h
            exact g_iret rfl C hr rfl dX6_move_60
      · replace h := (if_pos hc_5).symm.trans h
        refine g_aload_n (j := 0) C dX6_move_33 rfl rfl ?_
        refine g_iconst (v := 2) C dX6_move_34 (by decide) ?_
        obtain ⟨q_51, e_52, h⟩ := zlet_ex h
        refine g_vi (ws' := (zW cy ad shM E q_51.2)) (As := [.int (2 : Int32)]) (rest := []) (res := q_51.1) C ((by rw [e_52]; exact c_X6_fails l D cy ad E X (2 : Int32))) gX6_move_X6_fails rfl hd_X6_fails (zW_get X sM_0) rfl rfl rfl ⟨Nat.le_of_ble_eq_true rfl, Nat.le_of_ble_eq_true rfl⟩ rfl rfl (Nat.le_of_ble_eq_true rfl) ⟨Nat.zero_le _, Nat.zero_le _⟩ dX6_move_35 ?_
        obtain rfl := Option.some.inj h
        exact g_iret rfl C hr rfl dX6_move_38
    · replace h := (if_pos hc_4).symm.trans h
      refine g_aload_n (j := 0) C dX6_move_16 rfl rfl ?_
      refine g_iconst (v := 1) C dX6_move_17 (by decide) ?_
      obtain ⟨q_53, e_54, h⟩ := zlet_ex h
      refine g_vi (ws' := (zW cy ad shM E q_53.2)) (As := [.int (1 : Int32)]) (rest := []) (res := q_53.1) C ((by rw [e_54]; exact c_X6_fails l D cy ad E X (1 : Int32))) gX6_move_X6_fails rfl hd_X6_fails (zW_get X sM_0) rfl rfl rfl ⟨Nat.le_of_ble_eq_true rfl, Nat.le_of_ble_eq_true rfl⟩ rfl rfl (Nat.le_of_ble_eq_true rfl) ⟨Nat.zero_le _, Nat.zero_le _⟩ dX6_move_18 ?_
      obtain rfl := Option.some.inj h
      exact g_iret rfl C hr rfl dX6_move_21
theorem in_X6_cancels_RX6 : ∀ w ∈ u_ws RX6 TX6 27, w ∈ wsX6_cancels := by decide +kernel
theorem fl_X6_cancels_9 : (Cond.fieldLink RX6 9 RX6 (TX6 1).2.1 (TX6 1).2.2.1) ∈ wsX6_cancels := by decide +kernel
theorem hd_X6_cancels : yX6_cancels.cls = RX6 ∧ yX6_cancels.cls ≠ "java/lang/invoke/MethodHandle" ∧ yX6_cancels.cls ≠ "java/lang/invoke/VarHandle" ∧ (parseMethodDescriptor yX6_cancels.desc).map (fun d => d.parameters.length) = some 1 := by decide +kernel
def f_X6_cancels (X : Nat → Nat → Int32) (v1 : Int32) : Option (Int32 × (Nat → Nat → Int32)) := ((f_X6_showAt X v1 (7 : Int32)).bind fun q_1 => (if (((158 : Int32) + ((9 : Int32) * v1)) + (8 : Int32)) < 0 ∨ 580 ≤ (((158 : Int32) + ((9 : Int32) * v1)) + (8 : Int32)).toNatClampNeg then none else (zlet (zU X 1 (((158 : Int32) + ((9 : Int32) * v1)) + (8 : Int32)).toNatClampNeg (1 : Int32)) fun X_4 => (if (((158 : Int32) + ((9 : Int32) * v1)) + (7 : Int32)) < 0 ∨ 580 ≤ (((158 : Int32) + ((9 : Int32) * v1)) + (7 : Int32)).toNatClampNeg then none else (zlet (zU X_4 1 (((158 : Int32) + ((9 : Int32) * v1)) + (7 : Int32)).toNatClampNeg (0 : Int32)) fun X_7 => (zlet (zU X_7 1 (5 : Int32).toNatClampNeg ((X_7 1 (5 : Int32).toNatClampNeg) + q_1)) fun X_9 => some (q_1, X_9)))))))
set_option maxRecDepth 100000 in
set_option maxHeartbeats 4000000 in
theorem c_X6_cancels (l : Launch) (D : va_G) (cy : Nat → ClassId) (ad : Nat → Nat) (E : va_W) (X : Nat → Nat → Int32) (v1 : Int32) {res : Int32 × (Nat → Nat → Int32)} (h : f_X6_cancels X v1 = some res) : zMi l yX6_cancels wsX6_cancels (zrm 2) D (zTy cy) (zW cy ad shM E X) [.ref (ad 0), .int v1] res.1 (zW cy ad shM E res.2) := by
  refine zMi.of (cc := cX6_cancels) (maxL := 3) (ret := (some .int)) (by decide) rfl (Nat.le_of_ble_eq_true rfl) ?_
  intro p e s m below meth c A C hr
  unfold f_X6_cancels at h
  refine zG_L (L' := [(0, .ref (ad 0)), (1, .int v1)]) rfl ?_
  refine g_aload_n (j := 0) C dX6_cancels_0 rfl rfl ?_
  refine g_iload_n (j := 1) C dX6_cancels_1 rfl rfl ?_
  refine g_bipush (v := 7) C dX6_cancels_2 (by decide) ?_
  obtain ⟨q_1, hq_2, h⟩ := bind_isome h
  refine g_vi (ws' := (zW cy ad shM E X)) (As := [.int v1, .int (7 : Int32)]) (rest := []) (res := q_1) C (c_X6_showAt l D cy ad E X v1 (7 : Int32) hq_2) gX6_cancels_X6_showAt rfl hd_X6_showAt (zW_get X sM_0) rfl rfl rfl ⟨Nat.le_of_ble_eq_true rfl, Nat.le_of_ble_eq_true rfl⟩ rfl rfl (Nat.le_of_ble_eq_true rfl) ⟨Nat.zero_le _, Nat.zero_le _⟩ dX6_cancels_4 ?_
  refine g_istore_n (L' := [(2, .int q_1), (0, .ref (ad 0)), (1, .int v1)]) C dX6_cancels_7 rfl (by decide) rfl ?_
  refine g_aload_n (j := 1) C dX6_cancels_8 rfl rfl ?_
  refine g_getr (k := 1) (N := 27) C sM_0 rfl in_X6_cancels_RX6 (by decide) rfl fl_X6_cancels_9 rfl dX6_cancels_9 ?_
  refine g_sipush (v := 158) C dX6_cancels_12 (by decide) ?_
  refine g_bipush (v := 9) C dX6_cancels_15 (by decide) ?_
  refine g_iload_n (j := 2) C dX6_cancels_17 rfl rfl ?_
  refine g_imul C dX6_cancels_18 ?_
  refine g_iadd C dX6_cancels_19 ?_
  refine g_bipush (v := 8) C dX6_cancels_20 (by decide) ?_
  refine g_iadd C dX6_cancels_22 ?_
  refine g_iconst (v := 1) C dX6_cancels_23 (by decide) ?_
  obtain ⟨hi_3, h⟩ := ite_inone h
  refine g_iast C sM_1 hi_3 dX6_cancels_24 ?_
  obtain ⟨X_4, e_5, h⟩ := zlet_ex h
  rw [← e_5]
  refine g_aload_n (j := 1) C dX6_cancels_25 rfl rfl ?_
  refine g_getr (k := 1) (N := 27) C sM_0 rfl in_X6_cancels_RX6 (by decide) rfl fl_X6_cancels_9 rfl dX6_cancels_26 ?_
  refine g_sipush (v := 158) C dX6_cancels_29 (by decide) ?_
  refine g_bipush (v := 9) C dX6_cancels_32 (by decide) ?_
  refine g_iload_n (j := 2) C dX6_cancels_34 rfl rfl ?_
  refine g_imul C dX6_cancels_35 ?_
  refine g_iadd C dX6_cancels_36 ?_
  refine g_bipush (v := 7) C dX6_cancels_37 (by decide) ?_
  refine g_iadd C dX6_cancels_39 ?_
  refine g_iconst (v := 0) C dX6_cancels_40 (by decide) ?_
  obtain ⟨hi_6, h⟩ := ite_inone h
  refine g_iast C sM_1 hi_6 dX6_cancels_41 ?_
  obtain ⟨X_7, e_8, h⟩ := zlet_ex h
  rw [← e_8]
  refine g_aload_n (j := 1) C dX6_cancels_42 rfl rfl ?_
  refine g_getr (k := 1) (N := 27) C sM_0 rfl in_X6_cancels_RX6 (by decide) rfl fl_X6_cancels_9 rfl dX6_cancels_43 ?_
  refine g_iconst (v := 5) C dX6_cancels_46 (by decide) ?_
  refine g_dup2 C dX6_cancels_47 rfl rfl ?_
  refine g_iald C sM_1 (by decide) dX6_cancels_48 ?_
  refine g_iload_n (j := 0) C dX6_cancels_49 rfl rfl ?_
  refine g_iadd C dX6_cancels_50 ?_
  refine g_iast C sM_1 (by decide) dX6_cancels_51 ?_
  obtain ⟨X_9, e_10, h⟩ := zlet_ex h
  rw [← e_10]
  refine g_iload_n (j := 0) C dX6_cancels_52 rfl rfl ?_
  obtain rfl := Option.some.inj h
  exact g_iret rfl C hr rfl dX6_cancels_53
theorem hd_X6_cancel : yX6_cancel.cls = RX6 ∧ yX6_cancel.cls ≠ "java/lang/invoke/MethodHandle" ∧ yX6_cancel.cls ≠ "java/lang/invoke/VarHandle" ∧ (parseMethodDescriptor yX6_cancel.desc).map (fun d => d.parameters.length) = some 1 := by decide +kernel
def f_X6_cancel (X : Nat → Nat → Int32) (v1 : Int32) : Option (Int32 × (Nat → Nat → Int32)) := (if (f_X6_isShow X v1) = 0 then (zlet (f_X6_fails X (1 : Int32)) fun q_18 => some (q_18.1, q_18.2)) else ((f_X6_stands X v1).bind fun q_2 => (if q_2 = 0 then (zlet (f_X6_fails X (2 : Int32)) fun q_5 => some (q_5.1, q_5.2)) else ((f_X6_isOver X v1).bind fun q_7 => (if q_7 = 0 then ((f_X6_remembers X).bind fun q_10 => ((f_X6_cancels q_10 v1).bind fun q_12 => (zlet (f_X6_done q_12.2 q_12.1) fun q_14 => some (q_14.1, q_14.2)))) else (zlet (f_X6_fails X (2 : Int32)) fun q_16 => some (q_16.1, q_16.2)))))))
set_option maxRecDepth 100000 in
set_option maxHeartbeats 4000000 in
theorem c_X6_cancel (l : Launch) (D : va_G) (cy : Nat → ClassId) (ad : Nat → Nat) (E : va_W) (X : Nat → Nat → Int32) (v1 : Int32) {res : Int32 × (Nat → Nat → Int32)} (h : f_X6_cancel X v1 = some res) : zMi l yX6_cancel wsX6_cancel (zrm 4) D (zTy cy) (zW cy ad shM E X) [.ref (ad 0), .int v1] res.1 (zW cy ad shM E res.2) := by
  refine zMi.of (cc := cX6_cancel) (maxL := 2) (ret := (some .int)) (by decide) rfl (Nat.le_of_ble_eq_true rfl) ?_
  intro p e s m below meth c A C hr
  unfold f_X6_cancel at h
  refine zG_L (L' := [(0, .ref (ad 0)), (1, .int v1)]) rfl ?_
  refine g_aload_n (j := 0) C dX6_cancel_0 rfl rfl ?_
  refine g_iload_n (j := 1) C dX6_cancel_1 rfl rfl ?_
  refine g_vi (ws' := (zW cy ad shM E X)) (As := [.int v1]) (rest := []) (res := (f_X6_isShow X v1)) C (c_X6_isShow l D cy ad E X v1) gX6_cancel_X6_isShow rfl hd_X6_isShow (zW_get X sM_0) rfl rfl rfl ⟨Nat.le_of_ble_eq_true rfl, Nat.le_of_ble_eq_true rfl⟩ rfl rfl (Nat.le_of_ble_eq_true rfl) ⟨Nat.zero_le _, Nat.zero_le _⟩ dX6_cancel_2 ?_
  refine g_if_ne C dX6_cancel_5 (tgt := 14) (by decide) (fun hc_1 => ?_) (fun hc_1 => ?_)
  · replace h := (if_neg hc_1).symm.trans h
    refine g_aload_n (j := 0) C dX6_cancel_14 rfl rfl ?_
    refine g_iload_n (j := 1) C dX6_cancel_15 rfl rfl ?_
    obtain ⟨q_2, hq_3, h⟩ := bind_isome h
    refine g_vi (ws' := (zW cy ad shM E X)) (As := [.int v1]) (rest := []) (res := q_2) C (c_X6_stands l D cy ad E X v1 hq_3) gX6_cancel_X6_stands rfl hd_X6_stands (zW_get X sM_0) rfl rfl rfl ⟨Nat.le_of_ble_eq_true rfl, Nat.le_of_ble_eq_true rfl⟩ rfl rfl (Nat.le_of_ble_eq_true rfl) ⟨Nat.zero_le _, Nat.zero_le _⟩ dX6_cancel_16 ?_
    refine g_if_eq C dX6_cancel_19 (tgt := 30) (by decide) (fun hc_4 => ?_) (fun hc_4 => ?_)
    · replace h := (if_pos hc_4).symm.trans h
      refine g_aload_n (j := 0) C dX6_cancel_30 rfl rfl ?_
      refine g_iconst (v := 2) C dX6_cancel_31 (by decide) ?_
      obtain ⟨q_5, e_6, h⟩ := zlet_ex h
      refine g_vi (ws' := (zW cy ad shM E q_5.2)) (As := [.int (2 : Int32)]) (rest := []) (res := q_5.1) C ((by rw [e_6]; exact c_X6_fails l D cy ad E X (2 : Int32))) gX6_cancel_X6_fails rfl hd_X6_fails (zW_get X sM_0) rfl rfl rfl ⟨Nat.le_of_ble_eq_true rfl, Nat.le_of_ble_eq_true rfl⟩ rfl rfl (Nat.le_of_ble_eq_true rfl) ⟨Nat.zero_le _, Nat.zero_le _⟩ dX6_cancel_32 ?_
      obtain rfl := Option.some.inj h
      exact g_iret rfl C hr rfl dX6_cancel_35
    · replace h := (if_neg hc_4).symm.trans h
      refine g_aload_n (j := 0) C dX6_cancel_22 rfl rfl ?_
      refine g_iload_n (j := 1) C dX6_cancel_23 rfl rfl ?_
      obtain ⟨q_7, hq_8, h⟩ := bind_isome h
      refine g_vi (ws' := (zW cy ad shM E X)) (As := [.int v1]) (rest := []) (res := q_7) C (c_X6_isOver l D cy ad E X v1 hq_8) gX6_cancel_X6_isOver rfl hd_X6_isOver (zW_get X sM_0) rfl rfl rfl ⟨Nat.le_of_ble_eq_true rfl, Nat.le_of_ble_eq_true rfl⟩ rfl rfl (Nat.le_of_ble_eq_true rfl) ⟨Nat.zero_le _, Nat.zero_le _⟩ dX6_cancel_24 ?_
      refine g_if_eq C dX6_cancel_27 (tgt := 36) (by decide) (fun hc_9 => ?_) (fun hc_9 => ?_)
      · replace h := (if_pos hc_9).symm.trans h
        refine g_aload_n (j := 0) C dX6_cancel_36 rfl rfl ?_
        obtain ⟨q_10, hq_11, h⟩ := bind_isome h
        refine g_vv (ws' := (zW cy ad shM E q_10)) (As := []) (rest := []) C (c_X6_remembers l D cy ad E X hq_11) gX6_cancel_X6_remembers rfl hd_X6_remembers (zW_get X sM_0) rfl rfl rfl ⟨Nat.le_of_ble_eq_true rfl, Nat.le_of_ble_eq_true rfl⟩ rfl rfl (Nat.le_of_ble_eq_true rfl) ⟨Nat.zero_le _, Nat.zero_le _⟩ dX6_cancel_37 ?_
        refine g_aload_n (j := 0) C dX6_cancel_40 rfl rfl ?_
        refine g_aload_n (j := 0) C dX6_cancel_41 rfl rfl ?_
        refine g_iload_n (j := 1) C dX6_cancel_42 rfl rfl ?_
        obtain ⟨q_12, hq_13, h⟩ := bind_isome h
        refine g_vi (ws' := (zW cy ad shM E q_12.2)) (As := [.int v1]) (rest := [.ref (ad 0)]) (res := q_12.1) C (c_X6_cancels l D cy ad E q_10 v1 hq_13) gX6_cancel_X6_cancels rfl hd_X6_cancels (zW_get q_10 sM_0) rfl rfl rfl ⟨Nat.le_of_ble_eq_true rfl, Nat.le_of_ble_eq_true rfl⟩ rfl rfl (Nat.le_of_ble_eq_true rfl) ⟨Nat.zero_le _, Nat.zero_le _⟩ dX6_cancel_43 ?_
        obtain ⟨q_14, e_15, h⟩ := zlet_ex h
        refine g_vi (ws' := (zW cy ad shM E q_14.2)) (As := [.int q_12.1]) (rest := []) (res := q_14.1) C ((by rw [e_15]; exact c_X6_done l D cy ad E q_12.2 q_12.1)) gX6_cancel_X6_done rfl hd_X6_done (zW_get q_12.2 sM_0) rfl rfl rfl ⟨Nat.le_of_ble_eq_true rfl, Nat.le_of_ble_eq_true rfl⟩ rfl rfl (Nat.le_of_ble_eq_true rfl) ⟨Nat.zero_le _, Nat.zero_le _⟩ dX6_cancel_46 ?_
        obtain rfl := Option.some.inj h
        exact g_iret rfl C hr rfl dX6_cancel_49
      · replace h := (if_neg hc_9).symm.trans h
        refine g_aload_n (j := 0) C dX6_cancel_30 rfl rfl ?_
        refine g_iconst (v := 2) C dX6_cancel_31 (by decide) ?_
        obtain ⟨q_16, e_17, h⟩ := zlet_ex h
        refine g_vi (ws' := (zW cy ad shM E q_16.2)) (As := [.int (2 : Int32)]) (rest := []) (res := q_16.1) C ((by rw [e_17]; exact c_X6_fails l D cy ad E X (2 : Int32))) gX6_cancel_X6_fails rfl hd_X6_fails (zW_get X sM_0) rfl rfl rfl ⟨Nat.le_of_ble_eq_true rfl, Nat.le_of_ble_eq_true rfl⟩ rfl rfl (Nat.le_of_ble_eq_true rfl) ⟨Nat.zero_le _, Nat.zero_le _⟩ dX6_cancel_32 ?_
        obtain rfl := Option.some.inj h
        exact g_iret rfl C hr rfl dX6_cancel_35
  · replace h := (if_pos hc_1).symm.trans h
    refine g_aload_n (j := 0) C dX6_cancel_8 rfl rfl ?_
    refine g_iconst (v := 1) C dX6_cancel_9 (by decide) ?_
    obtain ⟨q_18, e_19, h⟩ := zlet_ex h
    refine g_vi (ws' := (zW cy ad shM E q_18.2)) (As := [.int (1 : Int32)]) (rest := []) (res := q_18.1) C ((by rw [e_19]; exact c_X6_fails l D cy ad E X (1 : Int32))) gX6_cancel_X6_fails rfl hd_X6_fails (zW_get X sM_0) rfl rfl rfl ⟨Nat.le_of_ble_eq_true rfl, Nat.le_of_ble_eq_true rfl⟩ rfl rfl (Nat.le_of_ble_eq_true rfl) ⟨Nat.zero_le _, Nat.zero_le _⟩ dX6_cancel_10 ?_
    obtain rfl := Option.some.inj h
    exact g_iret rfl C hr rfl dX6_cancel_13
theorem in_X6_sell_RX6 : ∀ w ∈ u_ws RX6 TX6 27, w ∈ wsX6_sell := by decide +kernel
theorem fl_X6_sell_9 : (Cond.fieldLink RX6 9 RX6 (TX6 1).2.1 (TX6 1).2.2.1) ∈ wsX6_sell := by decide +kernel
theorem hd_X6_sell : yX6_sell.cls = RX6 ∧ yX6_sell.cls ≠ "java/lang/invoke/MethodHandle" ∧ yX6_sell.cls ≠ "java/lang/invoke/VarHandle" ∧ (parseMethodDescriptor yX6_sell.desc).map (fun d => d.parameters.length) = some 2 := by decide +kernel
def f_X6_sell (X : Nat → Nat → Int32) (v1 v2 : Int32) : Option (Int32 × (Nat → Nat → Int32)) := (if (f_X6_isShow X v1) = 0 then (zlet (f_X6_fails X (1 : Int32)) fun q_34 => some (q_34.1, q_34.2)) else (if (f_X6_in v2 (1 : Int32) (400 : Int32)) = 0 then (zlet (f_X6_fails X (2 : Int32)) fun q_32 => some (q_32.1, q_32.2)) else ((f_X6_stands X v1).bind fun q_3 => (if q_3 = 0 then (zlet (f_X6_fails X (3 : Int32)) fun q_6 => some (q_6.1, q_6.2)) else ((f_X6_isOver X v1).bind fun q_8 => (if q_8 = 0 then ((f_X6_showAt X v1 (0 : Int32)).bind fun q_11 => ((f_X6_hallAt X q_11 (0 : Int32)).bind fun q_13 => ((f_X6_showAt X v1 (7 : Int32)).bind fun q_15 => (if v2 ≤ (q_13 - q_15) then ((f_X6_remembers X).bind fun q_18 => (if (((158 : Int32) + ((9 : Int32) * v1)) + (7 : Int32)) < 0 ∨ 580 ≤ (((158 : Int32) + ((9 : Int32) * v1)) + (7 : Int32)).toNatClampNeg then none else (if (((158 : Int32) + ((9 : Int32) * v1)) + (7 : Int32)) < 0 ∨ 580 ≤ (((158 : Int32) + ((9 : Int32) * v1)) + (7 : Int32)).toNatClampNeg then none else (zlet (zU q_18 1 (((158 : Int32) + ((9 : Int32) * v1)) + (7 : Int32)).toNatClampNeg ((q_18 1 (((158 : Int32) + ((9 : Int32) * v1)) + (7 : Int32)).toNatClampNeg) + v2)) fun X_22 => ((f_X6_showAt X_22 v1 (7 : Int32)).bind fun q_24 => (zlet (f_X6_done X_22 q_24) fun q_26 => some (q_26.1, q_26.2))))))) else (zlet (f_X6_refuses X (12 : Int32) (q_13 - q_15) (4 : Int32)) fun q_28 => some (q_28.1, q_28.2)))))) else (zlet (f_X6_fails X (3 : Int32)) fun q_30 => some (q_30.1, q_30.2))))))))
set_option maxRecDepth 100000 in
set_option maxHeartbeats 4000000 in
theorem c_X6_sell (l : Launch) (D : va_G) (cy : Nat → ClassId) (ad : Nat → Nat) (E : va_W) (X : Nat → Nat → Int32) (v1 v2 : Int32) {res : Int32 × (Nat → Nat → Int32)} (h : f_X6_sell X v1 v2 = some res) : zMi l yX6_sell wsX6_sell (zrm 4) D (zTy cy) (zW cy ad shM E X) [.ref (ad 0), .int v1, .int v2] res.1 (zW cy ad shM E res.2) := by
  refine zMi.of (cc := cX6_sell) (maxL := 4) (ret := (some .int)) (by decide) rfl (Nat.le_of_ble_eq_true rfl) ?_
  intro p e s m below meth c A C hr
  unfold f_X6_sell at h
  refine zG_L (L' := [(0, .ref (ad 0)), (1, .int v1), (2, .int v2)]) rfl ?_
  refine g_aload_n (j := 0) C dX6_sell_0 rfl rfl ?_
  refine g_iload_n (j := 1) C dX6_sell_1 rfl rfl ?_
  refine g_vi (ws' := (zW cy ad shM E X)) (As := [.int v1]) (rest := []) (res := (f_X6_isShow X v1)) C (c_X6_isShow l D cy ad E X v1) gX6_sell_X6_isShow rfl hd_X6_isShow (zW_get X sM_0) rfl rfl rfl ⟨Nat.le_of_ble_eq_true rfl, Nat.le_of_ble_eq_true rfl⟩ rfl rfl (Nat.le_of_ble_eq_true rfl) ⟨Nat.zero_le _, Nat.zero_le _⟩ dX6_sell_2 ?_
  refine g_if_ne C dX6_sell_5 (tgt := 14) (by decide) (fun hc_1 => ?_) (fun hc_1 => ?_)
  · replace h := (if_neg hc_1).symm.trans h
    refine g_iload_n (j := 2) C dX6_sell_14 rfl rfl ?_
    refine g_iconst (v := 1) C dX6_sell_15 (by decide) ?_
    refine g_sipush (v := 400) C dX6_sell_16 (by decide) ?_
    refine g_si (ws' := (zW cy ad shM E X)) (As := [.int v2, .int (1 : Int32), .int (400 : Int32)]) (rest := []) (res := (f_X6_in v2 (1 : Int32) (400 : Int32))) C (c_X6_in l D cy (zW cy ad shM E X) v2 (1 : Int32) (400 : Int32)) gX6_sell_X6_in rfl hd_X6_in rfl rfl ⟨Nat.le_of_ble_eq_true rfl, Nat.le_of_ble_eq_true rfl⟩ rfl rfl (Nat.le_of_ble_eq_true rfl) ⟨Nat.zero_le _, Nat.zero_le _⟩ dX6_sell_19 ?_
    refine g_if_ne C dX6_sell_22 (tgt := 31) (by decide) (fun hc_2 => ?_) (fun hc_2 => ?_)
    · replace h := (if_neg hc_2).symm.trans h
      refine g_aload_n (j := 0) C dX6_sell_31 rfl rfl ?_
      refine g_iload_n (j := 1) C dX6_sell_32 rfl rfl ?_
      obtain ⟨q_3, hq_4, h⟩ := bind_isome h
      refine g_vi (ws' := (zW cy ad shM E X)) (As := [.int v1]) (rest := []) (res := q_3) C (c_X6_stands l D cy ad E X v1 hq_4) gX6_sell_X6_stands rfl hd_X6_stands (zW_get X sM_0) rfl rfl rfl ⟨Nat.le_of_ble_eq_true rfl, Nat.le_of_ble_eq_true rfl⟩ rfl rfl (Nat.le_of_ble_eq_true rfl) ⟨Nat.zero_le _, Nat.zero_le _⟩ dX6_sell_33 ?_
      refine g_if_eq C dX6_sell_36 (tgt := 47) (by decide) (fun hc_5 => ?_) (fun hc_5 => ?_)
      · replace h := (if_pos hc_5).symm.trans h
        refine g_aload_n (j := 0) C dX6_sell_47 rfl rfl ?_
        refine g_iconst (v := 3) C dX6_sell_48 (by decide) ?_
        obtain ⟨q_6, e_7, h⟩ := zlet_ex h
        refine g_vi (ws' := (zW cy ad shM E q_6.2)) (As := [.int (3 : Int32)]) (rest := []) (res := q_6.1) C ((by rw [e_7]; exact c_X6_fails l D cy ad E X (3 : Int32))) gX6_sell_X6_fails rfl hd_X6_fails (zW_get X sM_0) rfl rfl rfl ⟨Nat.le_of_ble_eq_true rfl, Nat.le_of_ble_eq_true rfl⟩ rfl rfl (Nat.le_of_ble_eq_true rfl) ⟨Nat.zero_le _, Nat.zero_le _⟩ dX6_sell_49 ?_
        obtain rfl := Option.some.inj h
        exact g_iret rfl C hr rfl dX6_sell_52
      · replace h := (if_neg hc_5).symm.trans h
        refine g_aload_n (j := 0) C dX6_sell_39 rfl rfl ?_
        refine g_iload_n (j := 1) C dX6_sell_40 rfl rfl ?_
        obtain ⟨q_8, hq_9, h⟩ := bind_isome h
        refine g_vi (ws' := (zW cy ad shM E X)) (As := [.int v1]) (rest := []) (res := q_8) C (c_X6_isOver l D cy ad E X v1 hq_9) gX6_sell_X6_isOver rfl hd_X6_isOver (zW_get X sM_0) rfl rfl rfl ⟨Nat.le_of_ble_eq_true rfl, Nat.le_of_ble_eq_true rfl⟩ rfl rfl (Nat.le_of_ble_eq_true rfl) ⟨Nat.zero_le _, Nat.zero_le _⟩ dX6_sell_41 ?_
        refine g_if_eq C dX6_sell_44 (tgt := 53) (by decide) (fun hc_10 => ?_) (fun hc_10 => ?_)
        · replace h := (if_pos hc_10).symm.trans h
          refine g_aload_n (j := 0) C dX6_sell_53 rfl rfl ?_
          refine g_aload_n (j := 0) C dX6_sell_54 rfl rfl ?_
          refine g_iload_n (j := 1) C dX6_sell_55 rfl rfl ?_
          refine g_iconst (v := 0) C dX6_sell_56 (by decide) ?_
          obtain ⟨q_11, hq_12, h⟩ := bind_isome h
          refine g_vi (ws' := (zW cy ad shM E X)) (As := [.int v1, .int (0 : Int32)]) (rest := [.ref (ad 0)]) (res := q_11) C (c_X6_showAt l D cy ad E X v1 (0 : Int32) hq_12) gX6_sell_X6_showAt rfl hd_X6_showAt (zW_get X sM_0) rfl rfl rfl ⟨Nat.le_of_ble_eq_true rfl, Nat.le_of_ble_eq_true rfl⟩ rfl rfl (Nat.le_of_ble_eq_true rfl) ⟨Nat.zero_le _, Nat.zero_le _⟩ dX6_sell_57 ?_
          refine g_iconst (v := 0) C dX6_sell_60 (by decide) ?_
          obtain ⟨q_13, hq_14, h⟩ := bind_isome h
          refine g_vi (ws' := (zW cy ad shM E X)) (As := [.int q_11, .int (0 : Int32)]) (rest := []) (res := q_13) C (c_X6_hallAt l D cy ad E X q_11 (0 : Int32) hq_14) gX6_sell_X6_hallAt rfl hd_X6_hallAt (zW_get X sM_0) rfl rfl rfl ⟨Nat.le_of_ble_eq_true rfl, Nat.le_of_ble_eq_true rfl⟩ rfl rfl (Nat.le_of_ble_eq_true rfl) ⟨Nat.zero_le _, Nat.zero_le _⟩ dX6_sell_61 ?_
          refine g_aload_n (j := 0) C dX6_sell_64 rfl rfl ?_
          refine g_iload_n (j := 1) C dX6_sell_65 rfl rfl ?_
          refine g_bipush (v := 7) C dX6_sell_66 (by decide) ?_
          obtain ⟨q_15, hq_16, h⟩ := bind_isome h
          refine g_vi (ws' := (zW cy ad shM E X)) (As := [.int v1, .int (7 : Int32)]) (rest := [.int q_13]) (res := q_15) C (c_X6_showAt l D cy ad E X v1 (7 : Int32) hq_16) gX6_sell_X6_showAt rfl hd_X6_showAt (zW_get X sM_0) rfl rfl rfl ⟨Nat.le_of_ble_eq_true rfl, Nat.le_of_ble_eq_true rfl⟩ rfl rfl (Nat.le_of_ble_eq_true rfl) ⟨Nat.zero_le _, Nat.zero_le _⟩ dX6_sell_68 ?_
          refine g_isub C dX6_sell_71 ?_
          refine g_istore_n (L' := [(3, .int (q_13 - q_15)), (0, .ref (ad 0)), (1, .int v1), (2, .int v2)]) C dX6_sell_72 rfl (by decide) rfl ?_
          refine g_iload_n (j := 0) C dX6_sell_73 rfl rfl ?_
          refine g_iload_n (j := 3) C dX6_sell_74 rfl rfl ?_
          refine g_icmp_ge C dX6_sell_75 (tgt := 87) (by decide) (fun hc_17 => ?_) (fun hc_17 => ?_)
          · replace h := (if_pos hc_17).symm.trans h
            refine g_aload_n (j := 1) C dX6_sell_87 rfl rfl ?_
            obtain ⟨q_18, hq_19, h⟩ := bind_isome h
            refine g_vv (ws' := (zW cy ad shM E q_18)) (As := []) (rest := []) C (c_X6_remembers l D cy ad E X hq_19) gX6_sell_X6_remembers rfl hd_X6_remembers (zW_get X sM_0) rfl rfl rfl ⟨Nat.le_of_ble_eq_true rfl, Nat.le_of_ble_eq_true rfl⟩ rfl rfl (Nat.le_of_ble_eq_true rfl) ⟨Nat.zero_le _, Nat.zero_le _⟩ dX6_sell_88 ?_
            refine g_aload_n (j := 1) C dX6_sell_91 rfl rfl ?_
            refine g_getr (k := 1) (N := 27) C sM_0 rfl in_X6_sell_RX6 (by decide) rfl fl_X6_sell_9 rfl dX6_sell_92 ?_
            refine g_sipush (v := 158) C dX6_sell_95 (by decide) ?_
            refine g_bipush (v := 9) C dX6_sell_98 (by decide) ?_
            refine g_iload_n (j := 2) C dX6_sell_100 rfl rfl ?_
            refine g_imul C dX6_sell_101 ?_
            refine g_iadd C dX6_sell_102 ?_
            refine g_bipush (v := 7) C dX6_sell_103 (by decide) ?_
            refine g_iadd C dX6_sell_105 ?_
            refine g_dup2 C dX6_sell_106 rfl rfl ?_
            obtain ⟨hi_20, h⟩ := ite_inone h
            refine g_iald C sM_1 hi_20 dX6_sell_107 ?_
            refine g_iload_n (j := 3) C dX6_sell_108 rfl rfl ?_
            refine g_iadd C dX6_sell_109 ?_
            obtain ⟨hi_21, h⟩ := ite_inone h
            refine g_iast C sM_1 hi_21 dX6_sell_110 ?_
            obtain ⟨X_22, e_23, h⟩ := zlet_ex h
            rw [← e_23]
            refine g_aload_n (j := 1) C dX6_sell_111 rfl rfl ?_
            refine g_aload_n (j := 1) C dX6_sell_112 rfl rfl ?_
            refine g_iload_n (j := 2) C dX6_sell_113 rfl rfl ?_
            refine g_bipush (v := 7) C dX6_sell_114 (by decide) ?_
            obtain ⟨q_24, hq_25, h⟩ := bind_isome h
            refine g_vi (ws' := (zW cy ad shM E X_22)) (As := [.int v1, .int (7 : Int32)]) (rest := [.ref (ad 0)]) (res := q_24) C (c_X6_showAt l D cy ad E X_22 v1 (7 : Int32) hq_25) gX6_sell_X6_showAt rfl hd_X6_showAt (zW_get X_22 sM_0) rfl rfl rfl ⟨Nat.le_of_ble_eq_true rfl, Nat.le_of_ble_eq_true rfl⟩ rfl rfl (Nat.le_of_ble_eq_true rfl) ⟨Nat.zero_le _, Nat.zero_le _⟩ dX6_sell_116 ?_
            obtain ⟨q_26, e_27, h⟩ := zlet_ex h
            refine g_vi (ws' := (zW cy ad shM E q_26.2)) (As := [.int q_24]) (rest := []) (res := q_26.1) C ((by rw [e_27]; exact c_X6_done l D cy ad E X_22 q_24)) gX6_sell_X6_done rfl hd_X6_done (zW_get X_22 sM_0) rfl rfl rfl ⟨Nat.le_of_ble_eq_true rfl, Nat.le_of_ble_eq_true rfl⟩ rfl rfl (Nat.le_of_ble_eq_true rfl) ⟨Nat.zero_le _, Nat.zero_le _⟩ dX6_sell_119 ?_
            obtain rfl := Option.some.inj h
            exact g_iret rfl C hr rfl dX6_sell_122
          · replace h := (if_neg hc_17).symm.trans h
            refine g_aload_n (j := 1) C dX6_sell_78 rfl rfl ?_
            refine g_bipush (v := 12) C dX6_sell_79 (by decide) ?_
            refine g_iload_n (j := 0) C dX6_sell_81 rfl rfl ?_
            refine g_iconst (v := 4) C dX6_sell_82 (by decide) ?_
            obtain ⟨q_28, e_29, h⟩ := zlet_ex h
            refine g_vi (ws' := (zW cy ad shM E q_28.2)) (As := [.int (12 : Int32), .int (q_13 - q_15), .int (4 : Int32)]) (rest := []) (res := q_28.1) C ((by rw [e_29]; exact c_X6_refuses l D cy ad E X (12 : Int32) (q_13 - q_15) (4 : Int32))) gX6_sell_X6_refuses rfl hd_X6_refuses (zW_get X sM_0) rfl rfl rfl ⟨Nat.le_of_ble_eq_true rfl, Nat.le_of_ble_eq_true rfl⟩ rfl rfl (Nat.le_of_ble_eq_true rfl) ⟨Nat.zero_le _, Nat.zero_le _⟩ dX6_sell_83 ?_
            obtain rfl := Option.some.inj h
            exact g_iret rfl C hr rfl dX6_sell_86
        · replace h := (if_neg hc_10).symm.trans h
          refine g_aload_n (j := 0) C dX6_sell_47 rfl rfl ?_
          refine g_iconst (v := 3) C dX6_sell_48 (by decide) ?_
          obtain ⟨q_30, e_31, h⟩ := zlet_ex h
          refine g_vi (ws' := (zW cy ad shM E q_30.2)) (As := [.int (3 : Int32)]) (rest := []) (res := q_30.1) C ((by rw [e_31]; exact c_X6_fails l D cy ad E X (3 : Int32))) gX6_sell_X6_fails rfl hd_X6_fails (zW_get X sM_0) rfl rfl rfl ⟨Nat.le_of_ble_eq_true rfl, Nat.le_of_ble_eq_true rfl⟩ rfl rfl (Nat.le_of_ble_eq_true rfl) ⟨Nat.zero_le _, Nat.zero_le _⟩ dX6_sell_49 ?_
          obtain rfl := Option.some.inj h
          exact g_iret rfl C hr rfl dX6_sell_52
    · replace h := (if_pos hc_2).symm.trans h
      refine g_aload_n (j := 0) C dX6_sell_25 rfl rfl ?_
      refine g_iconst (v := 2) C dX6_sell_26 (by decide) ?_
      obtain ⟨q_32, e_33, h⟩ := zlet_ex h
      refine g_vi (ws' := (zW cy ad shM E q_32.2)) (As := [.int (2 : Int32)]) (rest := []) (res := q_32.1) C ((by rw [e_33]; exact c_X6_fails l D cy ad E X (2 : Int32))) gX6_sell_X6_fails rfl hd_X6_fails (zW_get X sM_0) rfl rfl rfl ⟨Nat.le_of_ble_eq_true rfl, Nat.le_of_ble_eq_true rfl⟩ rfl rfl (Nat.le_of_ble_eq_true rfl) ⟨Nat.zero_le _, Nat.zero_le _⟩ dX6_sell_27 ?_
      obtain rfl := Option.some.inj h
      exact g_iret rfl C hr rfl dX6_sell_30
  · replace h := (if_pos hc_1).symm.trans h
    refine g_aload_n (j := 0) C dX6_sell_8 rfl rfl ?_
    refine g_iconst (v := 1) C dX6_sell_9 (by decide) ?_
    obtain ⟨q_34, e_35, h⟩ := zlet_ex h
    refine g_vi (ws' := (zW cy ad shM E q_34.2)) (As := [.int (1 : Int32)]) (rest := []) (res := q_34.1) C ((by rw [e_35]; exact c_X6_fails l D cy ad E X (1 : Int32))) gX6_sell_X6_fails rfl hd_X6_fails (zW_get X sM_0) rfl rfl rfl ⟨Nat.le_of_ble_eq_true rfl, Nat.le_of_ble_eq_true rfl⟩ rfl rfl (Nat.le_of_ble_eq_true rfl) ⟨Nat.zero_le _, Nat.zero_le _⟩ dX6_sell_10 ?_
    obtain rfl := Option.some.inj h
    exact g_iret rfl C hr rfl dX6_sell_13
theorem hd_X6_show : yX6_show.cls = RX6 ∧ yX6_show.cls ≠ "java/lang/invoke/MethodHandle" ∧ yX6_show.cls ≠ "java/lang/invoke/VarHandle" ∧ (parseMethodDescriptor yX6_show.desc).map (fun d => d.parameters.length) = some 2 := by decide +kernel
def f_X6_show (X : Nat → Nat → Int32) (v1 v2 : Int32) : Option (Int32 × (Nat → Nat → Int32)) := (if (f_X6_isShow X v1) = 0 then (zlet (f_X6_fails X (1 : Int32)) fun q_57 => some (q_57.1, q_57.2)) else (if (f_X6_in v2 (0 : Int32) (11 : Int32)) = 0 then (zlet (f_X6_fails X (2 : Int32)) fun q_55 => some (q_55.1, q_55.2)) else (if v2 = (4 : Int32) then ((f_X6_endOf X v1).bind fun q_4 => (zlet (f_X6_done X q_4) fun q_6 => some (q_6.1, q_6.2))) else (if v2 = (5 : Int32) then ((f_X6_showAt X v1 (7 : Int32)).bind fun q_9 => (zlet (f_X6_done X q_9) fun q_11 => some (q_11.1, q_11.2))) else (if v2 = (6 : Int32) then ((f_X6_showAt X v1 (4 : Int32)).bind fun q_14 => (zlet (f_X6_done X q_14) fun q_16 => some (q_16.1, q_16.2))) else (if v2 = (7 : Int32) then ((f_X6_showAt X v1 (6 : Int32)).bind fun q_19 => (zlet (f_X6_done X q_19) fun q_21 => some (q_21.1, q_21.2))) else (if v2 = (8 : Int32) then ((f_X6_stands X v1).bind fun q_24 => (if q_24 = 0 then (zlet (f_X6_done X (1 : Int32)) fun q_34 => some (q_34.1, q_34.2)) else ((f_X6_isOver X v1).bind fun q_27 => (if q_27 = 0 then (zlet (f_X6_done X (0 : Int32)) fun q_30 => some (q_30.1, q_30.2)) else (zlet (f_X6_done X (2 : Int32)) fun q_32 => some (q_32.1, q_32.2)))))) else (if v2 = (9 : Int32) then ((f_X6_receiptsOf X v1).bind fun q_37 => (zlet (f_X6_done X q_37) fun q_39 => some (q_39.1, q_39.2))) else (if v2 = (10 : Int32) then ((f_X6_partOf X v1).bind fun q_42 => (zlet (f_X6_done X q_42) fun q_44 => some (q_44.1, q_44.2))) else (if v2 = (11 : Int32) then ((f_X6_showAt X v1 (5 : Int32)).bind fun q_47 => (zlet (f_X6_done X q_47) fun q_49 => some (q_49.1, q_49.2))) else ((f_X6_showAt X v1 v2).bind fun q_51 => (zlet (f_X6_done X q_51) fun q_53 => some (q_53.1, q_53.2)))))))))))))
set_option maxRecDepth 100000 in
set_option maxHeartbeats 4000000 in
theorem c_X6_show (l : Launch) (D : va_G) (cy : Nat → ClassId) (ad : Nat → Nat) (E : va_W) (X : Nat → Nat → Int32) (v1 v2 : Int32) {res : Int32 × (Nat → Nat → Int32)} (h : f_X6_show X v1 v2 = some res) : zMi l yX6_show wsX6_show (zrm 4) D (zTy cy) (zW cy ad shM E X) [.ref (ad 0), .int v1, .int v2] res.1 (zW cy ad shM E res.2) := by
  refine zMi.of (cc := cX6_show) (maxL := 3) (ret := (some .int)) (by decide) rfl (Nat.le_of_ble_eq_true rfl) ?_
  intro p e s m below meth c A C hr
  unfold f_X6_show at h
  refine zG_L (L' := [(0, .ref (ad 0)), (1, .int v1), (2, .int v2)]) rfl ?_
  refine g_aload_n (j := 0) C dX6_show_0 rfl rfl ?_
  refine g_iload_n (j := 1) C dX6_show_1 rfl rfl ?_
  refine g_vi (ws' := (zW cy ad shM E X)) (As := [.int v1]) (rest := []) (res := (f_X6_isShow X v1)) C (c_X6_isShow l D cy ad E X v1) gX6_show_X6_isShow rfl hd_X6_isShow (zW_get X sM_0) rfl rfl rfl ⟨Nat.le_of_ble_eq_true rfl, Nat.le_of_ble_eq_true rfl⟩ rfl rfl (Nat.le_of_ble_eq_true rfl) ⟨Nat.zero_le _, Nat.zero_le _⟩ dX6_show_2 ?_
  refine g_if_ne C dX6_show_5 (tgt := 14) (by decide) (fun hc_1 => ?_) (fun hc_1 => ?_)
  · replace h := (if_neg hc_1).symm.trans h
    refine g_iload_n (j := 2) C dX6_show_14 rfl rfl ?_
    refine g_iconst (v := 0) C dX6_show_15 (by decide) ?_
    refine g_bipush (v := 11) C dX6_show_16 (by decide) ?_
    refine g_si (ws' := (zW cy ad shM E X)) (As := [.int v2, .int (0 : Int32), .int (11 : Int32)]) (rest := []) (res := (f_X6_in v2 (0 : Int32) (11 : Int32))) C (c_X6_in l D cy (zW cy ad shM E X) v2 (0 : Int32) (11 : Int32)) gX6_show_X6_in rfl hd_X6_in rfl rfl ⟨Nat.le_of_ble_eq_true rfl, Nat.le_of_ble_eq_true rfl⟩ rfl rfl (Nat.le_of_ble_eq_true rfl) ⟨Nat.zero_le _, Nat.zero_le _⟩ dX6_show_18 ?_
    refine g_if_ne C dX6_show_21 (tgt := 30) (by decide) (fun hc_2 => ?_) (fun hc_2 => ?_)
    · replace h := (if_neg hc_2).symm.trans h
      refine g_iload_n (j := 2) C dX6_show_30 rfl rfl ?_
      by_cases hc_3 : v2 = (4 : Int32)
      · replace h := (if_pos hc_3).symm.trans h
        refine g_tabEq C dX6_show_31 hc_3 (by decide) (by decide) rfl (tgt := 76) (by decide) ?_
        refine g_aload_n (j := 0) C dX6_show_76 rfl rfl ?_
        refine g_aload_n (j := 0) C dX6_show_77 rfl rfl ?_
        refine g_iload_n (j := 1) C dX6_show_78 rfl rfl ?_
        obtain ⟨q_4, hq_5, h⟩ := bind_isome h
        refine g_vi (ws' := (zW cy ad shM E X)) (As := [.int v1]) (rest := [.ref (ad 0)]) (res := q_4) C (c_X6_endOf l D cy ad E X v1 hq_5) gX6_show_X6_endOf rfl hd_X6_endOf (zW_get X sM_0) rfl rfl rfl ⟨Nat.le_of_ble_eq_true rfl, Nat.le_of_ble_eq_true rfl⟩ rfl rfl (Nat.le_of_ble_eq_true rfl) ⟨Nat.zero_le _, Nat.zero_le _⟩ dX6_show_79 ?_
        obtain ⟨q_6, e_7, h⟩ := zlet_ex h
        refine g_vi (ws' := (zW cy ad shM E q_6.2)) (As := [.int q_4]) (rest := []) (res := q_6.1) C ((by rw [e_7]; exact c_X6_done l D cy ad E X q_4)) gX6_show_X6_done rfl hd_X6_done (zW_get X sM_0) rfl rfl rfl ⟨Nat.le_of_ble_eq_true rfl, Nat.le_of_ble_eq_true rfl⟩ rfl rfl (Nat.le_of_ble_eq_true rfl) ⟨Nat.zero_le _, Nat.zero_le _⟩ dX6_show_82 ?_
        obtain rfl := Option.some.inj h
        exact g_iret rfl C hr rfl dX6_show_85
      replace h := (if_neg hc_3).symm.trans h
      by_cases hc_8 : v2 = (5 : Int32)
      · replace h := (if_pos hc_8).symm.trans h
        refine g_tabEq C dX6_show_31 hc_8 (by decide) (by decide) rfl (tgt := 86) (by decide) ?_
        refine g_aload_n (j := 0) C dX6_show_86 rfl rfl ?_
        refine g_aload_n (j := 0) C dX6_show_87 rfl rfl ?_
        refine g_iload_n (j := 1) C dX6_show_88 rfl rfl ?_
        refine g_bipush (v := 7) C dX6_show_89 (by decide) ?_
        obtain ⟨q_9, hq_10, h⟩ := bind_isome h
        refine g_vi (ws' := (zW cy ad shM E X)) (As := [.int v1, .int (7 : Int32)]) (rest := [.ref (ad 0)]) (res := q_9) C (c_X6_showAt l D cy ad E X v1 (7 : Int32) hq_10) gX6_show_X6_showAt rfl hd_X6_showAt (zW_get X sM_0) rfl rfl rfl ⟨Nat.le_of_ble_eq_true rfl, Nat.le_of_ble_eq_true rfl⟩ rfl rfl (Nat.le_of_ble_eq_true rfl) ⟨Nat.zero_le _, Nat.zero_le _⟩ dX6_show_91 ?_
        obtain ⟨q_11, e_12, h⟩ := zlet_ex h
        refine g_vi (ws' := (zW cy ad shM E q_11.2)) (As := [.int q_9]) (rest := []) (res := q_11.1) C ((by rw [e_12]; exact c_X6_done l D cy ad E X q_9)) gX6_show_X6_done rfl hd_X6_done (zW_get X sM_0) rfl rfl rfl ⟨Nat.le_of_ble_eq_true rfl, Nat.le_of_ble_eq_true rfl⟩ rfl rfl (Nat.le_of_ble_eq_true rfl) ⟨Nat.zero_le _, Nat.zero_le _⟩ dX6_show_94 ?_
        obtain rfl := Option.some.inj h
        exact g_iret rfl C hr rfl dX6_show_97
      replace h := (if_neg hc_8).symm.trans h
      by_cases hc_13 : v2 = (6 : Int32)
      · replace h := (if_pos hc_13).symm.trans h
        refine g_tabEq C dX6_show_31 hc_13 (by decide) (by decide) rfl (tgt := 98) (by decide) ?_
        refine g_aload_n (j := 0) C dX6_show_98 rfl rfl ?_
        refine g_aload_n (j := 0) C dX6_show_99 rfl rfl ?_
        refine g_iload_n (j := 1) C dX6_show_100 rfl rfl ?_
        refine g_iconst (v := 4) C dX6_show_101 (by decide) ?_
        obtain ⟨q_14, hq_15, h⟩ := bind_isome h
        refine g_vi (ws' := (zW cy ad shM E X)) (As := [.int v1, .int (4 : Int32)]) (rest := [.ref (ad 0)]) (res := q_14) C (c_X6_showAt l D cy ad E X v1 (4 : Int32) hq_15) gX6_show_X6_showAt rfl hd_X6_showAt (zW_get X sM_0) rfl rfl rfl ⟨Nat.le_of_ble_eq_true rfl, Nat.le_of_ble_eq_true rfl⟩ rfl rfl (Nat.le_of_ble_eq_true rfl) ⟨Nat.zero_le _, Nat.zero_le _⟩ dX6_show_102 ?_
        obtain ⟨q_16, e_17, h⟩ := zlet_ex h
        refine g_vi (ws' := (zW cy ad shM E q_16.2)) (As := [.int q_14]) (rest := []) (res := q_16.1) C ((by rw [e_17]; exact c_X6_done l D cy ad E X q_14)) gX6_show_X6_done rfl hd_X6_done (zW_get X sM_0) rfl rfl rfl ⟨Nat.le_of_ble_eq_true rfl, Nat.le_of_ble_eq_true rfl⟩ rfl rfl (Nat.le_of_ble_eq_true rfl) ⟨Nat.zero_le _, Nat.zero_le _⟩ dX6_show_105 ?_
        obtain rfl := Option.some.inj h
        exact g_iret rfl C hr rfl dX6_show_108
      replace h := (if_neg hc_13).symm.trans h
      by_cases hc_18 : v2 = (7 : Int32)
      · replace h := (if_pos hc_18).symm.trans h
        refine g_tabEq C dX6_show_31 hc_18 (by decide) (by decide) rfl (tgt := 109) (by decide) ?_
        refine g_aload_n (j := 0) C dX6_show_109 rfl rfl ?_
        refine g_aload_n (j := 0) C dX6_show_110 rfl rfl ?_
        refine g_iload_n (j := 1) C dX6_show_111 rfl rfl ?_
        refine g_bipush (v := 6) C dX6_show_112 (by decide) ?_
        obtain ⟨q_19, hq_20, h⟩ := bind_isome h
        refine g_vi (ws' := (zW cy ad shM E X)) (As := [.int v1, .int (6 : Int32)]) (rest := [.ref (ad 0)]) (res := q_19) C (c_X6_showAt l D cy ad E X v1 (6 : Int32) hq_20) gX6_show_X6_showAt rfl hd_X6_showAt (zW_get X sM_0) rfl rfl rfl ⟨Nat.le_of_ble_eq_true rfl, Nat.le_of_ble_eq_true rfl⟩ rfl rfl (Nat.le_of_ble_eq_true rfl) ⟨Nat.zero_le _, Nat.zero_le _⟩ dX6_show_114 ?_
        obtain ⟨q_21, e_22, h⟩ := zlet_ex h
        refine g_vi (ws' := (zW cy ad shM E q_21.2)) (As := [.int q_19]) (rest := []) (res := q_21.1) C ((by rw [e_22]; exact c_X6_done l D cy ad E X q_19)) gX6_show_X6_done rfl hd_X6_done (zW_get X sM_0) rfl rfl rfl ⟨Nat.le_of_ble_eq_true rfl, Nat.le_of_ble_eq_true rfl⟩ rfl rfl (Nat.le_of_ble_eq_true rfl) ⟨Nat.zero_le _, Nat.zero_le _⟩ dX6_show_117 ?_
        obtain rfl := Option.some.inj h
        exact g_iret rfl C hr rfl dX6_show_120
      replace h := (if_neg hc_18).symm.trans h
      by_cases hc_23 : v2 = (8 : Int32)
      · replace h := (if_pos hc_23).symm.trans h
        refine g_tabEq C dX6_show_31 hc_23 (by decide) (by decide) rfl (tgt := 121) (by decide) ?_
        refine g_aload_n (j := 0) C dX6_show_121 rfl rfl ?_
        refine g_aload_n (j := 0) C dX6_show_122 rfl rfl ?_
        refine g_iload_n (j := 1) C dX6_show_123 rfl rfl ?_
        obtain ⟨q_24, hq_25, h⟩ := bind_isome h
        refine g_vi (ws' := (zW cy ad shM E X)) (As := [.int v1]) (rest := [.ref (ad 0)]) (res := q_24) C (c_X6_stands l D cy ad E X v1 hq_25) gX6_show_X6_stands rfl hd_X6_stands (zW_get X sM_0) rfl rfl rfl ⟨Nat.le_of_ble_eq_true rfl, Nat.le_of_ble_eq_true rfl⟩ rfl rfl (Nat.le_of_ble_eq_true rfl) ⟨Nat.zero_le _, Nat.zero_le _⟩ dX6_show_124 ?_
        refine g_if_ne C dX6_show_127 (tgt := 134) (by decide) (fun hc_26 => ?_) (fun hc_26 => ?_)
        · replace h := (if_neg hc_26).symm.trans h
          refine g_aload_n (j := 0) C dX6_show_134 rfl rfl ?_
          refine g_iload_n (j := 1) C dX6_show_135 rfl rfl ?_
          obtain ⟨q_27, hq_28, h⟩ := bind_isome h
          refine g_vi (ws' := (zW cy ad shM E X)) (As := [.int v1]) (rest := [.ref (ad 0)]) (res := q_27) C (c_X6_isOver l D cy ad E X v1 hq_28) gX6_show_X6_isOver rfl hd_X6_isOver (zW_get X sM_0) rfl rfl rfl ⟨Nat.le_of_ble_eq_true rfl, Nat.le_of_ble_eq_true rfl⟩ rfl rfl (Nat.le_of_ble_eq_true rfl) ⟨Nat.zero_le _, Nat.zero_le _⟩ dX6_show_136 ?_
          refine g_if_eq C dX6_show_139 (tgt := 146) (by decide) (fun hc_29 => ?_) (fun hc_29 => ?_)
          · replace h := (if_pos hc_29).symm.trans h
            refine g_iconst (v := 0) C dX6_show_146 (by decide) ?_
            obtain ⟨q_30, e_31, h⟩ := zlet_ex h
            refine g_vi (ws' := (zW cy ad shM E q_30.2)) (As := [.int (0 : Int32)]) (rest := []) (res := q_30.1) C ((by rw [e_31]; exact c_X6_done l D cy ad E X (0 : Int32))) gX6_show_X6_done rfl hd_X6_done (zW_get X sM_0) rfl rfl rfl ⟨Nat.le_of_ble_eq_true rfl, Nat.le_of_ble_eq_true rfl⟩ rfl rfl (Nat.le_of_ble_eq_true rfl) ⟨Nat.zero_le _, Nat.zero_le _⟩ dX6_show_147 ?_
            obtain rfl := Option.some.inj h
            exact g_iret rfl C hr rfl dX6_show_150
          · replace h := (if_neg hc_29).symm.trans h
            refine g_iconst (v := 2) C dX6_show_142 (by decide) ?_
            refine g_goto C dX6_show_143 (tgt := 147) (by decide) ?_
            obtain ⟨q_32, e_33, h⟩ := zlet_ex h
            refine g_vi (ws' := (zW cy ad shM E q_32.2)) (As := [.int (2 : Int32)]) (rest := []) (res := q_32.1) C ((by rw [e_33]; exact c_X6_done l D cy ad E X (2 : Int32))) gX6_show_X6_done rfl hd_X6_done (zW_get X sM_0) rfl rfl rfl ⟨Nat.le_of_ble_eq_true rfl, Nat.le_of_ble_eq_true rfl⟩ rfl rfl (Nat.le_of_ble_eq_true rfl) ⟨Nat.zero_le _, Nat.zero_le _⟩ dX6_show_147 ?_
            obtain rfl := Option.some.inj h
            exact g_iret rfl C hr rfl dX6_show_150
        · replace h := (if_pos hc_26).symm.trans h
          refine g_iconst (v := 1) C dX6_show_130 (by decide) ?_
          refine g_goto C dX6_show_131 (tgt := 147) (by decide) ?_
          obtain ⟨q_34, e_35, h⟩ := zlet_ex h
          refine g_vi (ws' := (zW cy ad shM E q_34.2)) (As := [.int (1 : Int32)]) (rest := []) (res := q_34.1) C ((by rw [e_35]; exact c_X6_done l D cy ad E X (1 : Int32))) gX6_show_X6_done rfl hd_X6_done (zW_get X sM_0) rfl rfl rfl ⟨Nat.le_of_ble_eq_true rfl, Nat.le_of_ble_eq_true rfl⟩ rfl rfl (Nat.le_of_ble_eq_true rfl) ⟨Nat.zero_le _, Nat.zero_le _⟩ dX6_show_147 ?_
          obtain rfl := Option.some.inj h
          exact g_iret rfl C hr rfl dX6_show_150
      replace h := (if_neg hc_23).symm.trans h
      by_cases hc_36 : v2 = (9 : Int32)
      · replace h := (if_pos hc_36).symm.trans h
        refine g_tabEq C dX6_show_31 hc_36 (by decide) (by decide) rfl (tgt := 151) (by decide) ?_
        refine g_aload_n (j := 0) C dX6_show_151 rfl rfl ?_
        refine g_aload_n (j := 0) C dX6_show_152 rfl rfl ?_
        refine g_iload_n (j := 1) C dX6_show_153 rfl rfl ?_
        obtain ⟨q_37, hq_38, h⟩ := bind_isome h
        refine g_vi (ws' := (zW cy ad shM E X)) (As := [.int v1]) (rest := [.ref (ad 0)]) (res := q_37) C (c_X6_receiptsOf l D cy ad E X v1 hq_38) gX6_show_X6_receiptsOf rfl hd_X6_receiptsOf (zW_get X sM_0) rfl rfl rfl ⟨Nat.le_of_ble_eq_true rfl, Nat.le_of_ble_eq_true rfl⟩ rfl rfl (Nat.le_of_ble_eq_true rfl) ⟨Nat.zero_le _, Nat.zero_le _⟩ dX6_show_154 ?_
        obtain ⟨q_39, e_40, h⟩ := zlet_ex h
        refine g_vi (ws' := (zW cy ad shM E q_39.2)) (As := [.int q_37]) (rest := []) (res := q_39.1) C ((by rw [e_40]; exact c_X6_done l D cy ad E X q_37)) gX6_show_X6_done rfl hd_X6_done (zW_get X sM_0) rfl rfl rfl ⟨Nat.le_of_ble_eq_true rfl, Nat.le_of_ble_eq_true rfl⟩ rfl rfl (Nat.le_of_ble_eq_true rfl) ⟨Nat.zero_le _, Nat.zero_le _⟩ dX6_show_157 ?_
        obtain rfl := Option.some.inj h
        exact g_iret rfl C hr rfl dX6_show_160
      replace h := (if_neg hc_36).symm.trans h
      by_cases hc_41 : v2 = (10 : Int32)
      · replace h := (if_pos hc_41).symm.trans h
        refine g_tabEq C dX6_show_31 hc_41 (by decide) (by decide) rfl (tgt := 161) (by decide) ?_
        refine g_aload_n (j := 0) C dX6_show_161 rfl rfl ?_
        refine g_aload_n (j := 0) C dX6_show_162 rfl rfl ?_
        refine g_iload_n (j := 1) C dX6_show_163 rfl rfl ?_
        obtain ⟨q_42, hq_43, h⟩ := bind_isome h
        refine g_vi (ws' := (zW cy ad shM E X)) (As := [.int v1]) (rest := [.ref (ad 0)]) (res := q_42) C (c_X6_partOf l D cy ad E X v1 hq_43) gX6_show_X6_partOf rfl hd_X6_partOf (zW_get X sM_0) rfl rfl rfl ⟨Nat.le_of_ble_eq_true rfl, Nat.le_of_ble_eq_true rfl⟩ rfl rfl (Nat.le_of_ble_eq_true rfl) ⟨Nat.zero_le _, Nat.zero_le _⟩ dX6_show_164 ?_
        obtain ⟨q_44, e_45, h⟩ := zlet_ex h
        refine g_vi (ws' := (zW cy ad shM E q_44.2)) (As := [.int q_42]) (rest := []) (res := q_44.1) C ((by rw [e_45]; exact c_X6_done l D cy ad E X q_42)) gX6_show_X6_done rfl hd_X6_done (zW_get X sM_0) rfl rfl rfl ⟨Nat.le_of_ble_eq_true rfl, Nat.le_of_ble_eq_true rfl⟩ rfl rfl (Nat.le_of_ble_eq_true rfl) ⟨Nat.zero_le _, Nat.zero_le _⟩ dX6_show_167 ?_
        obtain rfl := Option.some.inj h
        exact g_iret rfl C hr rfl dX6_show_170
      replace h := (if_neg hc_41).symm.trans h
      by_cases hc_46 : v2 = (11 : Int32)
      · replace h := (if_pos hc_46).symm.trans h
        refine g_tabEq C dX6_show_31 hc_46 (by decide) (by decide) rfl (tgt := 171) (by decide) ?_
        refine g_aload_n (j := 0) C dX6_show_171 rfl rfl ?_
        refine g_aload_n (j := 0) C dX6_show_172 rfl rfl ?_
        refine g_iload_n (j := 1) C dX6_show_173 rfl rfl ?_
        refine g_iconst (v := 5) C dX6_show_174 (by decide) ?_
        obtain ⟨q_47, hq_48, h⟩ := bind_isome h
        refine g_vi (ws' := (zW cy ad shM E X)) (As := [.int v1, .int (5 : Int32)]) (rest := [.ref (ad 0)]) (res := q_47) C (c_X6_showAt l D cy ad E X v1 (5 : Int32) hq_48) gX6_show_X6_showAt rfl hd_X6_showAt (zW_get X sM_0) rfl rfl rfl ⟨Nat.le_of_ble_eq_true rfl, Nat.le_of_ble_eq_true rfl⟩ rfl rfl (Nat.le_of_ble_eq_true rfl) ⟨Nat.zero_le _, Nat.zero_le _⟩ dX6_show_175 ?_
        obtain ⟨q_49, e_50, h⟩ := zlet_ex h
        refine g_vi (ws' := (zW cy ad shM E q_49.2)) (As := [.int q_47]) (rest := []) (res := q_49.1) C ((by rw [e_50]; exact c_X6_done l D cy ad E X q_47)) gX6_show_X6_done rfl hd_X6_done (zW_get X sM_0) rfl rfl rfl ⟨Nat.le_of_ble_eq_true rfl, Nat.le_of_ble_eq_true rfl⟩ rfl rfl (Nat.le_of_ble_eq_true rfl) ⟨Nat.zero_le _, Nat.zero_le _⟩ dX6_show_178 ?_
        obtain rfl := Option.some.inj h
        exact g_iret rfl C hr rfl dX6_show_181
      replace h := (if_neg hc_46).symm.trans h
      refine g_tabOut C dX6_show_31 (z_tabout_8 (lo := 4) (hi := 11) hc_3 hc_8 hc_13 hc_18 hc_23 hc_36 hc_41 hc_46 (by decide)) (tgt := 182) (by decide) ?_
      refine g_aload_n (j := 0) C dX6_show_182 rfl rfl ?_
      refine g_aload_n (j := 0) C dX6_show_183 rfl rfl ?_
      refine g_iload_n (j := 1) C dX6_show_184 rfl rfl ?_
      refine g_iload_n (j := 2) C dX6_show_185 rfl rfl ?_
      obtain ⟨q_51, hq_52, h⟩ := bind_isome h
      refine g_vi (ws' := (zW cy ad shM E X)) (As := [.int v1, .int v2]) (rest := [.ref (ad 0)]) (res := q_51) C (c_X6_showAt l D cy ad E X v1 v2 hq_52) gX6_show_X6_showAt rfl hd_X6_showAt (zW_get X sM_0) rfl rfl rfl ⟨Nat.le_of_ble_eq_true rfl, Nat.le_of_ble_eq_true rfl⟩ rfl rfl (Nat.le_of_ble_eq_true rfl) ⟨Nat.zero_le _, Nat.zero_le _⟩ dX6_show_186 ?_
      obtain ⟨q_53, e_54, h⟩ := zlet_ex h
      refine g_vi (ws' := (zW cy ad shM E q_53.2)) (As := [.int q_51]) (rest := []) (res := q_53.1) C ((by rw [e_54]; exact c_X6_done l D cy ad E X q_51)) gX6_show_X6_done rfl hd_X6_done (zW_get X sM_0) rfl rfl rfl ⟨Nat.le_of_ble_eq_true rfl, Nat.le_of_ble_eq_true rfl⟩ rfl rfl (Nat.le_of_ble_eq_true rfl) ⟨Nat.zero_le _, Nat.zero_le _⟩ dX6_show_189 ?_
      obtain rfl := Option.some.inj h
      exact g_iret rfl C hr rfl dX6_show_192
    · replace h := (if_pos hc_2).symm.trans h
      refine g_aload_n (j := 0) C dX6_show_24 rfl rfl ?_
      refine g_iconst (v := 2) C dX6_show_25 (by decide) ?_
      obtain ⟨q_55, e_56, h⟩ := zlet_ex h
      refine g_vi (ws' := (zW cy ad shM E q_55.2)) (As := [.int (2 : Int32)]) (rest := []) (res := q_55.1) C ((by rw [e_56]; exact c_X6_fails l D cy ad E X (2 : Int32))) gX6_show_X6_fails rfl hd_X6_fails (zW_get X sM_0) rfl rfl rfl ⟨Nat.le_of_ble_eq_true rfl, Nat.le_of_ble_eq_true rfl⟩ rfl rfl (Nat.le_of_ble_eq_true rfl) ⟨Nat.zero_le _, Nat.zero_le _⟩ dX6_show_26 ?_
      obtain rfl := Option.some.inj h
      exact g_iret rfl C hr rfl dX6_show_29
  · replace h := (if_pos hc_1).symm.trans h
    refine g_aload_n (j := 0) C dX6_show_8 rfl rfl ?_
    refine g_iconst (v := 1) C dX6_show_9 (by decide) ?_
    obtain ⟨q_57, e_58, h⟩ := zlet_ex h
    refine g_vi (ws' := (zW cy ad shM E q_57.2)) (As := [.int (1 : Int32)]) (rest := []) (res := q_57.1) C ((by rw [e_58]; exact c_X6_fails l D cy ad E X (1 : Int32))) gX6_show_X6_fails rfl hd_X6_fails (zW_get X sM_0) rfl rfl rfl ⟨Nat.le_of_ble_eq_true rfl, Nat.le_of_ble_eq_true rfl⟩ rfl rfl (Nat.le_of_ble_eq_true rfl) ⟨Nat.zero_le _, Nat.zero_le _⟩ dX6_show_10 ?_
    obtain rfl := Option.some.inj h
    exact g_iret rfl C hr rfl dX6_show_13
theorem in_X6_why_RX6 : ∀ w ∈ u_ws RX6 TX6 27, w ∈ wsX6_why := by decide +kernel
theorem fl_X6_why_166 : (Cond.fieldLink RX6 166 RX6 (TX6 21).2.1 (TX6 21).2.2.1) ∈ wsX6_why := by decide +kernel
theorem hd_X6_why : yX6_why.cls = RX6 ∧ yX6_why.cls ≠ "java/lang/invoke/MethodHandle" ∧ yX6_why.cls ≠ "java/lang/invoke/VarHandle" ∧ (parseMethodDescriptor yX6_why.desc).map (fun d => d.parameters.length) = some 5 := by decide +kernel
def f_X6_why (X : Nat → Nat → Int32) (v1 v2 v3 v4 v5 : Int32) : Option (Int32 × (Nat → Nat → Int32)) := (if (f_X6_isHall X v1) = 0 then (zlet (f_X6_fails X (1 : Int32)) fun q_2 => some (q_2.1, q_2.2)) else (if (f_X6_isFilm X v2) = 0 then (zlet (f_X6_fails X (1 : Int32)) fun q_15 => some (q_15.1, q_15.2)) else (if (f_X6_isPlace v3 v4) = 0 then (zlet (f_X6_fails X (2 : Int32)) fun q_13 => some (q_13.1, q_13.2)) else ((f_X6_breaksNew X v1 v2 v3 v4).bind fun q_6 => (if v5 = 0 then (zlet (f_X6_done q_6.2 q_6.1) fun q_9 => some (q_9.1, q_9.2)) else (zlet (f_X6_done q_6.2 (q_6.2 0 21)) fun q_11 => some (q_11.1, q_11.2)))))))
set_option maxRecDepth 100000 in
set_option maxHeartbeats 4000000 in
theorem c_X6_why (l : Launch) (D : va_G) (cy : Nat → ClassId) (ad : Nat → Nat) (E : va_W) (X : Nat → Nat → Int32) (v1 v2 v3 v4 v5 : Int32) {res : Int32 × (Nat → Nat → Int32)} (h : f_X6_why X v1 v2 v3 v4 v5 = some res) : zMi l yX6_why wsX6_why (zrm 8) D (zTy cy) (zW cy ad shM E X) [.ref (ad 0), .int v1, .int v2, .int v3, .int v4, .int v5] res.1 (zW cy ad shM E res.2) := by
  refine zMi.of (cc := cX6_why) (maxL := 7) (ret := (some .int)) (by decide) rfl (Nat.le_of_ble_eq_true rfl) ?_
  intro p e s m below meth c A C hr
  unfold f_X6_why at h
  refine zG_L (L' := [(0, .ref (ad 0)), (1, .int v1), (2, .int v2), (3, .int v3), (4, .int v4), (5, .int v5)]) rfl ?_
  refine g_aload_n (j := 0) C dX6_why_0 rfl rfl ?_
  refine g_iload_n (j := 1) C dX6_why_1 rfl rfl ?_
  refine g_vi (ws' := (zW cy ad shM E X)) (As := [.int v1]) (rest := []) (res := (f_X6_isHall X v1)) C (c_X6_isHall l D cy ad E X v1) gX6_why_X6_isHall rfl hd_X6_isHall (zW_get X sM_0) rfl rfl rfl ⟨Nat.le_of_ble_eq_true rfl, Nat.le_of_ble_eq_true rfl⟩ rfl rfl (Nat.le_of_ble_eq_true rfl) ⟨Nat.zero_le _, Nat.zero_le _⟩ dX6_why_2 ?_
  refine g_if_eq C dX6_why_5 (tgt := 16) (by decide) (fun hc_1 => ?_) (fun hc_1 => ?_)
  · replace h := (if_pos hc_1).symm.trans h
    refine g_aload_n (j := 0) C dX6_why_16 rfl rfl ?_
    refine g_iconst (v := 1) C dX6_why_17 (by decide) ?_
    obtain ⟨q_2, e_3, h⟩ := zlet_ex h
    refine g_vi (ws' := (zW cy ad shM E q_2.2)) (As := [.int (1 : Int32)]) (rest := []) (res := q_2.1) C ((by rw [e_3]; exact c_X6_fails l D cy ad E X (1 : Int32))) gX6_why_X6_fails rfl hd_X6_fails (zW_get X sM_0) rfl rfl rfl ⟨Nat.le_of_ble_eq_true rfl, Nat.le_of_ble_eq_true rfl⟩ rfl rfl (Nat.le_of_ble_eq_true rfl) ⟨Nat.zero_le _, Nat.zero_le _⟩ dX6_why_18 ?_
    obtain rfl := Option.some.inj h
    exact g_iret rfl C hr rfl dX6_why_21
  · replace h := (if_neg hc_1).symm.trans h
    refine g_aload_n (j := 0) C dX6_why_8 rfl rfl ?_
    refine g_iload_n (j := 2) C dX6_why_9 rfl rfl ?_
    refine g_vi (ws' := (zW cy ad shM E X)) (As := [.int v2]) (rest := []) (res := (f_X6_isFilm X v2)) C (c_X6_isFilm l D cy ad E X v2) gX6_why_X6_isFilm rfl hd_X6_isFilm (zW_get X sM_0) rfl rfl rfl ⟨Nat.le_of_ble_eq_true rfl, Nat.le_of_ble_eq_true rfl⟩ rfl rfl (Nat.le_of_ble_eq_true rfl) ⟨Nat.zero_le _, Nat.zero_le _⟩ dX6_why_10 ?_
    refine g_if_ne C dX6_why_13 (tgt := 22) (by decide) (fun hc_4 => ?_) (fun hc_4 => ?_)
    · replace h := (if_neg hc_4).symm.trans h
      refine g_iload_n (j := 3) C dX6_why_22 rfl rfl ?_
      refine g_iload (j := 4) C dX6_why_23 rfl ?_
      refine g_si (ws' := (zW cy ad shM E X)) (As := [.int v3, .int v4]) (rest := []) (res := (f_X6_isPlace v3 v4)) C (c_X6_isPlace l D cy (zW cy ad shM E X) v3 v4) gX6_why_X6_isPlace rfl hd_X6_isPlace rfl rfl ⟨Nat.le_of_ble_eq_true rfl, Nat.le_of_ble_eq_true rfl⟩ rfl rfl (Nat.le_of_ble_eq_true rfl) ⟨Nat.zero_le _, Nat.zero_le _⟩ dX6_why_25 ?_
      refine g_if_ne C dX6_why_28 (tgt := 37) (by decide) (fun hc_5 => ?_) (fun hc_5 => ?_)
      · replace h := (if_neg hc_5).symm.trans h
        refine g_aload_n (j := 0) C dX6_why_37 rfl rfl ?_
        refine g_iload_n (j := 1) C dX6_why_38 rfl rfl ?_
        refine g_iload_n (j := 2) C dX6_why_39 rfl rfl ?_
        refine g_iload_n (j := 3) C dX6_why_40 rfl rfl ?_
        refine g_iload (j := 4) C dX6_why_41 rfl ?_
        obtain ⟨q_6, hq_7, h⟩ := bind_isome h
        refine g_vi (ws' := (zW cy ad shM E q_6.2)) (As := [.int v1, .int v2, .int v3, .int v4]) (rest := []) (res := q_6.1) C (c_X6_breaksNew l D cy ad E X v1 v2 v3 v4 hq_7) gX6_why_X6_breaksNew rfl hd_X6_breaksNew (zW_get X sM_0) rfl rfl rfl ⟨Nat.le_of_ble_eq_true rfl, Nat.le_of_ble_eq_true rfl⟩ rfl rfl (Nat.le_of_ble_eq_true rfl) ⟨Nat.zero_le _, Nat.zero_le _⟩ dX6_why_43 ?_
        refine g_istore (L' := [(6, .int q_6.1), (0, .ref (ad 0)), (1, .int v1), (2, .int v2), (3, .int v3), (4, .int v4), (5, .int v5)]) C dX6_why_46 (by decide) rfl ?_
        refine g_aload_n (j := 1) C dX6_why_48 rfl rfl ?_
        refine g_iload (j := 6) C dX6_why_49 rfl ?_
        refine g_if_eq C dX6_why_51 (tgt := 61) (by decide) (fun hc_8 => ?_) (fun hc_8 => ?_)
        · replace h := (if_pos hc_8).symm.trans h
          refine g_iload (j := 0) C dX6_why_61 rfl ?_
          obtain ⟨q_9, e_10, h⟩ := zlet_ex h
          refine g_vi (ws' := (zW cy ad shM E q_9.2)) (As := [.int q_6.1]) (rest := []) (res := q_9.1) C ((by rw [e_10]; exact c_X6_done l D cy ad E q_6.2 q_6.1)) gX6_why_X6_done rfl hd_X6_done (zW_get q_6.2 sM_0) rfl rfl rfl ⟨Nat.le_of_ble_eq_true rfl, Nat.le_of_ble_eq_true rfl⟩ rfl rfl (Nat.le_of_ble_eq_true rfl) ⟨Nat.zero_le _, Nat.zero_le _⟩ dX6_why_63 ?_
          obtain rfl := Option.some.inj h
          exact g_iret rfl C hr rfl dX6_why_66
        · replace h := (if_neg hc_8).symm.trans h
          refine g_aload_n (j := 1) C dX6_why_54 rfl rfl ?_
          refine g_geti (k := 21) (N := 27) C sM_0 rfl in_X6_why_RX6 (by decide) rfl fl_X6_why_166 rfl dX6_why_55 ?_
          refine g_goto C dX6_why_58 (tgt := 63) (by decide) ?_
          obtain ⟨q_11, e_12, h⟩ := zlet_ex h
          refine g_vi (ws' := (zW cy ad shM E q_11.2)) (As := [.int (q_6.2 0 21)]) (rest := []) (res := q_11.1) C ((by rw [e_12]; exact c_X6_done l D cy ad E q_6.2 (q_6.2 0 21))) gX6_why_X6_done rfl hd_X6_done (zW_get q_6.2 sM_0) rfl rfl rfl ⟨Nat.le_of_ble_eq_true rfl, Nat.le_of_ble_eq_true rfl⟩ rfl rfl (Nat.le_of_ble_eq_true rfl) ⟨Nat.zero_le _, Nat.zero_le _⟩ dX6_why_63 ?_
          obtain rfl := Option.some.inj h
          exact g_iret rfl C hr rfl dX6_why_66
      · replace h := (if_pos hc_5).symm.trans h
        refine g_aload_n (j := 0) C dX6_why_31 rfl rfl ?_
        refine g_iconst (v := 2) C dX6_why_32 (by decide) ?_
        obtain ⟨q_13, e_14, h⟩ := zlet_ex h
        refine g_vi (ws' := (zW cy ad shM E q_13.2)) (As := [.int (2 : Int32)]) (rest := []) (res := q_13.1) C ((by rw [e_14]; exact c_X6_fails l D cy ad E X (2 : Int32))) gX6_why_X6_fails rfl hd_X6_fails (zW_get X sM_0) rfl rfl rfl ⟨Nat.le_of_ble_eq_true rfl, Nat.le_of_ble_eq_true rfl⟩ rfl rfl (Nat.le_of_ble_eq_true rfl) ⟨Nat.zero_le _, Nat.zero_le _⟩ dX6_why_33 ?_
        obtain rfl := Option.some.inj h
        exact g_iret rfl C hr rfl dX6_why_36
    · replace h := (if_pos hc_4).symm.trans h
      refine g_aload_n (j := 0) C dX6_why_16 rfl rfl ?_
      refine g_iconst (v := 1) C dX6_why_17 (by decide) ?_
      obtain ⟨q_15, e_16, h⟩ := zlet_ex h
      refine g_vi (ws' := (zW cy ad shM E q_15.2)) (As := [.int (1 : Int32)]) (rest := []) (res := q_15.1) C ((by rw [e_16]; exact c_X6_fails l D cy ad E X (1 : Int32))) gX6_why_X6_fails rfl hd_X6_fails (zW_get X sM_0) rfl rfl rfl ⟨Nat.le_of_ble_eq_true rfl, Nat.le_of_ble_eq_true rfl⟩ rfl rfl (Nat.le_of_ble_eq_true rfl) ⟨Nat.zero_le _, Nat.zero_le _⟩ dX6_why_18 ?_
      obtain rfl := Option.some.inj h
      exact g_iret rfl C hr rfl dX6_why_21
theorem hd_X6_firstStart : yX6_firstStart.cls = RX6 ∧ yX6_firstStart.cls ≠ "java/lang/invoke/MethodHandle" ∧ yX6_firstStart.cls ≠ "java/lang/invoke/VarHandle" ∧ (parseMethodDescriptor yX6_firstStart.desc).map (fun d => d.parameters.length) = some 4 := by decide +kernel
def f_X6_firstStart_L60 (k : (Nat → Nat → Int32) → Int32 → Option (Int32 × (Nat → Nat → Int32))) (k1 : (Nat → Nat → Int32) → Option (Int32 × (Nat → Nat → Int32))) (v1 : Int32) (v2 : Int32) (v3 : Int32) (v5 : Int32) : Nat → (Nat → Nat → Int32) → Int32 → Option (Int32 × (Nat → Nat → Int32))
  | 0, _, _ => none
  | fu + 1, X, v6 => (if (960 : Int32) ≤ v6 then k1 X else ((f_X6_breaks X v1 v2 v3 v6 v5 (-1 : Int32)).bind fun q_1013 => (if q_1013.1 = 0 then k q_1013.2 v6 else f_X6_firstStart_L60 k k1 v1 v2 v3 v5 fu q_1013.2 (v6 + 1))))
set_option maxRecDepth 100000 in
set_option maxHeartbeats 4000000 in
theorem w_X6_firstStart_L60 {p : Program} {e : Env} {s : State} {m : MethodId} {args : Array Value} {below : List Frame} {meth : Method} {c : Code} {A : Nat → Prop} (l : Launch) (D : va_G) (cy : Nat → ClassId) (ad : Nat → Nat) (E : va_W) (k : (Nat → Nat → Int32) → Int32 → Option (Int32 × (Nat → Nat → Int32))) (k1 : (Nat → Nat → Int32) → Option (Int32 × (Nat → Nat → Int32))) (v1 : Int32) (v2 : Int32) (v3 : Int32) (v5 : Int32) {res : Int32 × (Nat → Nat → Int32)} (C : zC p s m args meth c cX6_firstStart 7 RX6 wsX6_firstStart D (zTy cy) A) (hr : meth.sig.returnType = (some .int)) : ∀ (fu : Nat) (X : Nat → Nat → Int32) (v6 : Int32) (h : f_X6_firstStart_L60 k k1 v1 v2 v3 v5 fu X v6 = some res) (hk : ∀ (X : Nat → Nat → Int32) (v6 : Int32), k X v6 = some res → zG p l e (headSpec wsX6_firstStart (zrm 7)).room s m args below meth c 7 D A 0 0 (MQ below (va_Qi (fun (r : Int32) (_ : Unit) => r = res.1) (fun _ t => zB D (zTy cy) A (zW cy ad shM E res.2) t) A) args s 0 0 A) (zW cy ad shM E X) 83 [(0, .ref (ad 0)), (6, .int v6)] []) (hk1 : ∀ (X : Nat → Nat → Int32), k1 X = some res → zG p l e (headSpec wsX6_firstStart (zrm 7)).room s m args below meth c 7 D A 0 0 (MQ below (va_Qi (fun (r : Int32) (_ : Unit) => r = res.1) (fun _ t => zB D (zTy cy) A (zW cy ad shM E res.2) t) A) args s 0 0 A) (zW cy ad shM E X) 96 [(0, .ref (ad 0))] []), zG p l e (headSpec wsX6_firstStart (zrm 7)).room s m args below meth c 7 D A 0 0 (MQ below (va_Qi (fun (r : Int32) (_ : Unit) => r = res.1) (fun _ t => zB D (zTy cy) A (zW cy ad shM E res.2) t) A) args s 0 0 A) (zW cy ad shM E X) 60 [(0, .ref (ad 0)), (1, .int v1), (2, .int v2), (3, .int v3), (5, .int v5), (6, .int v6)] [] := by
  intro fu
  induction fu with
  | zero => intro X v6 h hk hk1; simp [f_X6_firstStart_L60] at h
  | succ fu ih =>
    intro X v6 h hk hk1
    rw [f_X6_firstStart_L60] at h
    refine g_iload (j := 5) C dX6_firstStart_60 rfl ?_
    refine g_sipush (v := 960) C dX6_firstStart_62 (by decide) ?_
    refine g_icmp_ge C dX6_firstStart_65 (tgt := 96) (by decide) (fun hc_1012 => ?_) (fun hc_1012 => ?_)
    · replace h := (if_pos hc_1012).symm.trans h
      refine zG_sub (L' := [(0, .ref (ad 0))]) [0] rfl ?_
      exact hk1 X h
    · replace h := (if_neg hc_1012).symm.trans h
      refine g_aload_n (j := 0) C dX6_firstStart_68 rfl rfl ?_
      refine g_iload_n (j := 1) C dX6_firstStart_69 rfl rfl ?_
      refine g_iload_n (j := 2) C dX6_firstStart_70 rfl rfl ?_
      refine g_iload_n (j := 3) C dX6_firstStart_71 rfl rfl ?_
      refine g_iload (j := 5) C dX6_firstStart_72 rfl ?_
      refine g_iload (j := 4) C dX6_firstStart_74 rfl ?_
      refine g_iconst (v := -1) C dX6_firstStart_76 (by decide) ?_
      obtain ⟨q_1013, hq_1014, h⟩ := bind_isome h
      refine g_vi (ws' := (zW cy ad shM E q_1013.2)) (As := [.int v1, .int v2, .int v3, .int v6, .int v5, .int (-1 : Int32)]) (rest := []) (res := q_1013.1) C (c_X6_breaks l D cy ad E X v1 v2 v3 v6 v5 (-1 : Int32) hq_1014) gX6_firstStart_X6_breaks rfl hd_X6_breaks (zW_get X sM_0) rfl rfl rfl ⟨Nat.le_of_ble_eq_true rfl, Nat.le_of_ble_eq_true rfl⟩ rfl rfl (Nat.le_of_ble_eq_true rfl) ⟨Nat.zero_le _, Nat.zero_le _⟩ dX6_firstStart_77 ?_
      refine g_if_ne C dX6_firstStart_80 (tgt := 90) (by decide) (fun hc_1015 => ?_) (fun hc_1015 => ?_)
      · replace h := (if_neg hc_1015).symm.trans h
        refine g_iinc (k := 5) (L' := [(6, .int (v6 + 1)), (0, .ref (ad 0)), (1, .int v1), (2, .int v2), (3, .int v3), (5, .int v5)]) C dX6_firstStart_90 rfl (z_iinc (by decide)) (by decide) rfl ?_
        refine g_goto C dX6_firstStart_93 (tgt := 60) (by decide) ?_
        refine zG_sub (L' := [(0, .ref (ad 0)), (1, .int v1), (2, .int v2), (3, .int v3), (5, .int v5), (6, .int (v6 + 1))]) [1, 2, 3, 4, 5, 0] rfl ?_
        exact ih q_1013.2 (v6 + 1) h hk hk1
      · replace h := (if_pos hc_1015).symm.trans h
        refine zG_sub (L' := [(0, .ref (ad 0)), (6, .int v6)]) [0, 5] rfl ?_
        exact hk q_1013.2 v6 h
def f_X6_firstStart (X : Nat → Nat → Int32) (v1 v2 v3 v4 : Int32) : Option (Int32 × (Nat → Nat → Int32)) := (if (f_X6_isHall X v1) = 0 then (zlet (f_X6_fails X (1 : Int32)) fun q_2 => some (q_2.1, q_2.2)) else (if (f_X6_isFilm X v2) = 0 then (zlet (f_X6_fails X (1 : Int32)) fun q_1025 => some (q_1025.1, q_1025.2)) else (if (f_X6_isPlace v3 v4) = 0 then (zlet (f_X6_fails X (2 : Int32)) fun q_1023 => some (q_1023.1, q_1023.2)) else ((f_X6_bestReel X v2 v3).bind fun q_6 => ((f_X6_lengthOf X q_6).bind fun q_8 => ((f_X6_filmAt X v2 (0 : Int32)).bind fun q_10 => f_X6_firstStart_L60 (fun X_1017 v6_1016 => (zlet (f_X6_done X_1017 v6_1016) fun q_1018 => some (q_1018.1, q_1018.2))) (fun X_1020 => (zlet (f_X6_fails X_1020 (3 : Int32)) fun q_1021 => some (q_1021.1, q_1021.2))) v1 v2 v3 (q_8 + q_10) zFuel X v4))))))
set_option maxRecDepth 100000 in
set_option maxHeartbeats 4000000 in
theorem c_X6_firstStart (l : Launch) (D : va_G) (cy : Nat → ClassId) (ad : Nat → Nat) (E : va_W) (X : Nat → Nat → Int32) (v1 v2 v3 v4 : Int32) {res : Int32 × (Nat → Nat → Int32)} (h : f_X6_firstStart X v1 v2 v3 v4 = some res) : zMi l yX6_firstStart wsX6_firstStart (zrm 7) D (zTy cy) (zW cy ad shM E X) [.ref (ad 0), .int v1, .int v2, .int v3, .int v4] res.1 (zW cy ad shM E res.2) := by
  refine zMi.of (cc := cX6_firstStart) (maxL := 7) (ret := (some .int)) (by decide) rfl (Nat.le_of_ble_eq_true rfl) ?_
  intro p e s m below meth c A C hr
  unfold f_X6_firstStart at h
  refine zG_L (L' := [(0, .ref (ad 0)), (1, .int v1), (2, .int v2), (3, .int v3), (4, .int v4)]) rfl ?_
  refine g_aload_n (j := 0) C dX6_firstStart_0 rfl rfl ?_
  refine g_iload_n (j := 1) C dX6_firstStart_1 rfl rfl ?_
  refine g_vi (ws' := (zW cy ad shM E X)) (As := [.int v1]) (rest := []) (res := (f_X6_isHall X v1)) C (c_X6_isHall l D cy ad E X v1) gX6_firstStart_X6_isHall rfl hd_X6_isHall (zW_get X sM_0) rfl rfl rfl ⟨Nat.le_of_ble_eq_true rfl, Nat.le_of_ble_eq_true rfl⟩ rfl rfl (Nat.le_of_ble_eq_true rfl) ⟨Nat.zero_le _, Nat.zero_le _⟩ dX6_firstStart_2 ?_
  refine g_if_eq C dX6_firstStart_5 (tgt := 16) (by decide) (fun hc_1 => ?_) (fun hc_1 => ?_)
  · replace h := (if_pos hc_1).symm.trans h
    refine g_aload_n (j := 0) C dX6_firstStart_16 rfl rfl ?_
    refine g_iconst (v := 1) C dX6_firstStart_17 (by decide) ?_
    obtain ⟨q_2, e_3, h⟩ := zlet_ex h
    refine g_vi (ws' := (zW cy ad shM E q_2.2)) (As := [.int (1 : Int32)]) (rest := []) (res := q_2.1) C ((by rw [e_3]; exact c_X6_fails l D cy ad E X (1 : Int32))) gX6_firstStart_X6_fails rfl hd_X6_fails (zW_get X sM_0) rfl rfl rfl ⟨Nat.le_of_ble_eq_true rfl, Nat.le_of_ble_eq_true rfl⟩ rfl rfl (Nat.le_of_ble_eq_true rfl) ⟨Nat.zero_le _, Nat.zero_le _⟩ dX6_firstStart_18 ?_
    obtain rfl := Option.some.inj h
    exact g_iret rfl C hr rfl dX6_firstStart_21
  · replace h := (if_neg hc_1).symm.trans h
    refine g_aload_n (j := 0) C dX6_firstStart_8 rfl rfl ?_
    refine g_iload_n (j := 2) C dX6_firstStart_9 rfl rfl ?_
    refine g_vi (ws' := (zW cy ad shM E X)) (As := [.int v2]) (rest := []) (res := (f_X6_isFilm X v2)) C (c_X6_isFilm l D cy ad E X v2) gX6_firstStart_X6_isFilm rfl hd_X6_isFilm (zW_get X sM_0) rfl rfl rfl ⟨Nat.le_of_ble_eq_true rfl, Nat.le_of_ble_eq_true rfl⟩ rfl rfl (Nat.le_of_ble_eq_true rfl) ⟨Nat.zero_le _, Nat.zero_le _⟩ dX6_firstStart_10 ?_
    refine g_if_ne C dX6_firstStart_13 (tgt := 22) (by decide) (fun hc_4 => ?_) (fun hc_4 => ?_)
    · replace h := (if_neg hc_4).symm.trans h
      refine g_iload_n (j := 3) C dX6_firstStart_22 rfl rfl ?_
      refine g_iload (j := 4) C dX6_firstStart_23 rfl ?_
      refine g_si (ws' := (zW cy ad shM E X)) (As := [.int v3, .int v4]) (rest := []) (res := (f_X6_isPlace v3 v4)) C (c_X6_isPlace l D cy (zW cy ad shM E X) v3 v4) gX6_firstStart_X6_isPlace rfl hd_X6_isPlace rfl rfl ⟨Nat.le_of_ble_eq_true rfl, Nat.le_of_ble_eq_true rfl⟩ rfl rfl (Nat.le_of_ble_eq_true rfl) ⟨Nat.zero_le _, Nat.zero_le _⟩ dX6_firstStart_25 ?_
      refine g_if_ne C dX6_firstStart_28 (tgt := 37) (by decide) (fun hc_5 => ?_) (fun hc_5 => ?_)
      · replace h := (if_neg hc_5).symm.trans h
        refine g_aload_n (j := 0) C dX6_firstStart_37 rfl rfl ?_
        refine g_aload_n (j := 0) C dX6_firstStart_38 rfl rfl ?_
        refine g_iload_n (j := 2) C dX6_firstStart_39 rfl rfl ?_
        refine g_iload_n (j := 3) C dX6_firstStart_40 rfl rfl ?_
        obtain ⟨q_6, hq_7, h⟩ := bind_isome h
        refine g_vi (ws' := (zW cy ad shM E X)) (As := [.int v2, .int v3]) (rest := [.ref (ad 0)]) (res := q_6) C (c_X6_bestReel l D cy ad E X v2 v3 hq_7) gX6_firstStart_X6_bestReel rfl hd_X6_bestReel (zW_get X sM_0) rfl rfl rfl ⟨Nat.le_of_ble_eq_true rfl, Nat.le_of_ble_eq_true rfl⟩ rfl rfl (Nat.le_of_ble_eq_true rfl) ⟨Nat.zero_le _, Nat.zero_le _⟩ dX6_firstStart_41 ?_
        obtain ⟨q_8, hq_9, h⟩ := bind_isome h
        refine g_vi (ws' := (zW cy ad shM E X)) (As := [.int q_6]) (rest := []) (res := q_8) C (c_X6_lengthOf l D cy ad E X q_6 hq_9) gX6_firstStart_X6_lengthOf rfl hd_X6_lengthOf (zW_get X sM_0) rfl rfl rfl ⟨Nat.le_of_ble_eq_true rfl, Nat.le_of_ble_eq_true rfl⟩ rfl rfl (Nat.le_of_ble_eq_true rfl) ⟨Nat.zero_le _, Nat.zero_le _⟩ dX6_firstStart_44 ?_
        refine g_aload_n (j := 0) C dX6_firstStart_47 rfl rfl ?_
        refine g_iload_n (j := 2) C dX6_firstStart_48 rfl rfl ?_
        refine g_iconst (v := 0) C dX6_firstStart_49 (by decide) ?_
        obtain ⟨q_10, hq_11, h⟩ := bind_isome h
        refine g_vi (ws' := (zW cy ad shM E X)) (As := [.int v2, .int (0 : Int32)]) (rest := [.int q_8]) (res := q_10) C (c_X6_filmAt l D cy ad E X v2 (0 : Int32) hq_11) gX6_firstStart_X6_filmAt rfl hd_X6_filmAt (zW_get X sM_0) rfl rfl rfl ⟨Nat.le_of_ble_eq_true rfl, Nat.le_of_ble_eq_true rfl⟩ rfl rfl (Nat.le_of_ble_eq_true rfl) ⟨Nat.zero_le _, Nat.zero_le _⟩ dX6_firstStart_50 ?_
        refine g_iadd C dX6_firstStart_53 ?_
        refine g_istore (L' := [(5, .int (q_8 + q_10)), (0, .ref (ad 0)), (1, .int v1), (2, .int v2), (3, .int v3), (4, .int v4)]) C dX6_firstStart_54 (by decide) rfl ?_
        refine g_iload (j := 5) C dX6_firstStart_56 rfl ?_
        refine g_istore (L' := [(6, .int v4), (5, .int (q_8 + q_10)), (0, .ref (ad 0)), (1, .int v1), (2, .int v2), (3, .int v3), (4, .int v4)]) C dX6_firstStart_58 (by decide) rfl ?_
        refine zG_sub (L' := [(0, .ref (ad 0)), (1, .int v1), (2, .int v2), (3, .int v3), (5, .int (q_8 + q_10)), (6, .int v4)]) [2, 3, 4, 5, 1, 0] rfl ?_
        refine w_X6_firstStart_L60 l D cy ad E _ _ v1 v2 v3 (q_8 + q_10) C hr zFuel X v4 h ?_ ?_
        · intro X_1017 v6_1016 h
          refine g_aload_n (j := 0) C dX6_firstStart_83 rfl rfl ?_
          refine g_iload (j := 1) C dX6_firstStart_84 rfl ?_
          obtain ⟨q_1018, e_1019, h⟩ := zlet_ex h
          refine g_vi (ws' := (zW cy ad shM E q_1018.2)) (As := [.int v6_1016]) (rest := []) (res := q_1018.1) C ((by rw [e_1019]; exact c_X6_done l D cy ad E X_1017 v6_1016)) gX6_firstStart_X6_done rfl hd_X6_done (zW_get X_1017 sM_0) rfl rfl rfl ⟨Nat.le_of_ble_eq_true rfl, Nat.le_of_ble_eq_true rfl⟩ rfl rfl (Nat.le_of_ble_eq_true rfl) ⟨Nat.zero_le _, Nat.zero_le _⟩ dX6_firstStart_86 ?_
          obtain rfl := Option.some.inj h
          exact g_iret rfl C hr rfl dX6_firstStart_89
        · intro X_1020 h
          refine g_aload_n (j := 0) C dX6_firstStart_96 rfl rfl ?_
          refine g_iconst (v := 3) C dX6_firstStart_97 (by decide) ?_
          obtain ⟨q_1021, e_1022, h⟩ := zlet_ex h
          refine g_vi (ws' := (zW cy ad shM E q_1021.2)) (As := [.int (3 : Int32)]) (rest := []) (res := q_1021.1) C ((by rw [e_1022]; exact c_X6_fails l D cy ad E X_1020 (3 : Int32))) gX6_firstStart_X6_fails rfl hd_X6_fails (zW_get X_1020 sM_0) rfl rfl rfl ⟨Nat.le_of_ble_eq_true rfl, Nat.le_of_ble_eq_true rfl⟩ rfl rfl (Nat.le_of_ble_eq_true rfl) ⟨Nat.zero_le _, Nat.zero_le _⟩ dX6_firstStart_98 ?_
          obtain rfl := Option.some.inj h
          exact g_iret rfl C hr rfl dX6_firstStart_101
      · replace h := (if_pos hc_5).symm.trans h
        refine g_aload_n (j := 0) C dX6_firstStart_31 rfl rfl ?_
        refine g_iconst (v := 2) C dX6_firstStart_32 (by decide) ?_
        obtain ⟨q_1023, e_1024, h⟩ := zlet_ex h
        refine g_vi (ws' := (zW cy ad shM E q_1023.2)) (As := [.int (2 : Int32)]) (rest := []) (res := q_1023.1) C ((by rw [e_1024]; exact c_X6_fails l D cy ad E X (2 : Int32))) gX6_firstStart_X6_fails rfl hd_X6_fails (zW_get X sM_0) rfl rfl rfl ⟨Nat.le_of_ble_eq_true rfl, Nat.le_of_ble_eq_true rfl⟩ rfl rfl (Nat.le_of_ble_eq_true rfl) ⟨Nat.zero_le _, Nat.zero_le _⟩ dX6_firstStart_33 ?_
        obtain rfl := Option.some.inj h
        exact g_iret rfl C hr rfl dX6_firstStart_36
    · replace h := (if_pos hc_4).symm.trans h
      refine g_aload_n (j := 0) C dX6_firstStart_16 rfl rfl ?_
      refine g_iconst (v := 1) C dX6_firstStart_17 (by decide) ?_
      obtain ⟨q_1025, e_1026, h⟩ := zlet_ex h
      refine g_vi (ws' := (zW cy ad shM E q_1025.2)) (As := [.int (1 : Int32)]) (rest := []) (res := q_1025.1) C ((by rw [e_1026]; exact c_X6_fails l D cy ad E X (1 : Int32))) gX6_firstStart_X6_fails rfl hd_X6_fails (zW_get X sM_0) rfl rfl rfl ⟨Nat.le_of_ble_eq_true rfl, Nat.le_of_ble_eq_true rfl⟩ rfl rfl (Nat.le_of_ble_eq_true rfl) ⟨Nat.zero_le _, Nat.zero_le _⟩ dX6_firstStart_18 ?_
      obtain rfl := Option.some.inj h
      exact g_iret rfl C hr rfl dX6_firstStart_21
theorem in_X6_findsAt_RX6 : ∀ w ∈ u_ws RX6 TX6 27, w ∈ wsX6_findsAt := by decide +kernel
theorem fl_X6_findsAt_9 : (Cond.fieldLink RX6 9 RX6 (TX6 1).2.1 (TX6 1).2.2.1) ∈ wsX6_findsAt := by decide +kernel
theorem fl_X6_findsAt_212 : (Cond.fieldLink RX6 212 RX6 (TX6 22).2.1 (TX6 22).2.2.1) ∈ wsX6_findsAt := by decide +kernel
theorem fl_X6_findsAt_215 : (Cond.fieldLink RX6 215 RX6 (TX6 23).2.1 (TX6 23).2.2.1) ∈ wsX6_findsAt := by decide +kernel
theorem hd_X6_findsAt : yX6_findsAt.cls = RX6 ∧ yX6_findsAt.cls ≠ "java/lang/invoke/MethodHandle" ∧ yX6_findsAt.cls ≠ "java/lang/invoke/VarHandle" ∧ (parseMethodDescriptor yX6_findsAt.desc).map (fun d => d.parameters.length) = some 2 := by decide +kernel
def f_X6_findsAt_L2 (k : (Nat → Nat → Int32) → Int32 → Option (Int32 × (Nat → Nat → Int32))) (v1 : Int32) (v2 : Int32) : Nat → (Nat → Nat → Int32) → Int32 → Option (Int32 × (Nat → Nat → Int32))
  | 0, _, _ => none
  | fu + 1, X, v3 => (if (X 1 (1 : Int32).toNatClampNeg) ≤ v3 then some ((0 : Int32), X) else (if (f_X6_in v2 (0 : Int32) (959 : Int32)) = 0 then some ((0 : Int32), X) else ((f_X6_showAt X v1 (0 : Int32)).bind fun q_1003 => (if v3 = q_1003 then f_X6_findsAt_L2 k v1 v2 fu X (v3 + 1) else ((f_X6_hallAt X v3 (0 : Int32)).bind fun q_1006 => ((f_X6_showAt X v1 (7 : Int32)).bind fun q_1008 => (if q_1006 < q_1008 then f_X6_findsAt_L2 k v1 v2 fu X (v3 + 1) else ((f_X6_showAt X v1 (1 : Int32)).bind fun q_1011 => ((f_X6_showAt X v1 (2 : Int32)).bind fun q_1013 => ((f_X6_minutesOf X v1).bind fun q_1015 => ((f_X6_breaks X v3 q_1011 q_1013 v2 q_1015 v1).bind fun q_1017 => (if q_1017.1 = 0 then k q_1017.2 v3 else f_X6_findsAt_L2 k v1 v2 fu q_1017.2 (v3 + 1)))))))))))))
set_option maxRecDepth 100000 in
set_option maxHeartbeats 4000000 in
theorem w_X6_findsAt_L2 {p : Program} {e : Env} {s : State} {m : MethodId} {args : Array Value} {below : List Frame} {meth : Method} {c : Code} {A : Nat → Prop} (l : Launch) (D : va_G) (cy : Nat → ClassId) (ad : Nat → Nat) (E : va_W) (k : (Nat → Nat → Int32) → Int32 → Option (Int32 × (Nat → Nat → Int32))) (v1 : Int32) (v2 : Int32) {res : Int32 × (Nat → Nat → Int32)} (C : zC p s m args meth c cX6_findsAt 5 RX6 wsX6_findsAt D (zTy cy) A) (hr : meth.sig.returnType = (some .boolean)) : ∀ (fu : Nat) (X : Nat → Nat → Int32) (v3 : Int32) (h : f_X6_findsAt_L2 k v1 v2 fu X v3 = some res) (hk : ∀ (X : Nat → Nat → Int32) (v3 : Int32), k X v3 = some res → zG p l e (headSpec wsX6_findsAt (zrm 7)).room s m args below meth c 5 D A 0 0 (MQ below (va_Qi (fun (r : Int32) (_ : Unit) => r = res.1) (fun _ t => zB D (zTy cy) A (zW cy ad shM E res.2) t) A) args s 0 0 A) (zW cy ad shM E X) 88 [(0, .ref (ad 0)), (2, .int v2), (3, .int v3)] []), zG p l e (headSpec wsX6_findsAt (zrm 7)).room s m args below meth c 5 D A 0 0 (MQ below (va_Qi (fun (r : Int32) (_ : Unit) => r = res.1) (fun _ t => zB D (zTy cy) A (zW cy ad shM E res.2) t) A) args s 0 0 A) (zW cy ad shM E X) 2 [(0, .ref (ad 0)), (1, .int v1), (2, .int v2), (3, .int v3)] [] := by
  intro fu
  induction fu with
  | zero => intro X v3 h hk; simp [f_X6_findsAt_L2] at h
  | succ fu ih =>
    intro X v3 h hk
    rw [f_X6_findsAt_L2] at h
    refine g_iload_n (j := 3) C dX6_findsAt_2 rfl rfl ?_
    refine g_aload_n (j := 0) C dX6_findsAt_3 rfl rfl ?_
    refine g_getr (k := 1) (N := 27) C sM_0 rfl in_X6_findsAt_RX6 (by decide) rfl fl_X6_findsAt_9 rfl dX6_findsAt_4 ?_
    refine g_iconst (v := 1) C dX6_findsAt_7 (by decide) ?_
    refine g_iald C sM_1 (by decide) dX6_findsAt_8 ?_
    refine g_icmp_ge C dX6_findsAt_9 (tgt := 106) (by decide) (fun hc_1001 => ?_) (fun hc_1001 => ?_)
    · replace h := (if_pos hc_1001).symm.trans h
      refine g_iconst (v := 0) C dX6_findsAt_106 (by decide) ?_
      obtain rfl := Option.some.inj h
      exact g_iret rfl C hr (z_nb (Or.inl rfl)) dX6_findsAt_107
    · replace h := (if_neg hc_1001).symm.trans h
      refine g_iload_n (j := 2) C dX6_findsAt_12 rfl rfl ?_
      refine g_iconst (v := 0) C dX6_findsAt_13 (by decide) ?_
      refine g_sipush (v := 959) C dX6_findsAt_14 (by decide) ?_
      refine g_si (ws' := (zW cy ad shM E X)) (As := [.int v2, .int (0 : Int32), .int (959 : Int32)]) (rest := []) (res := (f_X6_in v2 (0 : Int32) (959 : Int32))) C (c_X6_in l D cy (zW cy ad shM E X) v2 (0 : Int32) (959 : Int32)) gX6_findsAt_X6_in rfl hd_X6_in rfl rfl ⟨Nat.le_of_ble_eq_true rfl, Nat.le_of_ble_eq_true rfl⟩ rfl rfl (Nat.le_of_ble_eq_true rfl) ⟨Nat.zero_le _, Nat.zero_le _⟩ dX6_findsAt_17 ?_
      refine g_if_eq C dX6_findsAt_20 (tgt := 106) (by decide) (fun hc_1002 => ?_) (fun hc_1002 => ?_)
      · replace h := (if_pos hc_1002).symm.trans h
        refine g_iconst (v := 0) C dX6_findsAt_106 (by decide) ?_
        obtain rfl := Option.some.inj h
        exact g_iret rfl C hr (z_nb (Or.inl rfl)) dX6_findsAt_107
      · replace h := (if_neg hc_1002).symm.trans h
        refine g_iload_n (j := 3) C dX6_findsAt_23 rfl rfl ?_
        refine g_aload_n (j := 0) C dX6_findsAt_24 rfl rfl ?_
        refine g_iload_n (j := 1) C dX6_findsAt_25 rfl rfl ?_
        refine g_iconst (v := 0) C dX6_findsAt_26 (by decide) ?_
        obtain ⟨q_1003, hq_1004, h⟩ := bind_isome h
        refine g_vi (ws' := (zW cy ad shM E X)) (As := [.int v1, .int (0 : Int32)]) (rest := [.int v3]) (res := q_1003) C (c_X6_showAt l D cy ad E X v1 (0 : Int32) hq_1004) gX6_findsAt_X6_showAt rfl hd_X6_showAt (zW_get X sM_0) rfl rfl rfl ⟨Nat.le_of_ble_eq_true rfl, Nat.le_of_ble_eq_true rfl⟩ rfl rfl (Nat.le_of_ble_eq_true rfl) ⟨Nat.zero_le _, Nat.zero_le _⟩ dX6_findsAt_27 ?_
        refine g_icmp_eq C dX6_findsAt_30 (tgt := 53) (by decide) (fun hc_1005 => ?_) (fun hc_1005 => ?_)
        · replace h := (if_pos hc_1005).symm.trans h
          refine g_iconst (v := 0) C dX6_findsAt_53 (by decide) ?_
          refine g_istore (L' := [(4, .int (0 : Int32)), (0, .ref (ad 0)), (1, .int v1), (2, .int v2), (3, .int v3)]) C dX6_findsAt_54 (by decide) rfl ?_
          refine g_iload (j := 0) C dX6_findsAt_56 rfl ?_
          refine g_if_eq C dX6_findsAt_58 (tgt := 100) (by decide) (fun _ => ?_) (fun h9 => absurd h9 (by decide))
          refine g_iinc (k := 4) (L' := [(3, .int (v3 + 1)), (4, .int (0 : Int32)), (0, .ref (ad 0)), (1, .int v1), (2, .int v2)]) C dX6_findsAt_100 rfl (z_iinc (by decide)) (by decide) rfl ?_
          refine g_goto C dX6_findsAt_103 (tgt := 2) (by decide) ?_
          refine zG_sub (L' := [(0, .ref (ad 0)), (1, .int v1), (2, .int v2), (3, .int (v3 + 1))]) [2, 3, 4, 0] rfl ?_
          exact ih X (v3 + 1) h hk
        · replace h := (if_neg hc_1005).symm.trans h
          refine g_aload_n (j := 0) C dX6_findsAt_33 rfl rfl ?_
          refine g_iload_n (j := 3) C dX6_findsAt_34 rfl rfl ?_
          refine g_iconst (v := 0) C dX6_findsAt_35 (by decide) ?_
          obtain ⟨q_1006, hq_1007, h⟩ := bind_isome h
          refine g_vi (ws' := (zW cy ad shM E X)) (As := [.int v3, .int (0 : Int32)]) (rest := []) (res := q_1006) C (c_X6_hallAt l D cy ad E X v3 (0 : Int32) hq_1007) gX6_findsAt_X6_hallAt rfl hd_X6_hallAt (zW_get X sM_0) rfl rfl rfl ⟨Nat.le_of_ble_eq_true rfl, Nat.le_of_ble_eq_true rfl⟩ rfl rfl (Nat.le_of_ble_eq_true rfl) ⟨Nat.zero_le _, Nat.zero_le _⟩ dX6_findsAt_36 ?_
          refine g_aload_n (j := 0) C dX6_findsAt_39 rfl rfl ?_
          refine g_iload_n (j := 1) C dX6_findsAt_40 rfl rfl ?_
          refine g_bipush (v := 7) C dX6_findsAt_41 (by decide) ?_
          obtain ⟨q_1008, hq_1009, h⟩ := bind_isome h
          refine g_vi (ws' := (zW cy ad shM E X)) (As := [.int v1, .int (7 : Int32)]) (rest := [.int q_1006]) (res := q_1008) C (c_X6_showAt l D cy ad E X v1 (7 : Int32) hq_1009) gX6_findsAt_X6_showAt rfl hd_X6_showAt (zW_get X sM_0) rfl rfl rfl ⟨Nat.le_of_ble_eq_true rfl, Nat.le_of_ble_eq_true rfl⟩ rfl rfl (Nat.le_of_ble_eq_true rfl) ⟨Nat.zero_le _, Nat.zero_le _⟩ dX6_findsAt_43 ?_
          refine g_icmp_lt C dX6_findsAt_46 (tgt := 53) (by decide) (fun hc_1010 => ?_) (fun hc_1010 => ?_)
          · replace h := (if_pos hc_1010).symm.trans h
            refine g_iconst (v := 0) C dX6_findsAt_53 (by decide) ?_
            refine g_istore (L' := [(4, .int (0 : Int32)), (0, .ref (ad 0)), (1, .int v1), (2, .int v2), (3, .int v3)]) C dX6_findsAt_54 (by decide) rfl ?_
            refine g_iload (j := 0) C dX6_findsAt_56 rfl ?_
            refine g_if_eq C dX6_findsAt_58 (tgt := 100) (by decide) (fun _ => ?_) (fun h9 => absurd h9 (by decide))
            refine g_iinc (k := 4) (L' := [(3, .int (v3 + 1)), (4, .int (0 : Int32)), (0, .ref (ad 0)), (1, .int v1), (2, .int v2)]) C dX6_findsAt_100 rfl (z_iinc (by decide)) (by decide) rfl ?_
            refine g_goto C dX6_findsAt_103 (tgt := 2) (by decide) ?_
            refine zG_sub (L' := [(0, .ref (ad 0)), (1, .int v1), (2, .int v2), (3, .int (v3 + 1))]) [2, 3, 4, 0] rfl ?_
            exact ih X (v3 + 1) h hk
          · replace h := (if_neg hc_1010).symm.trans h
            refine g_iconst (v := 1) C dX6_findsAt_49 (by decide) ?_
            refine g_goto C dX6_findsAt_50 (tgt := 54) (by decide) ?_
            refine g_istore (L' := [(4, .int (1 : Int32)), (0, .ref (ad 0)), (1, .int v1), (2, .int v2), (3, .int v3)]) C dX6_findsAt_54 (by decide) rfl ?_
            refine g_iload (j := 0) C dX6_findsAt_56 rfl ?_
            refine g_if_eq C dX6_findsAt_58 (tgt := 100) (by decide) (fun h9 => absurd h9 (by decide)) (fun _ => ?_)
            refine g_aload_n (j := 1) C dX6_findsAt_61 rfl rfl ?_
            refine g_iload_n (j := 4) C dX6_findsAt_62 rfl rfl ?_
            refine g_aload_n (j := 1) C dX6_findsAt_63 rfl rfl ?_
            refine g_iload_n (j := 2) C dX6_findsAt_64 rfl rfl ?_
            refine g_iconst (v := 1) C dX6_findsAt_65 (by decide) ?_
            obtain ⟨q_1011, hq_1012, h⟩ := bind_isome h
            refine g_vi (ws' := (zW cy ad shM E X)) (As := [.int v1, .int (1 : Int32)]) (rest := [.int v3, .ref (ad 0)]) (res := q_1011) C (c_X6_showAt l D cy ad E X v1 (1 : Int32) hq_1012) gX6_findsAt_X6_showAt rfl hd_X6_showAt (zW_get X sM_0) rfl rfl rfl ⟨Nat.le_of_ble_eq_true rfl, Nat.le_of_ble_eq_true rfl⟩ rfl rfl (Nat.le_of_ble_eq_true rfl) ⟨Nat.zero_le _, Nat.zero_le _⟩ dX6_findsAt_66 ?_
            refine g_aload_n (j := 1) C dX6_findsAt_69 rfl rfl ?_
            refine g_iload_n (j := 2) C dX6_findsAt_70 rfl rfl ?_
            refine g_iconst (v := 2) C dX6_findsAt_71 (by decide) ?_
            obtain ⟨q_1013, hq_1014, h⟩ := bind_isome h
            refine g_vi (ws' := (zW cy ad shM E X)) (As := [.int v1, .int (2 : Int32)]) (rest := [.int q_1011, .int v3, .ref (ad 0)]) (res := q_1013) C (c_X6_showAt l D cy ad E X v1 (2 : Int32) hq_1014) gX6_findsAt_X6_showAt rfl hd_X6_showAt (zW_get X sM_0) rfl rfl rfl ⟨Nat.le_of_ble_eq_true rfl, Nat.le_of_ble_eq_true rfl⟩ rfl rfl (Nat.le_of_ble_eq_true rfl) ⟨Nat.zero_le _, Nat.zero_le _⟩ dX6_findsAt_72 ?_
            refine g_iload_n (j := 3) C dX6_findsAt_75 rfl rfl ?_
            refine g_aload_n (j := 1) C dX6_findsAt_76 rfl rfl ?_
            refine g_iload_n (j := 2) C dX6_findsAt_77 rfl rfl ?_
            obtain ⟨q_1015, hq_1016, h⟩ := bind_isome h
            refine g_vi (ws' := (zW cy ad shM E X)) (As := [.int v1]) (rest := [.int v2, .int q_1013, .int q_1011, .int v3, .ref (ad 0)]) (res := q_1015) C (c_X6_minutesOf l D cy ad E X v1 hq_1016) gX6_findsAt_X6_minutesOf rfl hd_X6_minutesOf (zW_get X sM_0) rfl rfl rfl ⟨Nat.le_of_ble_eq_true rfl, Nat.le_of_ble_eq_true rfl⟩ rfl rfl (Nat.le_of_ble_eq_true rfl) ⟨Nat.zero_le _, Nat.zero_le _⟩ dX6_findsAt_78 ?_
            refine g_iload_n (j := 2) C dX6_findsAt_81 rfl rfl ?_
            obtain ⟨q_1017, hq_1018, h⟩ := bind_isome h
            refine g_vi (ws' := (zW cy ad shM E q_1017.2)) (As := [.int v3, .int q_1011, .int q_1013, .int v2, .int q_1015, .int v1]) (rest := []) (res := q_1017.1) C (c_X6_breaks l D cy ad E X v3 q_1011 q_1013 v2 q_1015 v1 hq_1018) gX6_findsAt_X6_breaks rfl hd_X6_breaks (zW_get X sM_0) rfl rfl rfl ⟨Nat.le_of_ble_eq_true rfl, Nat.le_of_ble_eq_true rfl⟩ rfl rfl (Nat.le_of_ble_eq_true rfl) ⟨Nat.zero_le _, Nat.zero_le _⟩ dX6_findsAt_82 ?_
            refine g_if_ne C dX6_findsAt_85 (tgt := 100) (by decide) (fun hc_1019 => ?_) (fun hc_1019 => ?_)
            · replace h := (if_neg hc_1019).symm.trans h
              refine g_iinc (k := 4) (L' := [(3, .int (v3 + 1)), (4, .int (1 : Int32)), (0, .ref (ad 0)), (1, .int v1), (2, .int v2)]) C dX6_findsAt_100 rfl (z_iinc (by decide)) (by decide) rfl ?_
              refine g_goto C dX6_findsAt_103 (tgt := 2) (by decide) ?_
              refine zG_sub (L' := [(0, .ref (ad 0)), (1, .int v1), (2, .int v2), (3, .int (v3 + 1))]) [2, 3, 4, 0] rfl ?_
              exact ih q_1017.2 (v3 + 1) h hk
            · replace h := (if_pos hc_1019).symm.trans h
              refine zG_sub (L' := [(0, .ref (ad 0)), (2, .int v2), (3, .int v3)]) [1, 3, 4] rfl ?_
              exact hk q_1017.2 v3 h
def f_X6_findsAt (X : Nat → Nat → Int32) (v1 v2 : Int32) : Option (Int32 × (Nat → Nat → Int32)) := f_X6_findsAt_L2 (fun X_1021 v3_1020 => (zlet (zU X_1021 0 22 v3_1020) fun X_1022 => (zlet (zU X_1022 0 23 v2) fun X_1024 => some ((1 : Int32), X_1024)))) v1 v2 zFuel X (0 : Int32)
set_option maxRecDepth 100000 in
set_option maxHeartbeats 4000000 in
theorem c_X6_findsAt (l : Launch) (D : va_G) (cy : Nat → ClassId) (ad : Nat → Nat) (E : va_W) (X : Nat → Nat → Int32) (v1 v2 : Int32) {res : Int32 × (Nat → Nat → Int32)} (h : f_X6_findsAt X v1 v2 = some res) : zMi l yX6_findsAt wsX6_findsAt (zrm 7) D (zTy cy) (zW cy ad shM E X) [.ref (ad 0), .int v1, .int v2] res.1 (zW cy ad shM E res.2) := by
  refine zMi.of (cc := cX6_findsAt) (maxL := 5) (ret := (some .boolean)) (by decide) rfl (Nat.le_of_ble_eq_true rfl) ?_
  intro p e s m below meth c A C hr
  unfold f_X6_findsAt at h
  refine zG_L (L' := [(0, .ref (ad 0)), (1, .int v1), (2, .int v2)]) rfl ?_
  refine g_iconst (v := 0) C dX6_findsAt_0 (by decide) ?_
  refine g_istore_n (L' := [(3, .int (0 : Int32)), (0, .ref (ad 0)), (1, .int v1), (2, .int v2)]) C dX6_findsAt_1 rfl (by decide) rfl ?_
  refine zG_sub (L' := [(0, .ref (ad 0)), (1, .int v1), (2, .int v2), (3, .int (0 : Int32))]) [1, 2, 3, 0] rfl ?_
  refine w_X6_findsAt_L2 l D cy ad E _ v1 v2 C hr zFuel X (0 : Int32) h ?_
  intro X_1021 v3_1020 h
  refine g_aload_n (j := 0) C dX6_findsAt_88 rfl rfl ?_
  refine g_iload_n (j := 2) C dX6_findsAt_89 rfl rfl ?_
  refine g_puti (k := 22) (N := 27) (ty := .int) C sM_0 rfl in_X6_findsAt_RX6 (by decide) rfl fl_X6_findsAt_212 rfl tyX6_ok nmX6 rfl (by decide +kernel) rfl rfl dX6_findsAt_90 ?_
  obtain ⟨X_1022, e_1023, h⟩ := zlet_ex h
  rw [← e_1023]
  refine g_aload_n (j := 0) C dX6_findsAt_93 rfl rfl ?_
  refine g_iload_n (j := 1) C dX6_findsAt_94 rfl rfl ?_
  refine g_puti (k := 23) (N := 27) (ty := .int) C sM_0 rfl in_X6_findsAt_RX6 (by decide) rfl fl_X6_findsAt_215 rfl tyX6_ok nmX6 rfl (by decide +kernel) rfl rfl dX6_findsAt_95 ?_
  obtain ⟨X_1024, e_1025, h⟩ := zlet_ex h
  rw [← e_1025]
  refine g_iconst (v := 1) C dX6_findsAt_98 (by decide) ?_
  obtain rfl := Option.some.inj h
  exact g_iret rfl C hr (z_nb (Or.inr rfl)) dX6_findsAt_99
