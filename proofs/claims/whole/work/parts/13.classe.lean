/-! laid by wip/whole/mkparts.py -/
theorem in_X5_isCarriedOut_RX1 : ∀ w ∈ u_ws RX1 TX1 2, w ∈ wsX5_isCarriedOut := by decide +kernel
theorem in_X5_isCarriedOut_RX3 : ∀ w ∈ u_ws RX3 TX3 8, w ∈ wsX5_isCarriedOut := by decide +kernel
theorem in_X5_isCarriedOut_RX5 : ∀ w ∈ u_ws RX5 TX5 11, w ∈ wsX5_isCarriedOut := by decide +kernel
theorem fl_X5_isCarriedOut_10 : (Cond.fieldLink RX5 10 RX5 (TX5 0).2.1 (TX5 0).2.2.1) ∈ wsX5_isCarriedOut := by decide +kernel
theorem fl_X5_isCarriedOut_36 : (Cond.fieldLink RX5 36 RX5 (TX5 4).2.1 (TX5 4).2.2.1) ∈ wsX5_isCarriedOut := by decide +kernel
theorem fl_X5_isCarriedOut_330 : (Cond.fieldLink RX5 330 RX3 (TX3 6).2.1 (TX3 6).2.2.1) ∈ wsX5_isCarriedOut := by decide +kernel
theorem fl_X5_isCarriedOut_392 : (Cond.fieldLink RX5 392 RX1 (TX1 0).2.1 (TX1 0).2.2.1) ∈ wsX5_isCarriedOut := by decide +kernel
theorem hd_X5_isCarriedOut : yX5_isCarriedOut.cls = RX5 ∧ yX5_isCarriedOut.cls ≠ "java/lang/invoke/MethodHandle" ∧ yX5_isCarriedOut.cls ≠ "java/lang/invoke/VarHandle" ∧ (parseMethodDescriptor yX5_isCarriedOut.desc).map (fun d => d.parameters.length) = some 1 := by decide +kernel
def f_X5_isCarriedOut (X : Nat → Nat → Int32) (v1 : Int32) : Option (Int32 × (Nat → Nat → Int32)) := (if (f_X4_get X 150 40 v1 (0 : Int32)) = (0 : Int32) then ((f_X5_faultOfPlan X (f_X4_get X 150 40 v1 (1 : Int32)) (f_X4_get X 150 40 v1 (2 : Int32)) (f_X4_get X 150 40 v1 (3 : Int32)) (f_X4_get X 150 40 v1 (4 : Int32))).bind fun q_2 => (if q_2.1 = 0 then ((f_X3_addShow q_2.2 (f_X4_get X 150 40 v1 (1 : Int32)) (f_X4_get X 150 40 v1 (2 : Int32)) (f_X4_get X 150 40 v1 (3 : Int32)) (f_X4_get X 150 40 v1 (4 : Int32))).bind fun q_5 => some ((1 : Int32), q_5.2)) else some ((0 : Int32), q_2.2))) else (if (f_X4_get X 150 40 v1 (0 : Int32)) = (1 : Int32) then (zlet (f_X5_faultOfSell X (f_X4_get X 150 40 v1 (1 : Int32)) (f_X4_get X 150 40 v1 (2 : Int32))) fun q_8 => (if q_8.1 = 0 then (zlet (f_X3_addTickets q_8.2 (f_X4_get X 150 40 v1 (1 : Int32)) (f_X4_get X 150 40 v1 (2 : Int32))) fun q_11 => some ((1 : Int32), q_11.2)) else some ((0 : Int32), q_8.2))) else (if (f_X4_get X 150 40 v1 (0 : Int32)) = (2 : Int32) then (if (f_X5_faultOfCancel X (f_X4_get X 150 40 v1 (1 : Int32))) = 0 then (zlet (f_X3_dropShow X (f_X4_get X 150 40 v1 (1 : Int32))) fun q_15 => some ((1 : Int32), q_15.2)) else some ((0 : Int32), X)) else (if (f_X4_get X 150 40 v1 (0 : Int32)) = (3 : Int32) then (if (f_X5_faultOfFail X (f_X4_get X 150 40 v1 (1 : Int32)) (f_X4_get X 150 40 v1 (2 : Int32))) = 0 then ((f_X5_closeHall X (f_X4_get X 150 40 v1 (1 : Int32)) (f_X4_get X 150 40 v1 (2 : Int32))).bind fun q_19 => some ((1 : Int32), q_19.2)) else some ((0 : Int32), X)) else (if (f_X4_get X 150 40 v1 (0 : Int32)) = (4 : Int32) then (if (f_X5_faultOfAdvance X (f_X4_get X 150 40 v1 (1 : Int32))) = 0 then (zlet (zU X 1 6 ((X 1 6) + (f_X4_get X 150 40 v1 (1 : Int32)))) fun X_23 => some ((1 : Int32), X_23)) else some ((0 : Int32), X)) else (if (f_X5_faultOfAdvance X (f_X4_get X 150 40 v1 (1 : Int32))) = 0 then (zlet (zU X 1 6 ((X 1 6) + (f_X4_get X 150 40 v1 (1 : Int32)))) fun X_26 => some ((1 : Int32), X_26)) else some ((0 : Int32), X)))))))
set_option maxRecDepth 100000 in
set_option maxHeartbeats 4000000 in
theorem c_X5_isCarriedOut (l : Launch) (D : va_G) (cy : Nat → ClassId) (ad : Nat → Nat) (E : va_W) (X : Nat → Nat → Int32) (v1 : Int32) {res : Int32 × (Nat → Nat → Int32)} (h : f_X5_isCarriedOut X v1 = some res) : zMi l yX5_isCarriedOut wsX5_isCarriedOut (zrm 6) D (zTy cy) (zW cy ad shC E X) [.ref (ad 0), .int v1] res.1 (zW cy ad shC E res.2) := by
  refine zMi.of (cc := cX5_isCarriedOut) (maxL := 7) (ret := (some .boolean)) (by decide) rfl (Nat.le_of_ble_eq_true rfl) ?_
  intro p e s m below meth c A C hr
  unfold f_X5_isCarriedOut at h
  refine zG_L (L' := [(0, .ref (ad 0)), (1, .int v1)]) rfl ?_
  refine g_aload_n (j := 0) C dX5_isCarriedOut_0 rfl rfl ?_
  refine g_getr (k := 4) (N := 11) C sC_0 rfl in_X5_isCarriedOut_RX5 (by decide) rfl fl_X5_isCarriedOut_36 rfl dX5_isCarriedOut_1 ?_
  refine g_getr (k := 0) (N := 2) C sC_149 rfl in_X5_isCarriedOut_RX1 (by decide) rfl fl_X5_isCarriedOut_392 rfl dX5_isCarriedOut_4 ?_
  refine g_iload_n (j := 1) C dX5_isCarriedOut_7 rfl rfl ?_
  refine g_iconst (v := 1) C dX5_isCarriedOut_8 (by decide) ?_
  refine g_vi (ws' := (zW cy ad shC E X)) (As := [.int v1, .int (1 : Int32)]) (rest := []) (res := (f_X4_get X 150 40 v1 (1 : Int32))) C (c_X4_get l D cy ad E X 150 40 sC_150 sC_151 (by decide) v1 (1 : Int32)) gX5_isCarriedOut_X4_get rfl hd_X4_get (zW_get X sC_150) rfl rfl rfl ⟨Nat.le_of_ble_eq_true rfl, Nat.le_of_ble_eq_true rfl⟩ rfl rfl (Nat.le_of_ble_eq_true rfl) ⟨Nat.zero_le _, Nat.zero_le _⟩ dX5_isCarriedOut_9 ?_
  refine g_istore_n (L' := [(2, .int (f_X4_get X 150 40 v1 (1 : Int32))), (0, .ref (ad 0)), (1, .int v1)]) C dX5_isCarriedOut_12 rfl (by decide) rfl ?_
  refine g_aload_n (j := 1) C dX5_isCarriedOut_13 rfl rfl ?_
  refine g_getr (k := 4) (N := 11) C sC_0 rfl in_X5_isCarriedOut_RX5 (by decide) rfl fl_X5_isCarriedOut_36 rfl dX5_isCarriedOut_14 ?_
  refine g_getr (k := 0) (N := 2) C sC_149 rfl in_X5_isCarriedOut_RX1 (by decide) rfl fl_X5_isCarriedOut_392 rfl dX5_isCarriedOut_17 ?_
  refine g_iload_n (j := 2) C dX5_isCarriedOut_20 rfl rfl ?_
  refine g_iconst (v := 2) C dX5_isCarriedOut_21 (by decide) ?_
  refine g_vi (ws' := (zW cy ad shC E X)) (As := [.int v1, .int (2 : Int32)]) (rest := []) (res := (f_X4_get X 150 40 v1 (2 : Int32))) C (c_X4_get l D cy ad E X 150 40 sC_150 sC_151 (by decide) v1 (2 : Int32)) gX5_isCarriedOut_X4_get rfl hd_X4_get (zW_get X sC_150) rfl rfl rfl ⟨Nat.le_of_ble_eq_true rfl, Nat.le_of_ble_eq_true rfl⟩ rfl rfl (Nat.le_of_ble_eq_true rfl) ⟨Nat.zero_le _, Nat.zero_le _⟩ dX5_isCarriedOut_22 ?_
  refine g_istore_n (L' := [(3, .int (f_X4_get X 150 40 v1 (2 : Int32))), (2, .int (f_X4_get X 150 40 v1 (1 : Int32))), (0, .ref (ad 0)), (1, .int v1)]) C dX5_isCarriedOut_25 rfl (by decide) rfl ?_
  refine g_aload_n (j := 2) C dX5_isCarriedOut_26 rfl rfl ?_
  refine g_getr (k := 4) (N := 11) C sC_0 rfl in_X5_isCarriedOut_RX5 (by decide) rfl fl_X5_isCarriedOut_36 rfl dX5_isCarriedOut_27 ?_
  refine g_getr (k := 0) (N := 2) C sC_149 rfl in_X5_isCarriedOut_RX1 (by decide) rfl fl_X5_isCarriedOut_392 rfl dX5_isCarriedOut_30 ?_
  refine g_iload_n (j := 3) C dX5_isCarriedOut_33 rfl rfl ?_
  refine g_iconst (v := 3) C dX5_isCarriedOut_34 (by decide) ?_
  refine g_vi (ws' := (zW cy ad shC E X)) (As := [.int v1, .int (3 : Int32)]) (rest := []) (res := (f_X4_get X 150 40 v1 (3 : Int32))) C (c_X4_get l D cy ad E X 150 40 sC_150 sC_151 (by decide) v1 (3 : Int32)) gX5_isCarriedOut_X4_get rfl hd_X4_get (zW_get X sC_150) rfl rfl rfl ⟨Nat.le_of_ble_eq_true rfl, Nat.le_of_ble_eq_true rfl⟩ rfl rfl (Nat.le_of_ble_eq_true rfl) ⟨Nat.zero_le _, Nat.zero_le _⟩ dX5_isCarriedOut_35 ?_
  refine g_istore (L' := [(4, .int (f_X4_get X 150 40 v1 (3 : Int32))), (3, .int (f_X4_get X 150 40 v1 (2 : Int32))), (2, .int (f_X4_get X 150 40 v1 (1 : Int32))), (0, .ref (ad 0)), (1, .int v1)]) C dX5_isCarriedOut_38 (by decide) rfl ?_
  refine g_aload_n (j := 3) C dX5_isCarriedOut_40 rfl rfl ?_
  refine g_getr (k := 4) (N := 11) C sC_0 rfl in_X5_isCarriedOut_RX5 (by decide) rfl fl_X5_isCarriedOut_36 rfl dX5_isCarriedOut_41 ?_
  refine g_getr (k := 0) (N := 2) C sC_149 rfl in_X5_isCarriedOut_RX1 (by decide) rfl fl_X5_isCarriedOut_392 rfl dX5_isCarriedOut_44 ?_
  refine g_iload_n (j := 4) C dX5_isCarriedOut_47 rfl rfl ?_
  refine g_iconst (v := 4) C dX5_isCarriedOut_48 (by decide) ?_
  refine g_vi (ws' := (zW cy ad shC E X)) (As := [.int v1, .int (4 : Int32)]) (rest := []) (res := (f_X4_get X 150 40 v1 (4 : Int32))) C (c_X4_get l D cy ad E X 150 40 sC_150 sC_151 (by decide) v1 (4 : Int32)) gX5_isCarriedOut_X4_get rfl hd_X4_get (zW_get X sC_150) rfl rfl rfl ⟨Nat.le_of_ble_eq_true rfl, Nat.le_of_ble_eq_true rfl⟩ rfl rfl (Nat.le_of_ble_eq_true rfl) ⟨Nat.zero_le _, Nat.zero_le _⟩ dX5_isCarriedOut_49 ?_
  refine g_istore (L' := [(5, .int (f_X4_get X 150 40 v1 (4 : Int32))), (4, .int (f_X4_get X 150 40 v1 (3 : Int32))), (3, .int (f_X4_get X 150 40 v1 (2 : Int32))), (2, .int (f_X4_get X 150 40 v1 (1 : Int32))), (0, .ref (ad 0)), (1, .int v1)]) C dX5_isCarriedOut_52 (by decide) rfl ?_
  refine g_aload_n (j := 4) C dX5_isCarriedOut_54 rfl rfl ?_
  refine g_getr (k := 4) (N := 11) C sC_0 rfl in_X5_isCarriedOut_RX5 (by decide) rfl fl_X5_isCarriedOut_36 rfl dX5_isCarriedOut_55 ?_
  refine g_getr (k := 0) (N := 2) C sC_149 rfl in_X5_isCarriedOut_RX1 (by decide) rfl fl_X5_isCarriedOut_392 rfl dX5_isCarriedOut_58 ?_
  refine g_iload_n (j := 5) C dX5_isCarriedOut_61 rfl rfl ?_
  refine g_iconst (v := 0) C dX5_isCarriedOut_62 (by decide) ?_
  refine g_vi (ws' := (zW cy ad shC E X)) (As := [.int v1, .int (0 : Int32)]) (rest := []) (res := (f_X4_get X 150 40 v1 (0 : Int32))) C (c_X4_get l D cy ad E X 150 40 sC_150 sC_151 (by decide) v1 (0 : Int32)) gX5_isCarriedOut_X4_get rfl hd_X4_get (zW_get X sC_150) rfl rfl rfl ⟨Nat.le_of_ble_eq_true rfl, Nat.le_of_ble_eq_true rfl⟩ rfl rfl (Nat.le_of_ble_eq_true rfl) ⟨Nat.zero_le _, Nat.zero_le _⟩ dX5_isCarriedOut_63 ?_
  by_cases hc_1 : (f_X4_get X 150 40 v1 (0 : Int32)) = (0 : Int32)
  · replace h := (if_pos hc_1).symm.trans h
    refine g_tabEq C dX5_isCarriedOut_66 hc_1 (by decide) (by decide) rfl (tgt := 100) (by decide) ?_
    refine g_aload_n (j := 4) C dX5_isCarriedOut_100 rfl rfl ?_
    refine g_iload_n (j := 3) C dX5_isCarriedOut_101 rfl rfl ?_
    refine g_iload_n (j := 2) C dX5_isCarriedOut_102 rfl rfl ?_
    refine g_iload (j := 1) C dX5_isCarriedOut_103 rfl ?_
    refine g_iload (j := 0) C dX5_isCarriedOut_105 rfl ?_
    obtain ⟨q_2, hq_3, h⟩ := bind_isome h
    refine g_vi (ws' := (zW cy ad shC E q_2.2)) (As := [.int (f_X4_get X 150 40 v1 (1 : Int32)), .int (f_X4_get X 150 40 v1 (2 : Int32)), .int (f_X4_get X 150 40 v1 (3 : Int32)), .int (f_X4_get X 150 40 v1 (4 : Int32))]) (rest := []) (res := q_2.1) C (c_X5_faultOfPlan l D cy ad E X (f_X4_get X 150 40 v1 (1 : Int32)) (f_X4_get X 150 40 v1 (2 : Int32)) (f_X4_get X 150 40 v1 (3 : Int32)) (f_X4_get X 150 40 v1 (4 : Int32)) hq_3) gX5_isCarriedOut_X5_faultOfPlan rfl hd_X5_faultOfPlan (zW_get X sC_0) rfl rfl rfl ⟨Nat.le_of_ble_eq_true rfl, Nat.le_of_ble_eq_true rfl⟩ rfl rfl (Nat.le_of_ble_eq_true rfl) ⟨Nat.zero_le _, Nat.zero_le _⟩ dX5_isCarriedOut_107 ?_
    refine g_istore (L' := [(6, .int q_2.1), (5, .int (f_X4_get X 150 40 v1 (4 : Int32))), (4, .int (f_X4_get X 150 40 v1 (3 : Int32))), (3, .int (f_X4_get X 150 40 v1 (2 : Int32))), (2, .int (f_X4_get X 150 40 v1 (1 : Int32))), (0, .ref (ad 0)), (1, .int v1)]) C dX5_isCarriedOut_110 (by decide) rfl ?_
    refine g_iload (j := 0) C dX5_isCarriedOut_112 rfl ?_
    refine g_if_ne C dX5_isCarriedOut_114 (tgt := 232) (by decide) (fun hc_4 => ?_) (fun hc_4 => ?_)
    · replace h := (if_neg hc_4).symm.trans h
      refine g_iload (j := 0) C dX5_isCarriedOut_232 rfl ?_
      refine g_if_ne C dX5_isCarriedOut_234 (tgt := 241) (by decide) (fun _ => ?_) (fun h9 => absurd h9 hc_4)
      refine g_iconst (v := 0) C dX5_isCarriedOut_241 (by decide) ?_
      obtain rfl := Option.some.inj h
      exact g_iret rfl C hr (z_nb (Or.inl rfl)) dX5_isCarriedOut_242
    · replace h := (if_pos hc_4).symm.trans h
      refine g_aload_n (j := 5) C dX5_isCarriedOut_117 rfl rfl ?_
      refine g_getr (k := 0) (N := 11) C sC_0 rfl in_X5_isCarriedOut_RX5 (by decide) rfl fl_X5_isCarriedOut_10 rfl dX5_isCarriedOut_118 ?_
      refine g_iload_n (j := 4) C dX5_isCarriedOut_121 rfl rfl ?_
      refine g_iload_n (j := 3) C dX5_isCarriedOut_122 rfl rfl ?_
      refine g_iload (j := 2) C dX5_isCarriedOut_123 rfl ?_
      refine g_iload (j := 1) C dX5_isCarriedOut_125 rfl ?_
      obtain ⟨q_5, hq_6, h⟩ := bind_isome h
      refine g_vi (ws' := (zW cy ad shC E q_5.2)) (As := [.int (f_X4_get X 150 40 v1 (1 : Int32)), .int (f_X4_get X 150 40 v1 (2 : Int32)), .int (f_X4_get X 150 40 v1 (3 : Int32)), .int (f_X4_get X 150 40 v1 (4 : Int32))]) (rest := []) (res := q_5.1) C (c_X3_addShow l D cy ad E q_2.2 (f_X4_get X 150 40 v1 (1 : Int32)) (f_X4_get X 150 40 v1 (2 : Int32)) (f_X4_get X 150 40 v1 (3 : Int32)) (f_X4_get X 150 40 v1 (4 : Int32)) hq_6) gX5_isCarriedOut_X3_addShow rfl hd_X3_addShow (zW_get q_2.2 sC_1) rfl rfl rfl ⟨Nat.le_of_ble_eq_true rfl, Nat.le_of_ble_eq_true rfl⟩ rfl rfl (Nat.le_of_ble_eq_true rfl) ⟨Nat.zero_le _, Nat.zero_le _⟩ dX5_isCarriedOut_127 ?_
      refine g_pop C dX5_isCarriedOut_130 rfl ?_
      refine g_goto C dX5_isCarriedOut_131 (tgt := 232) (by decide) ?_
      refine g_iload (j := 0) C dX5_isCarriedOut_232 rfl ?_
      refine g_if_ne C dX5_isCarriedOut_234 (tgt := 241) (by decide) (fun h9 => absurd hc_4 h9) (fun _ => ?_)
      refine g_iconst (v := 1) C dX5_isCarriedOut_237 (by decide) ?_
      refine g_goto C dX5_isCarriedOut_238 (tgt := 242) (by decide) ?_
      obtain rfl := Option.some.inj h
      exact g_iret rfl C hr (z_nb (Or.inr rfl)) dX5_isCarriedOut_242
  replace h := (if_neg hc_1).symm.trans h
  by_cases hc_7 : (f_X4_get X 150 40 v1 (0 : Int32)) = (1 : Int32)
  · replace h := (if_pos hc_7).symm.trans h
    refine g_tabEq C dX5_isCarriedOut_66 hc_7 (by decide) (by decide) rfl (tgt := 134) (by decide) ?_
    refine g_aload_n (j := 4) C dX5_isCarriedOut_134 rfl rfl ?_
    refine g_iload_n (j := 3) C dX5_isCarriedOut_135 rfl rfl ?_
    refine g_iload_n (j := 2) C dX5_isCarriedOut_136 rfl rfl ?_
    obtain ⟨q_8, e_9, h⟩ := zlet_ex h
    refine g_vi (ws' := (zW cy ad shC E q_8.2)) (As := [.int (f_X4_get X 150 40 v1 (1 : Int32)), .int (f_X4_get X 150 40 v1 (2 : Int32))]) (rest := []) (res := q_8.1) C ((by rw [e_9]; exact c_X5_faultOfSell l D cy ad E X (f_X4_get X 150 40 v1 (1 : Int32)) (f_X4_get X 150 40 v1 (2 : Int32)))) gX5_isCarriedOut_X5_faultOfSell rfl hd_X5_faultOfSell (zW_get X sC_0) rfl rfl rfl ⟨Nat.le_of_ble_eq_true rfl, Nat.le_of_ble_eq_true rfl⟩ rfl rfl (Nat.le_of_ble_eq_true rfl) ⟨Nat.zero_le _, Nat.zero_le _⟩ dX5_isCarriedOut_137 ?_
    refine g_istore (L' := [(6, .int q_8.1), (5, .int (f_X4_get X 150 40 v1 (4 : Int32))), (4, .int (f_X4_get X 150 40 v1 (3 : Int32))), (3, .int (f_X4_get X 150 40 v1 (2 : Int32))), (2, .int (f_X4_get X 150 40 v1 (1 : Int32))), (0, .ref (ad 0)), (1, .int v1)]) C dX5_isCarriedOut_140 (by decide) rfl ?_
    refine g_iload (j := 0) C dX5_isCarriedOut_142 rfl ?_
    refine g_if_ne C dX5_isCarriedOut_144 (tgt := 232) (by decide) (fun hc_10 => ?_) (fun hc_10 => ?_)
    · replace h := (if_neg hc_10).symm.trans h
      refine g_iload (j := 0) C dX5_isCarriedOut_232 rfl ?_
      refine g_if_ne C dX5_isCarriedOut_234 (tgt := 241) (by decide) (fun _ => ?_) (fun h9 => absurd h9 hc_10)
      refine g_iconst (v := 0) C dX5_isCarriedOut_241 (by decide) ?_
      obtain rfl := Option.some.inj h
      exact g_iret rfl C hr (z_nb (Or.inl rfl)) dX5_isCarriedOut_242
    · replace h := (if_pos hc_10).symm.trans h
      refine g_aload_n (j := 5) C dX5_isCarriedOut_147 rfl rfl ?_
      refine g_getr (k := 0) (N := 11) C sC_0 rfl in_X5_isCarriedOut_RX5 (by decide) rfl fl_X5_isCarriedOut_10 rfl dX5_isCarriedOut_148 ?_
      refine g_iload_n (j := 4) C dX5_isCarriedOut_151 rfl rfl ?_
      refine g_iload_n (j := 3) C dX5_isCarriedOut_152 rfl rfl ?_
      obtain ⟨q_11, e_12, h⟩ := zlet_ex h
      refine g_vi (ws' := (zW cy ad shC E q_11.2)) (As := [.int (f_X4_get X 150 40 v1 (1 : Int32)), .int (f_X4_get X 150 40 v1 (2 : Int32))]) (rest := []) (res := q_11.1) C ((by rw [e_12]; exact c_X3_addTickets l D cy ad E q_8.2 (f_X4_get X 150 40 v1 (1 : Int32)) (f_X4_get X 150 40 v1 (2 : Int32)))) gX5_isCarriedOut_X3_addTickets rfl hd_X3_addTickets (zW_get q_8.2 sC_1) rfl rfl rfl ⟨Nat.le_of_ble_eq_true rfl, Nat.le_of_ble_eq_true rfl⟩ rfl rfl (Nat.le_of_ble_eq_true rfl) ⟨Nat.zero_le _, Nat.zero_le _⟩ dX5_isCarriedOut_153 ?_
      refine g_pop C dX5_isCarriedOut_156 rfl ?_
      refine g_goto C dX5_isCarriedOut_157 (tgt := 232) (by decide) ?_
      refine g_iload (j := 0) C dX5_isCarriedOut_232 rfl ?_
      refine g_if_ne C dX5_isCarriedOut_234 (tgt := 241) (by decide) (fun h9 => absurd hc_10 h9) (fun _ => ?_)
      refine g_iconst (v := 1) C dX5_isCarriedOut_237 (by decide) ?_
      refine g_goto C dX5_isCarriedOut_238 (tgt := 242) (by decide) ?_
      obtain rfl := Option.some.inj h
      exact g_iret rfl C hr (z_nb (Or.inr rfl)) dX5_isCarriedOut_242
  replace h := (if_neg hc_7).symm.trans h
  by_cases hc_13 : (f_X4_get X 150 40 v1 (0 : Int32)) = (2 : Int32)
  · replace h := (if_pos hc_13).symm.trans h
    refine g_tabEq C dX5_isCarriedOut_66 hc_13 (by decide) (by decide) rfl (tgt := 160) (by decide) ?_
    refine g_aload_n (j := 4) C dX5_isCarriedOut_160 rfl rfl ?_
    refine g_iload_n (j := 3) C dX5_isCarriedOut_161 rfl rfl ?_
    refine g_vi (ws' := (zW cy ad shC E X)) (As := [.int (f_X4_get X 150 40 v1 (1 : Int32))]) (rest := []) (res := (f_X5_faultOfCancel X (f_X4_get X 150 40 v1 (1 : Int32)))) C (c_X5_faultOfCancel l D cy ad E X (f_X4_get X 150 40 v1 (1 : Int32))) gX5_isCarriedOut_X5_faultOfCancel rfl hd_X5_faultOfCancel (zW_get X sC_0) rfl rfl rfl ⟨Nat.le_of_ble_eq_true rfl, Nat.le_of_ble_eq_true rfl⟩ rfl rfl (Nat.le_of_ble_eq_true rfl) ⟨Nat.zero_le _, Nat.zero_le _⟩ dX5_isCarriedOut_162 ?_
    refine g_istore (L' := [(6, .int (f_X5_faultOfCancel X (f_X4_get X 150 40 v1 (1 : Int32)))), (5, .int (f_X4_get X 150 40 v1 (4 : Int32))), (4, .int (f_X4_get X 150 40 v1 (3 : Int32))), (3, .int (f_X4_get X 150 40 v1 (2 : Int32))), (2, .int (f_X4_get X 150 40 v1 (1 : Int32))), (0, .ref (ad 0)), (1, .int v1)]) C dX5_isCarriedOut_165 (by decide) rfl ?_
    refine g_iload (j := 0) C dX5_isCarriedOut_167 rfl ?_
    refine g_if_ne C dX5_isCarriedOut_169 (tgt := 232) (by decide) (fun hc_14 => ?_) (fun hc_14 => ?_)
    · replace h := (if_neg hc_14).symm.trans h
      refine g_iload (j := 0) C dX5_isCarriedOut_232 rfl ?_
      refine g_if_ne C dX5_isCarriedOut_234 (tgt := 241) (by decide) (fun _ => ?_) (fun h9 => absurd h9 hc_14)
      refine g_iconst (v := 0) C dX5_isCarriedOut_241 (by decide) ?_
      obtain rfl := Option.some.inj h
      exact g_iret rfl C hr (z_nb (Or.inl rfl)) dX5_isCarriedOut_242
    · replace h := (if_pos hc_14).symm.trans h
      refine g_aload_n (j := 5) C dX5_isCarriedOut_172 rfl rfl ?_
      refine g_getr (k := 0) (N := 11) C sC_0 rfl in_X5_isCarriedOut_RX5 (by decide) rfl fl_X5_isCarriedOut_10 rfl dX5_isCarriedOut_173 ?_
      refine g_iload_n (j := 4) C dX5_isCarriedOut_176 rfl rfl ?_
      obtain ⟨q_15, e_16, h⟩ := zlet_ex h
      refine g_vi (ws' := (zW cy ad shC E q_15.2)) (As := [.int (f_X4_get X 150 40 v1 (1 : Int32))]) (rest := []) (res := q_15.1) C ((by rw [e_16]; exact c_X3_dropShow l D cy ad E X (f_X4_get X 150 40 v1 (1 : Int32)))) gX5_isCarriedOut_X3_dropShow rfl hd_X3_dropShow (zW_get X sC_1) rfl rfl rfl ⟨Nat.le_of_ble_eq_true rfl, Nat.le_of_ble_eq_true rfl⟩ rfl rfl (Nat.le_of_ble_eq_true rfl) ⟨Nat.zero_le _, Nat.zero_le _⟩ dX5_isCarriedOut_177 ?_
      refine g_pop C dX5_isCarriedOut_180 rfl ?_
      refine g_goto C dX5_isCarriedOut_181 (tgt := 232) (by decide) ?_
      refine g_iload (j := 0) C dX5_isCarriedOut_232 rfl ?_
      refine g_if_ne C dX5_isCarriedOut_234 (tgt := 241) (by decide) (fun h9 => absurd hc_14 h9) (fun _ => ?_)
      refine g_iconst (v := 1) C dX5_isCarriedOut_237 (by decide) ?_
      refine g_goto C dX5_isCarriedOut_238 (tgt := 242) (by decide) ?_
      obtain rfl := Option.some.inj h
      exact g_iret rfl C hr (z_nb (Or.inr rfl)) dX5_isCarriedOut_242
  replace h := (if_neg hc_13).symm.trans h
  by_cases hc_17 : (f_X4_get X 150 40 v1 (0 : Int32)) = (3 : Int32)
  · replace h := (if_pos hc_17).symm.trans h
    refine g_tabEq C dX5_isCarriedOut_66 hc_17 (by decide) (by decide) rfl (tgt := 184) (by decide) ?_
    refine g_aload_n (j := 4) C dX5_isCarriedOut_184 rfl rfl ?_
    refine g_iload_n (j := 3) C dX5_isCarriedOut_185 rfl rfl ?_
    refine g_iload_n (j := 2) C dX5_isCarriedOut_186 rfl rfl ?_
    refine g_vi (ws' := (zW cy ad shC E X)) (As := [.int (f_X4_get X 150 40 v1 (1 : Int32)), .int (f_X4_get X 150 40 v1 (2 : Int32))]) (rest := []) (res := (f_X5_faultOfFail X (f_X4_get X 150 40 v1 (1 : Int32)) (f_X4_get X 150 40 v1 (2 : Int32)))) C (c_X5_faultOfFail l D cy ad E X (f_X4_get X 150 40 v1 (1 : Int32)) (f_X4_get X 150 40 v1 (2 : Int32))) gX5_isCarriedOut_X5_faultOfFail rfl hd_X5_faultOfFail (zW_get X sC_0) rfl rfl rfl ⟨Nat.le_of_ble_eq_true rfl, Nat.le_of_ble_eq_true rfl⟩ rfl rfl (Nat.le_of_ble_eq_true rfl) ⟨Nat.zero_le _, Nat.zero_le _⟩ dX5_isCarriedOut_187 ?_
    refine g_istore (L' := [(6, .int (f_X5_faultOfFail X (f_X4_get X 150 40 v1 (1 : Int32)) (f_X4_get X 150 40 v1 (2 : Int32)))), (5, .int (f_X4_get X 150 40 v1 (4 : Int32))), (4, .int (f_X4_get X 150 40 v1 (3 : Int32))), (3, .int (f_X4_get X 150 40 v1 (2 : Int32))), (2, .int (f_X4_get X 150 40 v1 (1 : Int32))), (0, .ref (ad 0)), (1, .int v1)]) C dX5_isCarriedOut_190 (by decide) rfl ?_
    refine g_iload (j := 0) C dX5_isCarriedOut_192 rfl ?_
    refine g_if_ne C dX5_isCarriedOut_194 (tgt := 232) (by decide) (fun hc_18 => ?_) (fun hc_18 => ?_)
    · replace h := (if_neg hc_18).symm.trans h
      refine g_iload (j := 0) C dX5_isCarriedOut_232 rfl ?_
      refine g_if_ne C dX5_isCarriedOut_234 (tgt := 241) (by decide) (fun _ => ?_) (fun h9 => absurd h9 hc_18)
      refine g_iconst (v := 0) C dX5_isCarriedOut_241 (by decide) ?_
      obtain rfl := Option.some.inj h
      exact g_iret rfl C hr (z_nb (Or.inl rfl)) dX5_isCarriedOut_242
    · replace h := (if_pos hc_18).symm.trans h
      refine g_aload_n (j := 5) C dX5_isCarriedOut_197 rfl rfl ?_
      refine g_iload_n (j := 4) C dX5_isCarriedOut_198 rfl rfl ?_
      refine g_iload_n (j := 3) C dX5_isCarriedOut_199 rfl rfl ?_
      obtain ⟨q_19, hq_20, h⟩ := bind_isome h
      refine g_vi (ws' := (zW cy ad shC E q_19.2)) (As := [.int (f_X4_get X 150 40 v1 (1 : Int32)), .int (f_X4_get X 150 40 v1 (2 : Int32))]) (rest := []) (res := q_19.1) C (c_X5_closeHall l D cy ad E X (f_X4_get X 150 40 v1 (1 : Int32)) (f_X4_get X 150 40 v1 (2 : Int32)) hq_20) gX5_isCarriedOut_X5_closeHall rfl hd_X5_closeHall (zW_get X sC_0) rfl rfl rfl ⟨Nat.le_of_ble_eq_true rfl, Nat.le_of_ble_eq_true rfl⟩ rfl rfl (Nat.le_of_ble_eq_true rfl) ⟨Nat.zero_le _, Nat.zero_le _⟩ dX5_isCarriedOut_200 ?_
      refine g_pop C dX5_isCarriedOut_203 rfl ?_
      refine g_goto C dX5_isCarriedOut_204 (tgt := 232) (by decide) ?_
      refine g_iload (j := 0) C dX5_isCarriedOut_232 rfl ?_
      refine g_if_ne C dX5_isCarriedOut_234 (tgt := 241) (by decide) (fun h9 => absurd hc_18 h9) (fun _ => ?_)
      refine g_iconst (v := 1) C dX5_isCarriedOut_237 (by decide) ?_
      refine g_goto C dX5_isCarriedOut_238 (tgt := 242) (by decide) ?_
      obtain rfl := Option.some.inj h
      exact g_iret rfl C hr (z_nb (Or.inr rfl)) dX5_isCarriedOut_242
  replace h := (if_neg hc_17).symm.trans h
  by_cases hc_21 : (f_X4_get X 150 40 v1 (0 : Int32)) = (4 : Int32)
  · replace h := (if_pos hc_21).symm.trans h
    refine g_tabEq C dX5_isCarriedOut_66 hc_21 (by decide) (by decide) rfl (tgt := 207) (by decide) ?_
    refine g_aload_n (j := 4) C dX5_isCarriedOut_207 rfl rfl ?_
    refine g_iload_n (j := 3) C dX5_isCarriedOut_208 rfl rfl ?_
    refine g_vi (ws' := (zW cy ad shC E X)) (As := [.int (f_X4_get X 150 40 v1 (1 : Int32))]) (rest := []) (res := (f_X5_faultOfAdvance X (f_X4_get X 150 40 v1 (1 : Int32)))) C (c_X5_faultOfAdvance l D cy ad E X (f_X4_get X 150 40 v1 (1 : Int32))) gX5_isCarriedOut_X5_faultOfAdvance rfl hd_X5_faultOfAdvance (zW_get X sC_0) rfl rfl rfl ⟨Nat.le_of_ble_eq_true rfl, Nat.le_of_ble_eq_true rfl⟩ rfl rfl (Nat.le_of_ble_eq_true rfl) ⟨Nat.zero_le _, Nat.zero_le _⟩ dX5_isCarriedOut_209 ?_
    refine g_istore (L' := [(6, .int (f_X5_faultOfAdvance X (f_X4_get X 150 40 v1 (1 : Int32)))), (5, .int (f_X4_get X 150 40 v1 (4 : Int32))), (4, .int (f_X4_get X 150 40 v1 (3 : Int32))), (3, .int (f_X4_get X 150 40 v1 (2 : Int32))), (2, .int (f_X4_get X 150 40 v1 (1 : Int32))), (0, .ref (ad 0)), (1, .int v1)]) C dX5_isCarriedOut_212 (by decide) rfl ?_
    refine g_iload (j := 0) C dX5_isCarriedOut_214 rfl ?_
    refine g_if_ne C dX5_isCarriedOut_216 (tgt := 232) (by decide) (fun hc_22 => ?_) (fun hc_22 => ?_)
    · replace h := (if_neg hc_22).symm.trans h
      refine g_iload (j := 0) C dX5_isCarriedOut_232 rfl ?_
      refine g_if_ne C dX5_isCarriedOut_234 (tgt := 241) (by decide) (fun _ => ?_) (fun h9 => absurd h9 hc_22)
      refine g_iconst (v := 0) C dX5_isCarriedOut_241 (by decide) ?_
      obtain rfl := Option.some.inj h
      exact g_iret rfl C hr (z_nb (Or.inl rfl)) dX5_isCarriedOut_242
    · replace h := (if_pos hc_22).symm.trans h
      refine g_aload_n (j := 5) C dX5_isCarriedOut_219 rfl rfl ?_
      refine g_getr (k := 0) (N := 11) C sC_0 rfl in_X5_isCarriedOut_RX5 (by decide) rfl fl_X5_isCarriedOut_10 rfl dX5_isCarriedOut_220 ?_
      refine g_dup C dX5_isCarriedOut_223 rfl ?_
      refine g_geti (k := 6) (N := 8) C sC_1 rfl in_X5_isCarriedOut_RX3 (by decide) rfl fl_X5_isCarriedOut_330 rfl dX5_isCarriedOut_224 ?_
      refine g_iload_n (j := 4) C dX5_isCarriedOut_227 rfl rfl ?_
      refine g_iadd C dX5_isCarriedOut_228 ?_
      refine g_puti (k := 6) (N := 8) (ty := .int) C sC_1 rfl in_X5_isCarriedOut_RX3 (by decide) rfl fl_X5_isCarriedOut_330 rfl tyX3_ok nmX3 rfl (by decide +kernel) rfl rfl dX5_isCarriedOut_229 ?_
      obtain ⟨X_23, e_24, h⟩ := zlet_ex h
      rw [← e_24]
      refine g_iload (j := 0) C dX5_isCarriedOut_232 rfl ?_
      refine g_if_ne C dX5_isCarriedOut_234 (tgt := 241) (by decide) (fun h9 => absurd hc_22 h9) (fun _ => ?_)
      refine g_iconst (v := 1) C dX5_isCarriedOut_237 (by decide) ?_
      refine g_goto C dX5_isCarriedOut_238 (tgt := 242) (by decide) ?_
      obtain rfl := Option.some.inj h
      exact g_iret rfl C hr (z_nb (Or.inr rfl)) dX5_isCarriedOut_242
  replace h := (if_neg hc_21).symm.trans h
  refine g_tabOut C dX5_isCarriedOut_66 (z_tabout_5 (lo := 0) (hi := 4) hc_1 hc_7 hc_13 hc_17 hc_21 (by decide)) (tgt := 207) (by decide) ?_
  refine g_aload_n (j := 4) C dX5_isCarriedOut_207 rfl rfl ?_
  refine g_iload_n (j := 3) C dX5_isCarriedOut_208 rfl rfl ?_
  refine g_vi (ws' := (zW cy ad shC E X)) (As := [.int (f_X4_get X 150 40 v1 (1 : Int32))]) (rest := []) (res := (f_X5_faultOfAdvance X (f_X4_get X 150 40 v1 (1 : Int32)))) C (c_X5_faultOfAdvance l D cy ad E X (f_X4_get X 150 40 v1 (1 : Int32))) gX5_isCarriedOut_X5_faultOfAdvance rfl hd_X5_faultOfAdvance (zW_get X sC_0) rfl rfl rfl ⟨Nat.le_of_ble_eq_true rfl, Nat.le_of_ble_eq_true rfl⟩ rfl rfl (Nat.le_of_ble_eq_true rfl) ⟨Nat.zero_le _, Nat.zero_le _⟩ dX5_isCarriedOut_209 ?_
  refine g_istore (L' := [(6, .int (f_X5_faultOfAdvance X (f_X4_get X 150 40 v1 (1 : Int32)))), (5, .int (f_X4_get X 150 40 v1 (4 : Int32))), (4, .int (f_X4_get X 150 40 v1 (3 : Int32))), (3, .int (f_X4_get X 150 40 v1 (2 : Int32))), (2, .int (f_X4_get X 150 40 v1 (1 : Int32))), (0, .ref (ad 0)), (1, .int v1)]) C dX5_isCarriedOut_212 (by decide) rfl ?_
  refine g_iload (j := 0) C dX5_isCarriedOut_214 rfl ?_
  refine g_if_ne C dX5_isCarriedOut_216 (tgt := 232) (by decide) (fun hc_25 => ?_) (fun hc_25 => ?_)
  · replace h := (if_neg hc_25).symm.trans h
    refine g_iload (j := 0) C dX5_isCarriedOut_232 rfl ?_
    refine g_if_ne C dX5_isCarriedOut_234 (tgt := 241) (by decide) (fun _ => ?_) (fun h9 => absurd h9 hc_25)
    refine g_iconst (v := 0) C dX5_isCarriedOut_241 (by decide) ?_
    obtain rfl := Option.some.inj h
    exact g_iret rfl C hr (z_nb (Or.inl rfl)) dX5_isCarriedOut_242
  · replace h := (if_pos hc_25).symm.trans h
    refine g_aload_n (j := 5) C dX5_isCarriedOut_219 rfl rfl ?_
    refine g_getr (k := 0) (N := 11) C sC_0 rfl in_X5_isCarriedOut_RX5 (by decide) rfl fl_X5_isCarriedOut_10 rfl dX5_isCarriedOut_220 ?_
    refine g_dup C dX5_isCarriedOut_223 rfl ?_
    refine g_geti (k := 6) (N := 8) C sC_1 rfl in_X5_isCarriedOut_RX3 (by decide) rfl fl_X5_isCarriedOut_330 rfl dX5_isCarriedOut_224 ?_
    refine g_iload_n (j := 4) C dX5_isCarriedOut_227 rfl rfl ?_
    refine g_iadd C dX5_isCarriedOut_228 ?_
    refine g_puti (k := 6) (N := 8) (ty := .int) C sC_1 rfl in_X5_isCarriedOut_RX3 (by decide) rfl fl_X5_isCarriedOut_330 rfl tyX3_ok nmX3 rfl (by decide +kernel) rfl rfl dX5_isCarriedOut_229 ?_
    obtain ⟨X_26, e_27, h⟩ := zlet_ex h
    rw [← e_27]
    refine g_iload (j := 0) C dX5_isCarriedOut_232 rfl ?_
    refine g_if_ne C dX5_isCarriedOut_234 (tgt := 241) (by decide) (fun h9 => absurd hc_25 h9) (fun _ => ?_)
    refine g_iconst (v := 1) C dX5_isCarriedOut_237 (by decide) ?_
    refine g_goto C dX5_isCarriedOut_238 (tgt := 242) (by decide) ?_
    obtain rfl := Option.some.inj h
    exact g_iret rfl C hr (z_nb (Or.inr rfl)) dX5_isCarriedOut_242
