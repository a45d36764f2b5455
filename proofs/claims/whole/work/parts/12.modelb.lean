/-! laid by wip/whole/mkparts.py -/
def f_X6_shareOn (X : Nat → Nat → Int32) (v1 v2 : Int32) : Option Int32 := ((f_X6_filmAt X v1 (nI 5)).bind fun q_1 => ((f_X6_filmAt X v1 (nI 6)).bind fun q_3 => ((f_X6_filmAt X v1 (nI 4)).bind fun q_5 => ((f_X6_filmAt X v1 (nI 7)).bind fun q_7 => (if q_7 ≤ (q_1 - (q_3 * ((v2 - q_5) / (nI 7)))) then some (q_1 - (q_3 * ((v2 - q_5) / (nI 7)))) else ((f_X6_filmAt X v1 (nI 7)).bind fun q_10 => some q_10))))))
set_option maxRecDepth 100000 in
set_option maxHeartbeats 4000000 in
theorem c_X6_shareOn (l : Launch) (D : va_G) (cy : Nat → ClassId) (ad : Nat → Nat) (E : va_W) (X : Nat → Nat → Int32) (v1 v2 : Int32) {res : Int32} (h : f_X6_shareOn X v1 v2 = some res) : zMi l yX6_shareOn cX6_shareOn 4 (some .int) (zrm 2) D (zTy cy) (zW cy ad shM E X) [.ref (ad 0), .int v1, .int v2] res (zW cy ad shM E X) := by
  refine zMi.of (by decide) (Nat.le_of_ble_eq_true rfl) ?_
  intro p e s m below meth c A C hr
  unfold f_X6_shareOn at h
  refine zG_L (L' := [(0, .ref (ad 0)), (1, .int v1), (2, .int v2)]) rfl ?_
  refine g_aload_n (j := 0) C dX6_shareOn_0 rfl rfl ?_
  refine g_iload_n (j := 1) C dX6_shareOn_1 rfl rfl ?_
  refine g_iconst (v := (nI 5)) C dX6_shareOn_2 (by decide) ?_
  obtain ⟨q_1, hq_2, h⟩ := bind_isome h
  refine g_vi (ws' := (zW cy ad shM E X)) (As := [.int v1, .int (nI 5)]) (rest := []) (res := q_1) C (c_X6_filmAt l D cy ad E X v1 (nI 5) hq_2) zml_RX6_81 zcv_X6_filmAt (zW_get X sM_0) rfl rfl rfl ⟨Nat.le_of_ble_eq_true rfl, Nat.le_of_ble_eq_true rfl⟩ rfl rfl (Nat.le_of_ble_eq_true rfl) ⟨Nat.zero_le _, Nat.zero_le _⟩ dX6_shareOn_3 ?_
  refine g_aload_n (j := 0) C dX6_shareOn_6 rfl rfl ?_
  refine g_iload_n (j := 1) C dX6_shareOn_7 rfl rfl ?_
  refine g_bipush (v := (nI 6)) C dX6_shareOn_8 (by decide) ?_
  obtain ⟨q_3, hq_4, h⟩ := bind_isome h
  refine g_vi (ws' := (zW cy ad shM E X)) (As := [.int v1, .int (nI 6)]) (rest := [.int q_1]) (res := q_3) C (c_X6_filmAt l D cy ad E X v1 (nI 6) hq_4) zml_RX6_81 zcv_X6_filmAt (zW_get X sM_0) rfl rfl rfl ⟨Nat.le_of_ble_eq_true rfl, Nat.le_of_ble_eq_true rfl⟩ rfl rfl (Nat.le_of_ble_eq_true rfl) ⟨Nat.zero_le _, Nat.zero_le _⟩ dX6_shareOn_10 ?_
  refine g_iload_n (j := 2) C dX6_shareOn_13 rfl rfl ?_
  refine g_aload_n (j := 0) C dX6_shareOn_14 rfl rfl ?_
  refine g_iload_n (j := 1) C dX6_shareOn_15 rfl rfl ?_
  refine g_iconst (v := (nI 4)) C dX6_shareOn_16 (by decide) ?_
  obtain ⟨q_5, hq_6, h⟩ := bind_isome h
  refine g_vi (ws' := (zW cy ad shM E X)) (As := [.int v1, .int (nI 4)]) (rest := [.int v2, .int q_3, .int q_1]) (res := q_5) C (c_X6_filmAt l D cy ad E X v1 (nI 4) hq_6) zml_RX6_81 zcv_X6_filmAt (zW_get X sM_0) rfl rfl rfl ⟨Nat.le_of_ble_eq_true rfl, Nat.le_of_ble_eq_true rfl⟩ rfl rfl (Nat.le_of_ble_eq_true rfl) ⟨Nat.zero_le _, Nat.zero_le _⟩ dX6_shareOn_17 ?_
  refine g_isub C dX6_shareOn_20 ?_
  refine g_bipush (v := (nI 7)) C dX6_shareOn_21 (by decide) ?_
  refine g_idiv C dX6_shareOn_23 (by decide) ?_
  refine g_imul C dX6_shareOn_24 ?_
  refine g_isub C dX6_shareOn_25 ?_
  refine g_istore_n (L' := [(3, .int (q_1 - (q_3 * ((v2 - q_5) / (nI 7))))), (0, .ref (ad 0)), (1, .int v1), (2, .int v2)]) C dX6_shareOn_26 rfl (by decide) rfl ?_
  refine g_iload_n (j := 0) C dX6_shareOn_27 rfl rfl ?_
  refine g_aload_n (j := 1) C dX6_shareOn_28 rfl rfl ?_
  refine g_iload_n (j := 2) C dX6_shareOn_29 rfl rfl ?_
  refine g_bipush (v := (nI 7)) C dX6_shareOn_30 (by decide) ?_
  obtain ⟨q_7, hq_8, h⟩ := bind_isome h
  refine g_vi (ws' := (zW cy ad shM E X)) (As := [.int v1, .int (nI 7)]) (rest := [.int (q_1 - (q_3 * ((v2 - q_5) / (nI 7))))]) (res := q_7) C (c_X6_filmAt l D cy ad E X v1 (nI 7) hq_8) zml_RX6_81 zcv_X6_filmAt (zW_get X sM_0) rfl rfl rfl ⟨Nat.le_of_ble_eq_true rfl, Nat.le_of_ble_eq_true rfl⟩ rfl rfl (Nat.le_of_ble_eq_true rfl) ⟨Nat.zero_le _, Nat.zero_le _⟩ dX6_shareOn_32 ?_
  refine g_icmp_ge C dX6_shareOn_35 (tgt := 48) (by decide) (fun hc_9 => ?_) (fun hc_9 => ?_)
  · replace h := (if_pos hc_9).symm.trans h
    refine g_iload_n (j := 0) C dX6_shareOn_48 rfl rfl ?_
    obtain rfl := Option.some.inj h
    exact g_iret rfl C hr rfl dX6_shareOn_49
  · replace h := (if_neg hc_9).symm.trans h
    refine g_aload_n (j := 1) C dX6_shareOn_38 rfl rfl ?_
    refine g_iload_n (j := 2) C dX6_shareOn_39 rfl rfl ?_
    refine g_bipush (v := (nI 7)) C dX6_shareOn_40 (by decide) ?_
    obtain ⟨q_10, hq_11, h⟩ := bind_isome h
    refine g_vi (ws' := (zW cy ad shM E X)) (As := [.int v1, .int (nI 7)]) (rest := []) (res := q_10) C (c_X6_filmAt l D cy ad E X v1 (nI 7) hq_11) zml_RX6_81 zcv_X6_filmAt (zW_get X sM_0) rfl rfl rfl ⟨Nat.le_of_ble_eq_true rfl, Nat.le_of_ble_eq_true rfl⟩ rfl rfl (Nat.le_of_ble_eq_true rfl) ⟨Nat.zero_le _, Nat.zero_le _⟩ dX6_shareOn_42 ?_
    refine g_goto C dX6_shareOn_45 (tgt := 49) (by decide) ?_
    obtain rfl := Option.some.inj h
    exact g_iret rfl C hr rfl dX6_shareOn_49
def f_X6_receiptsOf (X : Nat → Nat → Int32) (v1 : Int32) : Option Int32 := ((f_X6_showAt X v1 (nI 7)).bind fun q_1 => ((f_X6_showAt X v1 (nI 6)).bind fun q_3 => some (q_1 * q_3)))
set_option maxRecDepth 100000 in
set_option maxHeartbeats 4000000 in
theorem c_X6_receiptsOf (l : Launch) (D : va_G) (cy : Nat → ClassId) (ad : Nat → Nat) (E : va_W) (X : Nat → Nat → Int32) (v1 : Int32) {res : Int32} (h : f_X6_receiptsOf X v1 = some res) : zMi l yX6_receiptsOf cX6_receiptsOf 2 (some .int) (zrm 2) D (zTy cy) (zW cy ad shM E X) [.ref (ad 0), .int v1] res (zW cy ad shM E X) := by
  refine zMi.of (by decide) (Nat.le_of_ble_eq_true rfl) ?_
  intro p e s m below meth c A C hr
  unfold f_X6_receiptsOf at h
  refine zG_L (L' := [(0, .ref (ad 0)), (1, .int v1)]) rfl ?_
  refine g_aload_n (j := 0) C dX6_receiptsOf_0 rfl rfl ?_
  refine g_iload_n (j := 1) C dX6_receiptsOf_1 rfl rfl ?_
  refine g_bipush (v := (nI 7)) C dX6_receiptsOf_2 (by decide) ?_
  obtain ⟨q_1, hq_2, h⟩ := bind_isome h
  refine g_vi (ws' := (zW cy ad shM E X)) (As := [.int v1, .int (nI 7)]) (rest := []) (res := q_1) C (c_X6_showAt l D cy ad E X v1 (nI 7) hq_2) zml_RX6_89 zcv_X6_showAt (zW_get X sM_0) rfl rfl rfl ⟨Nat.le_of_ble_eq_true rfl, Nat.le_of_ble_eq_true rfl⟩ rfl rfl (Nat.le_of_ble_eq_true rfl) ⟨Nat.zero_le _, Nat.zero_le _⟩ dX6_receiptsOf_4 ?_
  refine g_aload_n (j := 0) C dX6_receiptsOf_7 rfl rfl ?_
  refine g_iload_n (j := 1) C dX6_receiptsOf_8 rfl rfl ?_
  refine g_bipush (v := (nI 6)) C dX6_receiptsOf_9 (by decide) ?_
  obtain ⟨q_3, hq_4, h⟩ := bind_isome h
  refine g_vi (ws' := (zW cy ad shM E X)) (As := [.int v1, .int (nI 6)]) (rest := [.int q_1]) (res := q_3) C (c_X6_showAt l D cy ad E X v1 (nI 6) hq_4) zml_RX6_89 zcv_X6_showAt (zW_get X sM_0) rfl rfl rfl ⟨Nat.le_of_ble_eq_true rfl, Nat.le_of_ble_eq_true rfl⟩ rfl rfl (Nat.le_of_ble_eq_true rfl) ⟨Nat.zero_le _, Nat.zero_le _⟩ dX6_receiptsOf_11 ?_
  refine g_imul C dX6_receiptsOf_14 ?_
  obtain rfl := Option.some.inj h
  exact g_iret rfl C hr rfl dX6_receiptsOf_15
def f_X6_partOf (X : Nat → Nat → Int32) (v1 : Int32) : Option Int32 := ((f_X6_receiptsOf X v1).bind fun q_1 => ((f_X6_showAt X v1 (nI 1)).bind fun q_3 => ((f_X6_showAt X v1 (nI 2)).bind fun q_5 => ((f_X6_shareOn X q_3 q_5).bind fun q_7 => some ((q_1 * q_7) / (nI 100))))))
set_option maxRecDepth 100000 in
set_option maxHeartbeats 4000000 in
theorem c_X6_partOf (l : Launch) (D : va_G) (cy : Nat → ClassId) (ad : Nat → Nat) (E : va_W) (X : Nat → Nat → Int32) (v1 : Int32) {res : Int32} (h : f_X6_partOf X v1 = some res) : zMi l yX6_partOf cX6_partOf 2 (some .int) (zrm 3) D (zTy cy) (zW cy ad shM E X) [.ref (ad 0), .int v1] res (zW cy ad shM E X) := by
  refine zMi.of (by decide) (Nat.le_of_ble_eq_true rfl) ?_
  intro p e s m below meth c A C hr
  unfold f_X6_partOf at h
  refine zG_L (L' := [(0, .ref (ad 0)), (1, .int v1)]) rfl ?_
  refine g_aload_n (j := 0) C dX6_partOf_0 rfl rfl ?_
  refine g_iload_n (j := 1) C dX6_partOf_1 rfl rfl ?_
  obtain ⟨q_1, hq_2, h⟩ := bind_isome h
  refine g_vi (ws' := (zW cy ad shM E X)) (As := [.int v1]) (rest := []) (res := q_1) C (c_X6_receiptsOf l D cy ad E X v1 hq_2) zml_RX6_98 zcv_X6_receiptsOf (zW_get X sM_0) rfl rfl rfl ⟨Nat.le_of_ble_eq_true rfl, Nat.le_of_ble_eq_true rfl⟩ rfl rfl (Nat.le_of_ble_eq_true rfl) ⟨Nat.zero_le _, Nat.zero_le _⟩ dX6_partOf_2 ?_
  refine g_aload_n (j := 0) C dX6_partOf_5 rfl rfl ?_
  refine g_aload_n (j := 0) C dX6_partOf_6 rfl rfl ?_
  refine g_iload_n (j := 1) C dX6_partOf_7 rfl rfl ?_
  refine g_iconst (v := (nI 1)) C dX6_partOf_8 (by decide) ?_
  obtain ⟨q_3, hq_4, h⟩ := bind_isome h
  refine g_vi (ws' := (zW cy ad shM E X)) (As := [.int v1, .int (nI 1)]) (rest := [.ref (ad 0), .int q_1]) (res := q_3) C (c_X6_showAt l D cy ad E X v1 (nI 1) hq_4) zml_RX6_89 zcv_X6_showAt (zW_get X sM_0) rfl rfl rfl ⟨Nat.le_of_ble_eq_true rfl, Nat.le_of_ble_eq_true rfl⟩ rfl rfl (Nat.le_of_ble_eq_true rfl) ⟨Nat.zero_le _, Nat.zero_le _⟩ dX6_partOf_9 ?_
  refine g_aload_n (j := 0) C dX6_partOf_12 rfl rfl ?_
  refine g_iload_n (j := 1) C dX6_partOf_13 rfl rfl ?_
  refine g_iconst (v := (nI 2)) C dX6_partOf_14 (by decide) ?_
  obtain ⟨q_5, hq_6, h⟩ := bind_isome h
  refine g_vi (ws' := (zW cy ad shM E X)) (As := [.int v1, .int (nI 2)]) (rest := [.int q_3, .ref (ad 0), .int q_1]) (res := q_5) C (c_X6_showAt l D cy ad E X v1 (nI 2) hq_6) zml_RX6_89 zcv_X6_showAt (zW_get X sM_0) rfl rfl rfl ⟨Nat.le_of_ble_eq_true rfl, Nat.le_of_ble_eq_true rfl⟩ rfl rfl (Nat.le_of_ble_eq_true rfl) ⟨Nat.zero_le _, Nat.zero_le _⟩ dX6_partOf_15 ?_
  obtain ⟨q_7, hq_8, h⟩ := bind_isome h
  refine g_vi (ws' := (zW cy ad shM E X)) (As := [.int q_3, .int q_5]) (rest := [.int q_1]) (res := q_7) C (c_X6_shareOn l D cy ad E X q_3 q_5 hq_8) zml_RX6_101 zcv_X6_shareOn (zW_get X sM_0) rfl rfl rfl ⟨Nat.le_of_ble_eq_true rfl, Nat.le_of_ble_eq_true rfl⟩ rfl rfl (Nat.le_of_ble_eq_true rfl) ⟨Nat.zero_le _, Nat.zero_le _⟩ dX6_partOf_18 ?_
  refine g_imul C dX6_partOf_21 ?_
  refine g_bipush (v := (nI 100)) C dX6_partOf_22 (by decide) ?_
  refine g_idiv C dX6_partOf_24 (by decide) ?_
  obtain rfl := Option.some.inj h
  exact g_iret rfl C hr rfl dX6_partOf_25
def f_X6_hall_L51 (k : Int32 → Option (Int32 × (Nat → Nat → Int32))) (X : Nat → Nat → Int32) (v1 : Int32) (v2 : Int32) : Nat → Int32 → Int32 → Option (Int32 × (Nat → Nat → Int32))
  | 0, _, _ => none
  | fu + 1, v3, v4 => (if (X 1 (nI 4).toNatClampNeg) ≤ v4 then k v3 else ((f_X6_stands X v4).bind fun q_1005 => (if q_1005 = 0 then f_X6_hall_L51 k X v1 v2 fu v3 (v4 + 1) else ((f_X6_showAt X v4 (nI 0)).bind fun q_1008 => (if q_1008 = v1 then (if v2 = (nI 4) then f_X6_hall_L51 k X v1 v2 fu (v3 + (nI 1)) (v4 + 1) else (if v2 = (nI 5) then ((f_X6_minutesOf X v4).bind fun q_1015 => f_X6_hall_L51 k X v1 v2 fu (v3 + q_1015) (v4 + 1)) else ((f_X6_showAt X v4 (nI 7)).bind fun q_1013 => f_X6_hall_L51 k X v1 v2 fu (v3 + q_1013) (v4 + 1)))) else f_X6_hall_L51 k X v1 v2 fu v3 (v4 + 1))))))
set_option maxRecDepth 100000 in
set_option maxHeartbeats 4000000 in
theorem w_X6_hall_L51 {p : Program} {e : Env} {s : State} {m : MethodId} {args : Array Value} {below : List Frame} {meth : Method} {c : Code} {A : Nat → Prop} (l : Launch) (D : va_G) (cy : Nat → ClassId) (ad : Nat → Nat) (E : va_W) (k : Int32 → Option (Int32 × (Nat → Nat → Int32))) (X : Nat → Nat → Int32) (v1 : Int32) (v2 : Int32) {res : Int32 × (Nat → Nat → Int32)} (C : zC p s m args meth c cX6_hall 5 RX6 D (zTy cy) A) (hr : meth.sig.returnType = (some .int)) : ∀ (fu : Nat) (v3 v4 : Int32) (h : f_X6_hall_L51 k X v1 v2 fu v3 v4 = some res) (hk : ∀ (v3 : Int32), k v3 = some res → zG p l e (zrm 3) s m args below meth c 5 D A 0 0 (MQ below (va_Qi (fun (r : Int32) (_ : Unit) => r = res.1) (fun _ t => zB D (zTy cy) A (zW cy ad shM E res.2) t) A) args s 0 0 A) (zW cy ad shM E X) 122 [(0, .ref (ad 0)), (3, .int v3)] []), zG p l e (zrm 3) s m args below meth c 5 D A 0 0 (MQ below (va_Qi (fun (r : Int32) (_ : Unit) => r = res.1) (fun _ t => zB D (zTy cy) A (zW cy ad shM E res.2) t) A) args s 0 0 A) (zW cy ad shM E X) 51 [(0, .ref (ad 0)), (1, .int v1), (2, .int v2), (3, .int v3), (4, .int v4)] [] := by
  intro fu
  induction fu with
  | zero => intro v3 v4 h hk; simp [f_X6_hall_L51] at h
  | succ fu ih =>
    intro v3 v4 h hk
    rw [f_X6_hall_L51] at h
    refine g_iload (j := 4) C dX6_hall_51 rfl ?_
    refine g_aload_n (j := 0) C dX6_hall_53 rfl rfl ?_
    refine g_getr (k := 1) (N := 27) C sM_0 rfl zin_RX6 (by decide) rfl zfl_RX6_9 rfl dX6_hall_54 ?_
    refine g_iconst (v := (nI 4)) C dX6_hall_57 (by decide) ?_
    refine g_iald C sM_1 (by decide) dX6_hall_58 ?_
    refine g_icmp_ge C dX6_hall_59 (tgt := 122) (by decide) (fun hc_1004 => ?_) (fun hc_1004 => ?_)
    · replace h := (if_pos hc_1004).symm.trans h
      refine zG_sub (L' := [(0, .ref (ad 0)), (3, .int v3)]) [0, 3] rfl ?_
      exact hk v3 h
    · replace h := (if_neg hc_1004).symm.trans h
      refine g_aload_n (j := 0) C dX6_hall_62 rfl rfl ?_
      refine g_iload (j := 4) C dX6_hall_63 rfl ?_
      obtain ⟨q_1005, hq_1006, h⟩ := bind_isome h
      refine g_vi (ws' := (zW cy ad shM E X)) (As := [.int v4]) (rest := []) (res := q_1005) C (c_X6_stands l D cy ad E X v4 hq_1006) zml_RX6_107 zcv_X6_stands (zW_get X sM_0) rfl rfl rfl ⟨Nat.le_of_ble_eq_true rfl, Nat.le_of_ble_eq_true rfl⟩ rfl rfl (Nat.le_of_ble_eq_true rfl) ⟨Nat.zero_le _, Nat.zero_le _⟩ dX6_hall_65 ?_
      refine g_if_eq C dX6_hall_68 (tgt := 116) (by decide) (fun hc_1007 => ?_) (fun hc_1007 => ?_)
      · replace h := (if_pos hc_1007).symm.trans h
        refine g_iinc (k := 4) (L' := [(4, .int (v4 + 1)), (0, .ref (ad 0)), (1, .int v1), (2, .int v2), (3, .int v3)]) C dX6_hall_116 rfl (z_iinc (by decide)) (by decide) rfl ?_
        refine g_goto C dX6_hall_119 (tgt := 51) (by decide) ?_
        refine zG_sub (L' := [(0, .ref (ad 0)), (1, .int v1), (2, .int v2), (3, .int v3), (4, .int (v4 + 1))]) [1, 2, 3, 4, 0] rfl ?_
        exact ih v3 (v4 + 1) h hk
      · replace h := (if_neg hc_1007).symm.trans h
        refine g_aload_n (j := 0) C dX6_hall_71 rfl rfl ?_
        refine g_iload (j := 4) C dX6_hall_72 rfl ?_
        refine g_iconst (v := (nI 0)) C dX6_hall_74 (by decide) ?_
        obtain ⟨q_1008, hq_1009, h⟩ := bind_isome h
        refine g_vi (ws' := (zW cy ad shM E X)) (As := [.int v4, .int (nI 0)]) (rest := []) (res := q_1008) C (c_X6_showAt l D cy ad E X v4 (nI 0) hq_1009) zml_RX6_89 zcv_X6_showAt (zW_get X sM_0) rfl rfl rfl ⟨Nat.le_of_ble_eq_true rfl, Nat.le_of_ble_eq_true rfl⟩ rfl rfl (Nat.le_of_ble_eq_true rfl) ⟨Nat.zero_le _, Nat.zero_le _⟩ dX6_hall_75 ?_
        refine g_iload_n (j := 1) C dX6_hall_78 rfl rfl ?_
        refine g_icmp_ne C dX6_hall_79 (tgt := 116) (by decide) (fun hc_1010 => ?_) (fun hc_1010 => ?_)
        · replace h := (if_neg hc_1010).symm.trans h
          refine g_iinc (k := 4) (L' := [(4, .int (v4 + 1)), (0, .ref (ad 0)), (1, .int v1), (2, .int v2), (3, .int v3)]) C dX6_hall_116 rfl (z_iinc (by decide)) (by decide) rfl ?_
          refine g_goto C dX6_hall_119 (tgt := 51) (by decide) ?_
          refine zG_sub (L' := [(0, .ref (ad 0)), (1, .int v1), (2, .int v2), (3, .int v3), (4, .int (v4 + 1))]) [1, 2, 3, 4, 0] rfl ?_
          exact ih v3 (v4 + 1) h hk
        · replace h := (if_pos hc_1010).symm.trans h
          refine g_iload_n (j := 3) C dX6_hall_82 rfl rfl ?_
          refine g_iload_n (j := 2) C dX6_hall_83 rfl rfl ?_
          refine g_iconst (v := (nI 4)) C dX6_hall_84 (by decide) ?_
          refine g_icmp_ne C dX6_hall_85 (tgt := 92) (by decide) (fun hc_1011 => ?_) (fun hc_1011 => ?_)
          · replace h := (if_neg hc_1011).symm.trans h
            refine g_iload_n (j := 2) C dX6_hall_92 rfl rfl ?_
            refine g_iconst (v := (nI 5)) C dX6_hall_93 (by decide) ?_
            refine g_icmp_ne C dX6_hall_94 (tgt := 106) (by decide) (fun hc_1012 => ?_) (fun hc_1012 => ?_)
            · replace h := (if_neg hc_1012).symm.trans h
              refine g_aload_n (j := 0) C dX6_hall_106 rfl rfl ?_
              refine g_iload (j := 4) C dX6_hall_107 rfl ?_
              refine g_bipush (v := (nI 7)) C dX6_hall_109 (by decide) ?_
              obtain ⟨q_1013, hq_1014, h⟩ := bind_isome h
              refine g_vi (ws' := (zW cy ad shM E X)) (As := [.int v4, .int (nI 7)]) (rest := [.int v3]) (res := q_1013) C (c_X6_showAt l D cy ad E X v4 (nI 7) hq_1014) zml_RX6_89 zcv_X6_showAt (zW_get X sM_0) rfl rfl rfl ⟨Nat.le_of_ble_eq_true rfl, Nat.le_of_ble_eq_true rfl⟩ rfl rfl (Nat.le_of_ble_eq_true rfl) ⟨Nat.zero_le _, Nat.zero_le _⟩ dX6_hall_111 ?_
              refine g_iadd C dX6_hall_114 ?_
              refine g_istore_n (L' := [(3, .int (v3 + q_1013)), (0, .ref (ad 0)), (1, .int v1), (2, .int v2), (4, .int v4)]) C dX6_hall_115 rfl (by decide) rfl ?_
              refine g_iinc (k := 4) (L' := [(4, .int (v4 + 1)), (3, .int (v3 + q_1013)), (0, .ref (ad 0)), (1, .int v1), (2, .int v2)]) C dX6_hall_116 rfl (z_iinc (by decide)) (by decide) rfl ?_
              refine g_goto C dX6_hall_119 (tgt := 51) (by decide) ?_
              refine zG_sub (L' := [(0, .ref (ad 0)), (1, .int v1), (2, .int v2), (3, .int (v3 + q_1013)), (4, .int (v4 + 1))]) [2, 3, 4, 1, 0] rfl ?_
              exact ih (v3 + q_1013) (v4 + 1) h hk
            · replace h := (if_pos hc_1012).symm.trans h
              refine g_aload_n (j := 0) C dX6_hall_97 rfl rfl ?_
              refine g_iload (j := 4) C dX6_hall_98 rfl ?_
              obtain ⟨q_1015, hq_1016, h⟩ := bind_isome h
              refine g_vi (ws' := (zW cy ad shM E X)) (As := [.int v4]) (rest := [.int v3]) (res := q_1015) C (c_X6_minutesOf l D cy ad E X v4 hq_1016) zml_RX6_92 zcv_X6_minutesOf (zW_get X sM_0) rfl rfl rfl ⟨Nat.le_of_ble_eq_true rfl, Nat.le_of_ble_eq_true rfl⟩ rfl rfl (Nat.le_of_ble_eq_true rfl) ⟨Nat.zero_le _, Nat.zero_le _⟩ dX6_hall_100 ?_
              refine g_goto C dX6_hall_103 (tgt := 114) (by decide) ?_
              refine g_iadd C dX6_hall_114 ?_
              refine g_istore_n (L' := [(3, .int (v3 + q_1015)), (0, .ref (ad 0)), (1, .int v1), (2, .int v2), (4, .int v4)]) C dX6_hall_115 rfl (by decide) rfl ?_
              refine g_iinc (k := 4) (L' := [(4, .int (v4 + 1)), (3, .int (v3 + q_1015)), (0, .ref (ad 0)), (1, .int v1), (2, .int v2)]) C dX6_hall_116 rfl (z_iinc (by decide)) (by decide) rfl ?_
              refine g_goto C dX6_hall_119 (tgt := 51) (by decide) ?_
              refine zG_sub (L' := [(0, .ref (ad 0)), (1, .int v1), (2, .int v2), (3, .int (v3 + q_1015)), (4, .int (v4 + 1))]) [2, 3, 4, 1, 0] rfl ?_
              exact ih (v3 + q_1015) (v4 + 1) h hk
          · replace h := (if_pos hc_1011).symm.trans h
            refine g_iconst (v := (nI 1)) C dX6_hall_88 (by decide) ?_
            refine g_goto C dX6_hall_89 (tgt := 114) (by decide) ?_
            refine g_iadd C dX6_hall_114 ?_
            refine g_istore_n (L' := [(3, .int (v3 + (nI 1))), (0, .ref (ad 0)), (1, .int v1), (2, .int v2), (4, .int v4)]) C dX6_hall_115 rfl (by decide) rfl ?_
            refine g_iinc (k := 4) (L' := [(4, .int (v4 + 1)), (3, .int (v3 + (nI 1))), (0, .ref (ad 0)), (1, .int v1), (2, .int v2)]) C dX6_hall_116 rfl (z_iinc (by decide)) (by decide) rfl ?_
            refine g_goto C dX6_hall_119 (tgt := 51) (by decide) ?_
            refine zG_sub (L' := [(0, .ref (ad 0)), (1, .int v1), (2, .int v2), (3, .int (v3 + (nI 1))), (4, .int (v4 + 1))]) [2, 3, 4, 1, 0] rfl ?_
            exact ih (v3 + (nI 1)) (v4 + 1) h hk
def f_X6_hall (X : Nat → Nat → Int32) (v1 v2 : Int32) : Option (Int32 × (Nat → Nat → Int32)) := (if (f_X6_isHall X v1) = 0 then (zlet (f_X6_fails X (nI 1)) fun q_1026 => some (q_1026.1, q_1026.2)) else (if (f_X6_in v2 (nI 0) (nI 6)) = 0 then (zlet (f_X6_fails X (nI 2)) fun q_1024 => some (q_1024.1, q_1024.2)) else (if (nI 4) ≤ v2 then f_X6_hall_L51 (fun v3_1017 => (zlet (f_X6_done X v3_1017) fun q_1018 => some (q_1018.1, q_1018.2))) X v1 v2 zFuel (nI 0) (nI 0) else ((f_X6_hallAt X v1 v2).bind fun q_1020 => (zlet (f_X6_done X q_1020) fun q_1022 => some (q_1022.1, q_1022.2))))))
set_option maxRecDepth 100000 in
set_option maxHeartbeats 4000000 in
theorem c_X6_hall (l : Launch) (D : va_G) (cy : Nat → ClassId) (ad : Nat → Nat) (E : va_W) (X : Nat → Nat → Int32) (v1 v2 : Int32) {res : Int32 × (Nat → Nat → Int32)} (h : f_X6_hall X v1 v2 = some res) : zMi l yX6_hall cX6_hall 5 (some .int) (zrm 3) D (zTy cy) (zW cy ad shM E X) [.ref (ad 0), .int v1, .int v2] res.1 (zW cy ad shM E res.2) := by
  refine zMi.of (by decide) (Nat.le_of_ble_eq_true rfl) ?_
  intro p e s m below meth c A C hr
  unfold f_X6_hall at h
  refine zG_L (L' := [(0, .ref (ad 0)), (1, .int v1), (2, .int v2)]) rfl ?_
  refine g_aload_n (j := 0) C dX6_hall_0 rfl rfl ?_
  refine g_iload_n (j := 1) C dX6_hall_1 rfl rfl ?_
  refine g_vi (ws' := (zW cy ad shM E X)) (As := [.int v1]) (rest := []) (res := (f_X6_isHall X v1)) C (c_X6_isHall l D cy ad E X v1) zml_RX6_104 zcv_X6_isHall (zW_get X sM_0) rfl rfl rfl ⟨Nat.le_of_ble_eq_true rfl, Nat.le_of_ble_eq_true rfl⟩ rfl rfl (Nat.le_of_ble_eq_true rfl) ⟨Nat.zero_le _, Nat.zero_le _⟩ dX6_hall_2 ?_
  refine g_if_ne C dX6_hall_5 (tgt := 14) (by decide) (fun hc_1 => ?_) (fun hc_1 => ?_)
  · replace h := (if_neg hc_1).symm.trans h
    refine g_iload_n (j := 2) C dX6_hall_14 rfl rfl ?_
    refine g_iconst (v := (nI 0)) C dX6_hall_15 (by decide) ?_
    refine g_bipush (v := (nI 6)) C dX6_hall_16 (by decide) ?_
    refine g_si (ws' := (zW cy ad shM E X)) (As := [.int v2, .int (nI 0), .int (nI 6)]) (rest := []) (res := (f_X6_in v2 (nI 0) (nI 6))) C (c_X6_in l D cy (zW cy ad shM E X) v2 (nI 0) (nI 6)) zml_RX6_64 zcs_X6_in rfl rfl ⟨Nat.le_of_ble_eq_true rfl, Nat.le_of_ble_eq_true rfl⟩ rfl rfl (Nat.le_of_ble_eq_true rfl) ⟨Nat.zero_le _, Nat.zero_le _⟩ dX6_hall_18 ?_
    refine g_if_ne C dX6_hall_21 (tgt := 30) (by decide) (fun hc_2 => ?_) (fun hc_2 => ?_)
    · replace h := (if_neg hc_2).symm.trans h
      refine g_iload_n (j := 2) C dX6_hall_30 rfl rfl ?_
      refine g_iconst (v := (nI 4)) C dX6_hall_31 (by decide) ?_
      refine g_icmp_ge C dX6_hall_32 (tgt := 46) (by decide) (fun hc_3 => ?_) (fun hc_3 => ?_)
      · replace h := (if_pos hc_3).symm.trans h
        refine g_iconst (v := (nI 0)) C dX6_hall_46 (by decide) ?_
        refine g_istore_n (L' := [(3, .int (nI 0)), (0, .ref (ad 0)), (1, .int v1), (2, .int v2)]) C dX6_hall_47 rfl (by decide) rfl ?_
        refine g_iconst (v := (nI 0)) C dX6_hall_48 (by decide) ?_
        refine g_istore (L' := [(4, .int (nI 0)), (3, .int (nI 0)), (0, .ref (ad 0)), (1, .int v1), (2, .int v2)]) C dX6_hall_49 (by decide) rfl ?_
        refine zG_sub (L' := [(0, .ref (ad 0)), (1, .int v1), (2, .int v2), (3, .int (nI 0)), (4, .int (nI 0))]) [2, 3, 4, 1, 0] rfl ?_
        refine w_X6_hall_L51 l D cy ad E _ X v1 v2 C hr zFuel (nI 0) (nI 0) h ?_
        intro v3_1017 h
        refine g_aload_n (j := 0) C dX6_hall_122 rfl rfl ?_
        refine g_iload_n (j := 1) C dX6_hall_123 rfl rfl ?_
        obtain ⟨q_1018, e_1019, h⟩ := zlet_ex h
        refine g_vi (ws' := (zW cy ad shM E q_1018.2)) (As := [.int v3_1017]) (rest := []) (res := q_1018.1) C ((by rw [e_1019]; exact c_X6_done l D cy ad E X v3_1017)) zml_RX6_71 zcv_X6_done (zW_get X sM_0) rfl rfl rfl ⟨Nat.le_of_ble_eq_true rfl, Nat.le_of_ble_eq_true rfl⟩ rfl rfl (Nat.le_of_ble_eq_true rfl) ⟨Nat.zero_le _, Nat.zero_le _⟩ dX6_hall_124 ?_
        obtain rfl := Option.some.inj h
        exact g_iret rfl C hr rfl dX6_hall_127
      · replace h := (if_neg hc_3).symm.trans h
        refine g_aload_n (j := 0) C dX6_hall_35 rfl rfl ?_
        refine g_aload_n (j := 0) C dX6_hall_36 rfl rfl ?_
        refine g_iload_n (j := 1) C dX6_hall_37 rfl rfl ?_
        refine g_iload_n (j := 2) C dX6_hall_38 rfl rfl ?_
        obtain ⟨q_1020, hq_1021, h⟩ := bind_isome h
        refine g_vi (ws' := (zW cy ad shM E X)) (As := [.int v1, .int v2]) (rest := [.ref (ad 0)]) (res := q_1020) C (c_X6_hallAt l D cy ad E X v1 v2 hq_1021) zml_RX6_95 zcv_X6_hallAt (zW_get X sM_0) rfl rfl rfl ⟨Nat.le_of_ble_eq_true rfl, Nat.le_of_ble_eq_true rfl⟩ rfl rfl (Nat.le_of_ble_eq_true rfl) ⟨Nat.zero_le _, Nat.zero_le _⟩ dX6_hall_39 ?_
        obtain ⟨q_1022, e_1023, h⟩ := zlet_ex h
        refine g_vi (ws' := (zW cy ad shM E q_1022.2)) (As := [.int q_1020]) (rest := []) (res := q_1022.1) C ((by rw [e_1023]; exact c_X6_done l D cy ad E X q_1020)) zml_RX6_71 zcv_X6_done (zW_get X sM_0) rfl rfl rfl ⟨Nat.le_of_ble_eq_true rfl, Nat.le_of_ble_eq_true rfl⟩ rfl rfl (Nat.le_of_ble_eq_true rfl) ⟨Nat.zero_le _, Nat.zero_le _⟩ dX6_hall_42 ?_
        obtain rfl := Option.some.inj h
        exact g_iret rfl C hr rfl dX6_hall_45
    · replace h := (if_pos hc_2).symm.trans h
      refine g_aload_n (j := 0) C dX6_hall_24 rfl rfl ?_
      refine g_iconst (v := (nI 2)) C dX6_hall_25 (by decide) ?_
      obtain ⟨q_1024, e_1025, h⟩ := zlet_ex h
      refine g_vi (ws' := (zW cy ad shM E q_1024.2)) (As := [.int (nI 2)]) (rest := []) (res := q_1024.1) C ((by rw [e_1025]; exact c_X6_fails l D cy ad E X (nI 2))) zml_RX6_45 zcv_X6_fails (zW_get X sM_0) rfl rfl rfl ⟨Nat.le_of_ble_eq_true rfl, Nat.le_of_ble_eq_true rfl⟩ rfl rfl (Nat.le_of_ble_eq_true rfl) ⟨Nat.zero_le _, Nat.zero_le _⟩ dX6_hall_26 ?_
      obtain rfl := Option.some.inj h
      exact g_iret rfl C hr rfl dX6_hall_29
  · replace h := (if_pos hc_1).symm.trans h
    refine g_aload_n (j := 0) C dX6_hall_8 rfl rfl ?_
    refine g_iconst (v := (nI 1)) C dX6_hall_9 (by decide) ?_
    obtain ⟨q_1026, e_1027, h⟩ := zlet_ex h
    refine g_vi (ws' := (zW cy ad shM E q_1026.2)) (As := [.int (nI 1)]) (rest := []) (res := q_1026.1) C ((by rw [e_1027]; exact c_X6_fails l D cy ad E X (nI 1))) zml_RX6_45 zcv_X6_fails (zW_get X sM_0) rfl rfl rfl ⟨Nat.le_of_ble_eq_true rfl, Nat.le_of_ble_eq_true rfl⟩ rfl rfl (Nat.le_of_ble_eq_true rfl) ⟨Nat.zero_le _, Nat.zero_le _⟩ dX6_hall_10 ?_
    obtain rfl := Option.some.inj h
    exact g_iret rfl C hr rfl dX6_hall_13
def f_X6_film_L71 (k : Int32 → Option (Int32 × (Nat → Nat → Int32))) (X : Nat → Nat → Int32) (v1 : Int32) (v2 : Int32) : Nat → Int32 → Int32 → Option (Int32 × (Nat → Nat → Int32))
  | 0, _, _ => none
  | fu + 1, v3, v4 => (if (X 1 (nI 4).toNatClampNeg) ≤ v4 then k v3 else ((f_X6_stands X v4).bind fun q_1015 => (if q_1015 = 0 then f_X6_film_L71 k X v1 v2 fu v3 (v4 + 1) else ((f_X6_showAt X v4 (nI 1)).bind fun q_1018 => (if q_1018 = v1 then (if v2 = (nI 5) then f_X6_film_L71 k X v1 v2 fu (v3 + (nI 1)) (v4 + 1) else (if v2 = (nI 6) then ((f_X6_showAt X v4 (nI 7)).bind fun q_1028 => f_X6_film_L71 k X v1 v2 fu (v3 + q_1028) (v4 + 1)) else (if v2 = (nI 7) then ((f_X6_receiptsOf X v4).bind fun q_1026 => f_X6_film_L71 k X v1 v2 fu (v3 + q_1026) (v4 + 1)) else ((f_X6_partOf X v4).bind fun q_1024 => f_X6_film_L71 k X v1 v2 fu (v3 + q_1024) (v4 + 1))))) else f_X6_film_L71 k X v1 v2 fu v3 (v4 + 1))))))
set_option maxRecDepth 100000 in
set_option maxHeartbeats 4000000 in
theorem w_X6_film_L71 {p : Program} {e : Env} {s : State} {m : MethodId} {args : Array Value} {below : List Frame} {meth : Method} {c : Code} {A : Nat → Prop} (l : Launch) (D : va_G) (cy : Nat → ClassId) (ad : Nat → Nat) (E : va_W) (k : Int32 → Option (Int32 × (Nat → Nat → Int32))) (X : Nat → Nat → Int32) (v1 : Int32) (v2 : Int32) {res : Int32 × (Nat → Nat → Int32)} (C : zC p s m args meth c cX6_film 5 RX6 D (zTy cy) A) (hr : meth.sig.returnType = (some .int)) : ∀ (fu : Nat) (v3 v4 : Int32) (h : f_X6_film_L71 k X v1 v2 fu v3 v4 = some res) (hk : ∀ (v3 : Int32), k v3 = some res → zG p l e (zrm 4) s m args below meth c 5 D A 0 0 (MQ below (va_Qi (fun (r : Int32) (_ : Unit) => r = res.1) (fun _ t => zB D (zTy cy) A (zW cy ad shM E res.2) t) A) args s 0 0 A) (zW cy ad shM E X) 158 [(0, .ref (ad 0)), (3, .int v3)] []), zG p l e (zrm 4) s m args below meth c 5 D A 0 0 (MQ below (va_Qi (fun (r : Int32) (_ : Unit) => r = res.1) (fun _ t => zB D (zTy cy) A (zW cy ad shM E res.2) t) A) args s 0 0 A) (zW cy ad shM E X) 71 [(0, .ref (ad 0)), (1, .int v1), (2, .int v2), (3, .int v3), (4, .int v4)] [] := by
  intro fu
  induction fu with
  | zero => intro v3 v4 h hk; simp [f_X6_film_L71] at h
  | succ fu ih =>
    intro v3 v4 h hk
    rw [f_X6_film_L71] at h
    refine g_iload (j := 4) C dX6_film_71 rfl ?_
    refine g_aload_n (j := 0) C dX6_film_73 rfl rfl ?_
    refine g_getr (k := 1) (N := 27) C sM_0 rfl zin_RX6 (by decide) rfl zfl_RX6_9 rfl dX6_film_74 ?_
    refine g_iconst (v := (nI 4)) C dX6_film_77 (by decide) ?_
    refine g_iald C sM_1 (by decide) dX6_film_78 ?_
    refine g_icmp_ge C dX6_film_79 (tgt := 158) (by decide) (fun hc_1014 => ?_) (fun hc_1014 => ?_)
    · replace h := (if_pos hc_1014).symm.trans h
      refine zG_sub (L' := [(0, .ref (ad 0)), (3, .int v3)]) [0, 3] rfl ?_
      exact hk v3 h
    · replace h := (if_neg hc_1014).symm.trans h
      refine g_aload_n (j := 0) C dX6_film_82 rfl rfl ?_
      refine g_iload (j := 4) C dX6_film_83 rfl ?_
      obtain ⟨q_1015, hq_1016, h⟩ := bind_isome h
      refine g_vi (ws' := (zW cy ad shM E X)) (As := [.int v4]) (rest := []) (res := q_1015) C (c_X6_stands l D cy ad E X v4 hq_1016) zml_RX6_107 zcv_X6_stands (zW_get X sM_0) rfl rfl rfl ⟨Nat.le_of_ble_eq_true rfl, Nat.le_of_ble_eq_true rfl⟩ rfl rfl (Nat.le_of_ble_eq_true rfl) ⟨Nat.zero_le _, Nat.zero_le _⟩ dX6_film_85 ?_
      refine g_if_eq C dX6_film_88 (tgt := 152) (by decide) (fun hc_1017 => ?_) (fun hc_1017 => ?_)
      · replace h := (if_pos hc_1017).symm.trans h
        refine g_iinc (k := 4) (L' := [(4, .int (v4 + 1)), (0, .ref (ad 0)), (1, .int v1), (2, .int v2), (3, .int v3)]) C dX6_film_152 rfl (z_iinc (by decide)) (by decide) rfl ?_
        refine g_goto C dX6_film_155 (tgt := 71) (by decide) ?_
        refine zG_sub (L' := [(0, .ref (ad 0)), (1, .int v1), (2, .int v2), (3, .int v3), (4, .int (v4 + 1))]) [1, 2, 3, 4, 0] rfl ?_
        exact ih v3 (v4 + 1) h hk
      · replace h := (if_neg hc_1017).symm.trans h
        refine g_aload_n (j := 0) C dX6_film_91 rfl rfl ?_
        refine g_iload (j := 4) C dX6_film_92 rfl ?_
        refine g_iconst (v := (nI 1)) C dX6_film_94 (by decide) ?_
        obtain ⟨q_1018, hq_1019, h⟩ := bind_isome h
        refine g_vi (ws' := (zW cy ad shM E X)) (As := [.int v4, .int (nI 1)]) (rest := []) (res := q_1018) C (c_X6_showAt l D cy ad E X v4 (nI 1) hq_1019) zml_RX6_89 zcv_X6_showAt (zW_get X sM_0) rfl rfl rfl ⟨Nat.le_of_ble_eq_true rfl, Nat.le_of_ble_eq_true rfl⟩ rfl rfl (Nat.le_of_ble_eq_true rfl) ⟨Nat.zero_le _, Nat.zero_le _⟩ dX6_film_95 ?_
        refine g_iload_n (j := 1) C dX6_film_98 rfl rfl ?_
        refine g_icmp_ne C dX6_film_99 (tgt := 152) (by decide) (fun hc_1020 => ?_) (fun hc_1020 => ?_)
        · replace h := (if_neg hc_1020).symm.trans h
          refine g_iinc (k := 4) (L' := [(4, .int (v4 + 1)), (0, .ref (ad 0)), (1, .int v1), (2, .int v2), (3, .int v3)]) C dX6_film_152 rfl (z_iinc (by decide)) (by decide) rfl ?_
          refine g_goto C dX6_film_155 (tgt := 71) (by decide) ?_
          refine zG_sub (L' := [(0, .ref (ad 0)), (1, .int v1), (2, .int v2), (3, .int v3), (4, .int (v4 + 1))]) [1, 2, 3, 4, 0] rfl ?_
          exact ih v3 (v4 + 1) h hk
        · replace h := (if_pos hc_1020).symm.trans h
          refine g_iload_n (j := 3) C dX6_film_102 rfl rfl ?_
          refine g_iload_n (j := 2) C dX6_film_103 rfl rfl ?_
          refine g_iconst (v := (nI 5)) C dX6_film_104 (by decide) ?_
          refine g_icmp_ne C dX6_film_105 (tgt := 112) (by decide) (fun hc_1021 => ?_) (fun hc_1021 => ?_)
          · replace h := (if_neg hc_1021).symm.trans h
            refine g_iload_n (j := 2) C dX6_film_112 rfl rfl ?_
            refine g_bipush (v := (nI 6)) C dX6_film_113 (by decide) ?_
            refine g_icmp_ne C dX6_film_115 (tgt := 129) (by decide) (fun hc_1022 => ?_) (fun hc_1022 => ?_)
            · replace h := (if_neg hc_1022).symm.trans h
              refine g_iload_n (j := 2) C dX6_film_129 rfl rfl ?_
              refine g_bipush (v := (nI 7)) C dX6_film_130 (by decide) ?_
              refine g_icmp_ne C dX6_film_132 (tgt := 144) (by decide) (fun hc_1023 => ?_) (fun hc_1023 => ?_)
              · replace h := (if_neg hc_1023).symm.trans h
                refine g_aload_n (j := 0) C dX6_film_144 rfl rfl ?_
                refine g_iload (j := 4) C dX6_film_145 rfl ?_
                obtain ⟨q_1024, hq_1025, h⟩ := bind_isome h
                refine g_vi (ws' := (zW cy ad shM E X)) (As := [.int v4]) (rest := [.int v3]) (res := q_1024) C (c_X6_partOf l D cy ad E X v4 hq_1025) zml_RX6_110 zcv_X6_partOf (zW_get X sM_0) rfl rfl rfl ⟨Nat.le_of_ble_eq_true rfl, Nat.le_of_ble_eq_true rfl⟩ rfl rfl (Nat.le_of_ble_eq_true rfl) ⟨Nat.zero_le _, Nat.zero_le _⟩ dX6_film_147 ?_
                refine g_iadd C dX6_film_150 ?_
                refine g_istore_n (L' := [(3, .int (v3 + q_1024)), (0, .ref (ad 0)), (1, .int v1), (2, .int v2), (4, .int v4)]) C dX6_film_151 rfl (by decide) rfl ?_
                refine g_iinc (k := 4) (L' := [(4, .int (v4 + 1)), (3, .int (v3 + q_1024)), (0, .ref (ad 0)), (1, .int v1), (2, .int v2)]) C dX6_film_152 rfl (z_iinc (by decide)) (by decide) rfl ?_
                refine g_goto C dX6_film_155 (tgt := 71) (by decide) ?_
                refine zG_sub (L' := [(0, .ref (ad 0)), (1, .int v1), (2, .int v2), (3, .int (v3 + q_1024)), (4, .int (v4 + 1))]) [2, 3, 4, 1, 0] rfl ?_
                exact ih (v3 + q_1024) (v4 + 1) h hk
              · replace h := (if_pos hc_1023).symm.trans h
                refine g_aload_n (j := 0) C dX6_film_135 rfl rfl ?_
                refine g_iload (j := 4) C dX6_film_136 rfl ?_
                obtain ⟨q_1026, hq_1027, h⟩ := bind_isome h
                refine g_vi (ws' := (zW cy ad shM E X)) (As := [.int v4]) (rest := [.int v3]) (res := q_1026) C (c_X6_receiptsOf l D cy ad E X v4 hq_1027) zml_RX6_98 zcv_X6_receiptsOf (zW_get X sM_0) rfl rfl rfl ⟨Nat.le_of_ble_eq_true rfl, Nat.le_of_ble_eq_true rfl⟩ rfl rfl (Nat.le_of_ble_eq_true rfl) ⟨Nat.zero_le _, Nat.zero_le _⟩ dX6_film_138 ?_
                refine g_goto C dX6_film_141 (tgt := 150) (by decide) ?_
                refine g_iadd C dX6_film_150 ?_
                refine g_istore_n (L' := [(3, .int (v3 + q_1026)), (0, .ref (ad 0)), (1, .int v1), (2, .int v2), (4, .int v4)]) C dX6_film_151 rfl (by decide) rfl ?_
                refine g_iinc (k := 4) (L' := [(4, .int (v4 + 1)), (3, .int (v3 + q_1026)), (0, .ref (ad 0)), (1, .int v1), (2, .int v2)]) C dX6_film_152 rfl (z_iinc (by decide)) (by decide) rfl ?_
                refine g_goto C dX6_film_155 (tgt := 71) (by decide) ?_
                refine zG_sub (L' := [(0, .ref (ad 0)), (1, .int v1), (2, .int v2), (3, .int (v3 + q_1026)), (4, .int (v4 + 1))]) [2, 3, 4, 1, 0] rfl ?_
                exact ih (v3 + q_1026) (v4 + 1) h hk
            · replace h := (if_pos hc_1022).symm.trans h
              refine g_aload_n (j := 0) C dX6_film_118 rfl rfl ?_
              refine g_iload (j := 4) C dX6_film_119 rfl ?_
              refine g_bipush (v := (nI 7)) C dX6_film_121 (by decide) ?_
              obtain ⟨q_1028, hq_1029, h⟩ := bind_isome h
              refine g_vi (ws' := (zW cy ad shM E X)) (As := [.int v4, .int (nI 7)]) (rest := [.int v3]) (res := q_1028) C (c_X6_showAt l D cy ad E X v4 (nI 7) hq_1029) zml_RX6_89 zcv_X6_showAt (zW_get X sM_0) rfl rfl rfl ⟨Nat.le_of_ble_eq_true rfl, Nat.le_of_ble_eq_true rfl⟩ rfl rfl (Nat.le_of_ble_eq_true rfl) ⟨Nat.zero_le _, Nat.zero_le _⟩ dX6_film_123 ?_
              refine g_goto C dX6_film_126 (tgt := 150) (by decide) ?_
              refine g_iadd C dX6_film_150 ?_
              refine g_istore_n (L' := [(3, .int (v3 + q_1028)), (0, .ref (ad 0)), (1, .int v1), (2, .int v2), (4, .int v4)]) C dX6_film_151 rfl (by decide) rfl ?_
              refine g_iinc (k := 4) (L' := [(4, .int (v4 + 1)), (3, .int (v3 + q_1028)), (0, .ref (ad 0)), (1, .int v1), (2, .int v2)]) C dX6_film_152 rfl (z_iinc (by decide)) (by decide) rfl ?_
              refine g_goto C dX6_film_155 (tgt := 71) (by decide) ?_
              refine zG_sub (L' := [(0, .ref (ad 0)), (1, .int v1), (2, .int v2), (3, .int (v3 + q_1028)), (4, .int (v4 + 1))]) [2, 3, 4, 1, 0] rfl ?_
              exact ih (v3 + q_1028) (v4 + 1) h hk
          · replace h := (if_pos hc_1021).symm.trans h
            refine g_iconst (v := (nI 1)) C dX6_film_108 (by decide) ?_
            refine g_goto C dX6_film_109 (tgt := 150) (by decide) ?_
            refine g_iadd C dX6_film_150 ?_
            refine g_istore_n (L' := [(3, .int (v3 + (nI 1))), (0, .ref (ad 0)), (1, .int v1), (2, .int v2), (4, .int v4)]) C dX6_film_151 rfl (by decide) rfl ?_
            refine g_iinc (k := 4) (L' := [(4, .int (v4 + 1)), (3, .int (v3 + (nI 1))), (0, .ref (ad 0)), (1, .int v1), (2, .int v2)]) C dX6_film_152 rfl (z_iinc (by decide)) (by decide) rfl ?_
            refine g_goto C dX6_film_155 (tgt := 71) (by decide) ?_
            refine zG_sub (L' := [(0, .ref (ad 0)), (1, .int v1), (2, .int v2), (3, .int (v3 + (nI 1))), (4, .int (v4 + 1))]) [2, 3, 4, 1, 0] rfl ?_
            exact ih (v3 + (nI 1)) (v4 + 1) h hk
def f_X6_film (X : Nat → Nat → Int32) (v1 v2 : Int32) : Option (Int32 × (Nat → Nat → Int32)) := (if (f_X6_isFilm X v1) = 0 then (zlet (f_X6_fails X (nI 1)) fun q_1044 => some (q_1044.1, q_1044.2)) else (if (f_X6_in v2 (nI 0) (nI 11)) = 0 then (zlet (f_X6_fails X (nI 2)) fun q_1042 => some (q_1042.1, q_1042.2)) else (if v2 < (nI 5) then (if (nI 5) ≤ v2 then ((f_X6_filmAt X v1 (((nI 5) + v2) - (nI 9))).bind fun q_5 => (zlet (f_X6_done X q_5) fun q_7 => some (q_7.1, q_7.2))) else ((f_X6_filmAt X v1 v2).bind fun q_9 => (zlet (f_X6_done X q_9) fun q_11 => some (q_11.1, q_11.2)))) else (if v2 ≤ (nI 8) then f_X6_film_L71 (fun v3_1030 => (zlet (f_X6_done X v3_1030) fun q_1031 => some (q_1031.1, q_1031.2))) X v1 v2 zFuel (nI 0) (nI 0) else (if (nI 5) ≤ v2 then ((f_X6_filmAt X v1 (((nI 5) + v2) - (nI 9))).bind fun q_1034 => (zlet (f_X6_done X q_1034) fun q_1036 => some (q_1036.1, q_1036.2))) else ((f_X6_filmAt X v1 v2).bind fun q_1038 => (zlet (f_X6_done X q_1038) fun q_1040 => some (q_1040.1, q_1040.2))))))))
set_option maxRecDepth 100000 in
set_option maxHeartbeats 4000000 in
theorem c_X6_film (l : Launch) (D : va_G) (cy : Nat → ClassId) (ad : Nat → Nat) (E : va_W) (X : Nat → Nat → Int32) (v1 v2 : Int32) {res : Int32 × (Nat → Nat → Int32)} (h : f_X6_film X v1 v2 = some res) : zMi l yX6_film cX6_film 5 (some .int) (zrm 4) D (zTy cy) (zW cy ad shM E X) [.ref (ad 0), .int v1, .int v2] res.1 (zW cy ad shM E res.2) := by
  refine zMi.of (by decide) (Nat.le_of_ble_eq_true rfl) ?_
  intro p e s m below meth c A C hr
  unfold f_X6_film at h
  refine zG_L (L' := [(0, .ref (ad 0)), (1, .int v1), (2, .int v2)]) rfl ?_
  refine g_aload_n (j := 0) C dX6_film_0 rfl rfl ?_
  refine g_iload_n (j := 1) C dX6_film_1 rfl rfl ?_
  refine g_vi (ws' := (zW cy ad shM E X)) (As := [.int v1]) (rest := []) (res := (f_X6_isFilm X v1)) C (c_X6_isFilm l D cy ad E X v1) zml_RX6_78 zcv_X6_isFilm (zW_get X sM_0) rfl rfl rfl ⟨Nat.le_of_ble_eq_true rfl, Nat.le_of_ble_eq_true rfl⟩ rfl rfl (Nat.le_of_ble_eq_true rfl) ⟨Nat.zero_le _, Nat.zero_le _⟩ dX6_film_2 ?_
  refine g_if_ne C dX6_film_5 (tgt := 14) (by decide) (fun hc_1 => ?_) (fun hc_1 => ?_)
  · replace h := (if_neg hc_1).symm.trans h
    refine g_iload_n (j := 2) C dX6_film_14 rfl rfl ?_
    refine g_iconst (v := (nI 0)) C dX6_film_15 (by decide) ?_
    refine g_bipush (v := (nI 11)) C dX6_film_16 (by decide) ?_
    refine g_si (ws' := (zW cy ad shM E X)) (As := [.int v2, .int (nI 0), .int (nI 11)]) (rest := []) (res := (f_X6_in v2 (nI 0) (nI 11))) C (c_X6_in l D cy (zW cy ad shM E X) v2 (nI 0) (nI 11)) zml_RX6_64 zcs_X6_in rfl rfl ⟨Nat.le_of_ble_eq_true rfl, Nat.le_of_ble_eq_true rfl⟩ rfl rfl (Nat.le_of_ble_eq_true rfl) ⟨Nat.zero_le _, Nat.zero_le _⟩ dX6_film_18 ?_
    refine g_if_ne C dX6_film_21 (tgt := 30) (by decide) (fun hc_2 => ?_) (fun hc_2 => ?_)
    · replace h := (if_neg hc_2).symm.trans h
      refine g_iload_n (j := 2) C dX6_film_30 rfl rfl ?_
      refine g_iconst (v := (nI 5)) C dX6_film_31 (by decide) ?_
      refine g_icmp_lt C dX6_film_32 (tgt := 41) (by decide) (fun hc_3 => ?_) (fun hc_3 => ?_)
      · replace h := (if_pos hc_3).symm.trans h
        refine g_aload_n (j := 0) C dX6_film_41 rfl rfl ?_
        refine g_aload_n (j := 0) C dX6_film_42 rfl rfl ?_
        refine g_iload_n (j := 1) C dX6_film_43 rfl rfl ?_
        refine g_iload_n (j := 2) C dX6_film_44 rfl rfl ?_
        refine g_iconst (v := (nI 5)) C dX6_film_45 (by decide) ?_
        refine g_icmp_ge C dX6_film_46 (tgt := 53) (by decide) (fun hc_4 => ?_) (fun hc_4 => ?_)
        · replace h := (if_pos hc_4).symm.trans h
          refine g_iconst (v := (nI 5)) C dX6_film_53 (by decide) ?_
          refine g_iload_n (j := 2) C dX6_film_54 rfl rfl ?_
          refine g_iadd C dX6_film_55 ?_
          refine g_bipush (v := (nI 9)) C dX6_film_56 (by decide) ?_
          refine g_isub C dX6_film_58 ?_
          obtain ⟨q_5, hq_6, h⟩ := bind_isome h
          refine g_vi (ws' := (zW cy ad shM E X)) (As := [.int v1, .int (((nI 5) + v2) - (nI 9))]) (rest := [.ref (ad 0)]) (res := q_5) C (c_X6_filmAt l D cy ad E X v1 (((nI 5) + v2) - (nI 9)) hq_6) zml_RX6_81 zcv_X6_filmAt (zW_get X sM_0) rfl rfl rfl ⟨Nat.le_of_ble_eq_true rfl, Nat.le_of_ble_eq_true rfl⟩ rfl rfl (Nat.le_of_ble_eq_true rfl) ⟨Nat.zero_le _, Nat.zero_le _⟩ dX6_film_59 ?_
          obtain ⟨q_7, e_8, h⟩ := zlet_ex h
          refine g_vi (ws' := (zW cy ad shM E q_7.2)) (As := [.int q_5]) (rest := []) (res := q_7.1) C ((by rw [e_8]; exact c_X6_done l D cy ad E X q_5)) zml_RX6_71 zcv_X6_done (zW_get X sM_0) rfl rfl rfl ⟨Nat.le_of_ble_eq_true rfl, Nat.le_of_ble_eq_true rfl⟩ rfl rfl (Nat.le_of_ble_eq_true rfl) ⟨Nat.zero_le _, Nat.zero_le _⟩ dX6_film_62 ?_
          obtain rfl := Option.some.inj h
          exact g_iret rfl C hr rfl dX6_film_65
        · replace h := (if_neg hc_4).symm.trans h
          refine g_iload_n (j := 2) C dX6_film_49 rfl rfl ?_
          refine g_goto C dX6_film_50 (tgt := 59) (by decide) ?_
          obtain ⟨q_9, hq_10, h⟩ := bind_isome h
          refine g_vi (ws' := (zW cy ad shM E X)) (As := [.int v1, .int v2]) (rest := [.ref (ad 0)]) (res := q_9) C (c_X6_filmAt l D cy ad E X v1 v2 hq_10) zml_RX6_81 zcv_X6_filmAt (zW_get X sM_0) rfl rfl rfl ⟨Nat.le_of_ble_eq_true rfl, Nat.le_of_ble_eq_true rfl⟩ rfl rfl (Nat.le_of_ble_eq_true rfl) ⟨Nat.zero_le _, Nat.zero_le _⟩ dX6_film_59 ?_
          obtain ⟨q_11, e_12, h⟩ := zlet_ex h
          refine g_vi (ws' := (zW cy ad shM E q_11.2)) (As := [.int q_9]) (rest := []) (res := q_11.1) C ((by rw [e_12]; exact c_X6_done l D cy ad E X q_9)) zml_RX6_71 zcv_X6_done (zW_get X sM_0) rfl rfl rfl ⟨Nat.le_of_ble_eq_true rfl, Nat.le_of_ble_eq_true rfl⟩ rfl rfl (Nat.le_of_ble_eq_true rfl) ⟨Nat.zero_le _, Nat.zero_le _⟩ dX6_film_62 ?_
          obtain rfl := Option.some.inj h
          exact g_iret rfl C hr rfl dX6_film_65
      · replace h := (if_neg hc_3).symm.trans h
        refine g_iload_n (j := 2) C dX6_film_35 rfl rfl ?_
        refine g_bipush (v := (nI 8)) C dX6_film_36 (by decide) ?_
        refine g_icmp_le C dX6_film_38 (tgt := 66) (by decide) (fun hc_13 => ?_) (fun hc_13 => ?_)
        · replace h := (if_pos hc_13).symm.trans h
          refine g_iconst (v := (nI 0)) C dX6_film_66 (by decide) ?_
          refine g_istore_n (L' := [(3, .int (nI 0)), (0, .ref (ad 0)), (1, .int v1), (2, .int v2)]) C dX6_film_67 rfl (by decide) rfl ?_
          refine g_iconst (v := (nI 0)) C dX6_film_68 (by decide) ?_
          refine g_istore (L' := [(4, .int (nI 0)), (3, .int (nI 0)), (0, .ref (ad 0)), (1, .int v1), (2, .int v2)]) C dX6_film_69 (by decide) rfl ?_
          refine zG_sub (L' := [(0, .ref (ad 0)), (1, .int v1), (2, .int v2), (3, .int (nI 0)), (4, .int (nI 0))]) [2, 3, 4, 1, 0] rfl ?_
          refine w_X6_film_L71 l D cy ad E _ X v1 v2 C hr zFuel (nI 0) (nI 0) h ?_
          intro v3_1030 h
          refine g_aload_n (j := 0) C dX6_film_158 rfl rfl ?_
          refine g_iload_n (j := 1) C dX6_film_159 rfl rfl ?_
          obtain ⟨q_1031, e_1032, h⟩ := zlet_ex h
          refine g_vi (ws' := (zW cy ad shM E q_1031.2)) (As := [.int v3_1030]) (rest := []) (res := q_1031.1) C ((by rw [e_1032]; exact c_X6_done l D cy ad E X v3_1030)) zml_RX6_71 zcv_X6_done (zW_get X sM_0) rfl rfl rfl ⟨Nat.le_of_ble_eq_true rfl, Nat.le_of_ble_eq_true rfl⟩ rfl rfl (Nat.le_of_ble_eq_true rfl) ⟨Nat.zero_le _, Nat.zero_le _⟩ dX6_film_160 ?_
          obtain rfl := Option.some.inj h
          exact g_iret rfl C hr rfl dX6_film_163
        · replace h := (if_neg hc_13).symm.trans h
          refine g_aload_n (j := 0) C dX6_film_41 rfl rfl ?_
          refine g_aload_n (j := 0) C dX6_film_42 rfl rfl ?_
          refine g_iload_n (j := 1) C dX6_film_43 rfl rfl ?_
          refine g_iload_n (j := 2) C dX6_film_44 rfl rfl ?_
          refine g_iconst (v := (nI 5)) C dX6_film_45 (by decide) ?_
          refine g_icmp_ge C dX6_film_46 (tgt := 53) (by decide) (fun hc_1033 => ?_) (fun hc_1033 => ?_)
          · replace h := (if_pos hc_1033).symm.trans h
            refine g_iconst (v := (nI 5)) C dX6_film_53 (by decide) ?_
            refine g_iload_n (j := 2) C dX6_film_54 rfl rfl ?_
            refine g_iadd C dX6_film_55 ?_
            refine g_bipush (v := (nI 9)) C dX6_film_56 (by decide) ?_
            refine g_isub C dX6_film_58 ?_
            obtain ⟨q_1034, hq_1035, h⟩ := bind_isome h
            refine g_vi (ws' := (zW cy ad shM E X)) (As := [.int v1, .int (((nI 5) + v2) - (nI 9))]) (rest := [.ref (ad 0)]) (res := q_1034) C (c_X6_filmAt l D cy ad E X v1 (((nI 5) + v2) - (nI 9)) hq_1035) zml_RX6_81 zcv_X6_filmAt (zW_get X sM_0) rfl rfl rfl ⟨Nat.le_of_ble_eq_true rfl, Nat.le_of_ble_eq_true rfl⟩ rfl rfl (Nat.le_of_ble_eq_true rfl) ⟨Nat.zero_le _, Nat.zero_le _⟩ dX6_film_59 ?_
            obtain ⟨q_1036, e_1037, h⟩ := zlet_ex h
            refine g_vi (ws' := (zW cy ad shM E q_1036.2)) (As := [.int q_1034]) (rest := []) (res := q_1036.1) C ((by rw [e_1037]; exact c_X6_done l D cy ad E X q_1034)) zml_RX6_71 zcv_X6_done (zW_get X sM_0) rfl rfl rfl ⟨Nat.le_of_ble_eq_true rfl, Nat.le_of_ble_eq_true rfl⟩ rfl rfl (Nat.le_of_ble_eq_true rfl) ⟨Nat.zero_le _, Nat.zero_le _⟩ dX6_film_62 ?_
            obtain rfl := Option.some.inj h
            exact g_iret rfl C hr rfl dX6_film_65
          · replace h := (if_neg hc_1033).symm.trans h
            refine g_iload_n (j := 2) C dX6_film_49 rfl rfl ?_
            refine g_goto C dX6_film_50 (tgt := 59) (by decide) ?_
            obtain ⟨q_1038, hq_1039, h⟩ := bind_isome h
            refine g_vi (ws' := (zW cy ad shM E X)) (As := [.int v1, .int v2]) (rest := [.ref (ad 0)]) (res := q_1038) C (c_X6_filmAt l D cy ad E X v1 v2 hq_1039) zml_RX6_81 zcv_X6_filmAt (zW_get X sM_0) rfl rfl rfl ⟨Nat.le_of_ble_eq_true rfl, Nat.le_of_ble_eq_true rfl⟩ rfl rfl (Nat.le_of_ble_eq_true rfl) ⟨Nat.zero_le _, Nat.zero_le _⟩ dX6_film_59 ?_
            obtain ⟨q_1040, e_1041, h⟩ := zlet_ex h
            refine g_vi (ws' := (zW cy ad shM E q_1040.2)) (As := [.int q_1038]) (rest := []) (res := q_1040.1) C ((by rw [e_1041]; exact c_X6_done l D cy ad E X q_1038)) zml_RX6_71 zcv_X6_done (zW_get X sM_0) rfl rfl rfl ⟨Nat.le_of_ble_eq_true rfl, Nat.le_of_ble_eq_true rfl⟩ rfl rfl (Nat.le_of_ble_eq_true rfl) ⟨Nat.zero_le _, Nat.zero_le _⟩ dX6_film_62 ?_
            obtain rfl := Option.some.inj h
            exact g_iret rfl C hr rfl dX6_film_65
    · replace h := (if_pos hc_2).symm.trans h
      refine g_aload_n (j := 0) C dX6_film_24 rfl rfl ?_
      refine g_iconst (v := (nI 2)) C dX6_film_25 (by decide) ?_
      obtain ⟨q_1042, e_1043, h⟩ := zlet_ex h
      refine g_vi (ws' := (zW cy ad shM E q_1042.2)) (As := [.int (nI 2)]) (rest := []) (res := q_1042.1) C ((by rw [e_1043]; exact c_X6_fails l D cy ad E X (nI 2))) zml_RX6_45 zcv_X6_fails (zW_get X sM_0) rfl rfl rfl ⟨Nat.le_of_ble_eq_true rfl, Nat.le_of_ble_eq_true rfl⟩ rfl rfl (Nat.le_of_ble_eq_true rfl) ⟨Nat.zero_le _, Nat.zero_le _⟩ dX6_film_26 ?_
      obtain rfl := Option.some.inj h
      exact g_iret rfl C hr rfl dX6_film_29
  · replace h := (if_pos hc_1).symm.trans h
    refine g_aload_n (j := 0) C dX6_film_8 rfl rfl ?_
    refine g_iconst (v := (nI 1)) C dX6_film_9 (by decide) ?_
    obtain ⟨q_1044, e_1045, h⟩ := zlet_ex h
    refine g_vi (ws' := (zW cy ad shM E q_1044.2)) (As := [.int (nI 1)]) (rest := []) (res := q_1044.1) C ((by rw [e_1045]; exact c_X6_fails l D cy ad E X (nI 1))) zml_RX6_45 zcv_X6_fails (zW_get X sM_0) rfl rfl rfl ⟨Nat.le_of_ble_eq_true rfl, Nat.le_of_ble_eq_true rfl⟩ rfl rfl (Nat.le_of_ble_eq_true rfl) ⟨Nat.zero_le _, Nat.zero_le _⟩ dX6_film_10 ?_
    obtain rfl := Option.some.inj h
    exact g_iret rfl C hr rfl dX6_film_13
def f_X6_share (X : Nat → Nat → Int32) (v1 v2 : Int32) : Option (Int32 × (Nat → Nat → Int32)) := (if (f_X6_isFilm X v1) = 0 then (zlet (f_X6_fails X (nI 1)) fun q_14 => some (q_14.1, q_14.2)) else (if (f_X6_isDay v2) = 0 then (zlet (f_X6_fails X (nI 2)) fun q_12 => some (q_12.1, q_12.2)) else ((f_X6_filmAt X v1 (nI 4)).bind fun q_3 => (if q_3 ≤ v2 then ((f_X6_shareOn X v1 v2).bind fun q_6 => (zlet (f_X6_done X q_6) fun q_8 => some (q_8.1, q_8.2))) else (zlet (f_X6_fails X (nI 3)) fun q_10 => some (q_10.1, q_10.2))))))
set_option maxRecDepth 100000 in
set_option maxHeartbeats 4000000 in
theorem c_X6_share (l : Launch) (D : va_G) (cy : Nat → ClassId) (ad : Nat → Nat) (E : va_W) (X : Nat → Nat → Int32) (v1 v2 : Int32) {res : Int32 × (Nat → Nat → Int32)} (h : f_X6_share X v1 v2 = some res) : zMi l yX6_share cX6_share 3 (some .int) (zrm 3) D (zTy cy) (zW cy ad shM E X) [.ref (ad 0), .int v1, .int v2] res.1 (zW cy ad shM E res.2) := by
  refine zMi.of (by decide) (Nat.le_of_ble_eq_true rfl) ?_
  intro p e s m below meth c A C hr
  unfold f_X6_share at h
  refine zG_L (L' := [(0, .ref (ad 0)), (1, .int v1), (2, .int v2)]) rfl ?_
  refine g_aload_n (j := 0) C dX6_share_0 rfl rfl ?_
  refine g_iload_n (j := 1) C dX6_share_1 rfl rfl ?_
  refine g_vi (ws' := (zW cy ad shM E X)) (As := [.int v1]) (rest := []) (res := (f_X6_isFilm X v1)) C (c_X6_isFilm l D cy ad E X v1) zml_RX6_78 zcv_X6_isFilm (zW_get X sM_0) rfl rfl rfl ⟨Nat.le_of_ble_eq_true rfl, Nat.le_of_ble_eq_true rfl⟩ rfl rfl (Nat.le_of_ble_eq_true rfl) ⟨Nat.zero_le _, Nat.zero_le _⟩ dX6_share_2 ?_
  refine g_if_ne C dX6_share_5 (tgt := 14) (by decide) (fun hc_1 => ?_) (fun hc_1 => ?_)
  · replace h := (if_neg hc_1).symm.trans h
    refine g_iload_n (j := 2) C dX6_share_14 rfl rfl ?_
    refine g_si (ws' := (zW cy ad shM E X)) (As := [.int v2]) (rest := []) (res := (f_X6_isDay v2)) C (c_X6_isDay l D cy (zW cy ad shM E X) v2) zml_RX6_74 zcs_X6_isDay rfl rfl ⟨Nat.le_of_ble_eq_true rfl, Nat.le_of_ble_eq_true rfl⟩ rfl rfl (Nat.le_of_ble_eq_true rfl) ⟨Nat.zero_le _, Nat.zero_le _⟩ dX6_share_15 ?_
    refine g_if_ne C dX6_share_18 (tgt := 27) (by decide) (fun hc_2 => ?_) (fun hc_2 => ?_)
    · replace h := (if_neg hc_2).symm.trans h
      refine g_iload_n (j := 2) C dX6_share_27 rfl rfl ?_
      refine g_aload_n (j := 0) C dX6_share_28 rfl rfl ?_
      refine g_iload_n (j := 1) C dX6_share_29 rfl rfl ?_
      refine g_iconst (v := (nI 4)) C dX6_share_30 (by decide) ?_
      obtain ⟨q_3, hq_4, h⟩ := bind_isome h
      refine g_vi (ws' := (zW cy ad shM E X)) (As := [.int v1, .int (nI 4)]) (rest := [.int v2]) (res := q_3) C (c_X6_filmAt l D cy ad E X v1 (nI 4) hq_4) zml_RX6_81 zcv_X6_filmAt (zW_get X sM_0) rfl rfl rfl ⟨Nat.le_of_ble_eq_true rfl, Nat.le_of_ble_eq_true rfl⟩ rfl rfl (Nat.le_of_ble_eq_true rfl) ⟨Nat.zero_le _, Nat.zero_le _⟩ dX6_share_31 ?_
      refine g_icmp_ge C dX6_share_34 (tgt := 45) (by decide) (fun hc_5 => ?_) (fun hc_5 => ?_)
      · replace h := (if_pos hc_5).symm.trans h
        refine g_aload_n (j := 0) C dX6_share_45 rfl rfl ?_
        refine g_aload_n (j := 0) C dX6_share_46 rfl rfl ?_
        refine g_iload_n (j := 1) C dX6_share_47 rfl rfl ?_
        refine g_iload_n (j := 2) C dX6_share_48 rfl rfl ?_
        obtain ⟨q_6, hq_7, h⟩ := bind_isome h
        refine g_vi (ws' := (zW cy ad shM E X)) (As := [.int v1, .int v2]) (rest := [.ref (ad 0)]) (res := q_6) C (c_X6_shareOn l D cy ad E X v1 v2 hq_7) zml_RX6_101 zcv_X6_shareOn (zW_get X sM_0) rfl rfl rfl ⟨Nat.le_of_ble_eq_true rfl, Nat.le_of_ble_eq_true rfl⟩ rfl rfl (Nat.le_of_ble_eq_true rfl) ⟨Nat.zero_le _, Nat.zero_le _⟩ dX6_share_49 ?_
        obtain ⟨q_8, e_9, h⟩ := zlet_ex h
        refine g_vi (ws' := (zW cy ad shM E q_8.2)) (As := [.int q_6]) (rest := []) (res := q_8.1) C ((by rw [e_9]; exact c_X6_done l D cy ad E X q_6)) zml_RX6_71 zcv_X6_done (zW_get X sM_0) rfl rfl rfl ⟨Nat.le_of_ble_eq_true rfl, Nat.le_of_ble_eq_true rfl⟩ rfl rfl (Nat.le_of_ble_eq_true rfl) ⟨Nat.zero_le _, Nat.zero_le _⟩ dX6_share_52 ?_
        obtain rfl := Option.some.inj h
        exact g_iret rfl C hr rfl dX6_share_55
      · replace h := (if_neg hc_5).symm.trans h
        refine g_aload_n (j := 0) C dX6_share_37 rfl rfl ?_
        refine g_iconst (v := (nI 3)) C dX6_share_38 (by decide) ?_
        obtain ⟨q_10, e_11, h⟩ := zlet_ex h
        refine g_vi (ws' := (zW cy ad shM E q_10.2)) (As := [.int (nI 3)]) (rest := []) (res := q_10.1) C ((by rw [e_11]; exact c_X6_fails l D cy ad E X (nI 3))) zml_RX6_45 zcv_X6_fails (zW_get X sM_0) rfl rfl rfl ⟨Nat.le_of_ble_eq_true rfl, Nat.le_of_ble_eq_true rfl⟩ rfl rfl (Nat.le_of_ble_eq_true rfl) ⟨Nat.zero_le _, Nat.zero_le _⟩ dX6_share_39 ?_
        refine g_goto C dX6_share_42 (tgt := 55) (by decide) ?_
        obtain rfl := Option.some.inj h
        exact g_iret rfl C hr rfl dX6_share_55
    · replace h := (if_pos hc_2).symm.trans h
      refine g_aload_n (j := 0) C dX6_share_21 rfl rfl ?_
      refine g_iconst (v := (nI 2)) C dX6_share_22 (by decide) ?_
      obtain ⟨q_12, e_13, h⟩ := zlet_ex h
      refine g_vi (ws' := (zW cy ad shM E q_12.2)) (As := [.int (nI 2)]) (rest := []) (res := q_12.1) C ((by rw [e_13]; exact c_X6_fails l D cy ad E X (nI 2))) zml_RX6_45 zcv_X6_fails (zW_get X sM_0) rfl rfl rfl ⟨Nat.le_of_ble_eq_true rfl, Nat.le_of_ble_eq_true rfl⟩ rfl rfl (Nat.le_of_ble_eq_true rfl) ⟨Nat.zero_le _, Nat.zero_le _⟩ dX6_share_23 ?_
      obtain rfl := Option.some.inj h
      exact g_iret rfl C hr rfl dX6_share_26
  · replace h := (if_pos hc_1).symm.trans h
    refine g_aload_n (j := 0) C dX6_share_8 rfl rfl ?_
    refine g_iconst (v := (nI 1)) C dX6_share_9 (by decide) ?_
    obtain ⟨q_14, e_15, h⟩ := zlet_ex h
    refine g_vi (ws' := (zW cy ad shM E q_14.2)) (As := [.int (nI 1)]) (rest := []) (res := q_14.1) C ((by rw [e_15]; exact c_X6_fails l D cy ad E X (nI 1))) zml_RX6_45 zcv_X6_fails (zW_get X sM_0) rfl rfl rfl ⟨Nat.le_of_ble_eq_true rfl, Nat.le_of_ble_eq_true rfl⟩ rfl rfl (Nat.le_of_ble_eq_true rfl) ⟨Nat.zero_le _, Nat.zero_le _⟩ dX6_share_10 ?_
    obtain rfl := Option.some.inj h
    exact g_iret rfl C hr rfl dX6_share_13
def f_X6_trailer (X : Nat → Nat → Int32) (v1 v2 : Int32) : Option (Int32 × (Nat → Nat → Int32)) := (if (f_X6_in v1 (nI 0) ((X 1 (nI 3).toNatClampNeg) - (nI 1))) = 0 then (zlet (f_X6_fails X (nI 1)) fun q_9 => some (q_9.1, q_9.2)) else (if (f_X6_in v2 (nI 0) (nI 3)) = 0 then (zlet (f_X6_fails X (nI 2)) fun q_3 => some (q_3.1, q_3.2)) else ((f_X6_trailerAt X v1 v2).bind fun q_5 => (zlet (f_X6_done X q_5) fun q_7 => some (q_7.1, q_7.2)))))
set_option maxRecDepth 100000 in
set_option maxHeartbeats 4000000 in
theorem c_X6_trailer (l : Launch) (D : va_G) (cy : Nat → ClassId) (ad : Nat → Nat) (E : va_W) (X : Nat → Nat → Int32) (v1 v2 : Int32) {res : Int32 × (Nat → Nat → Int32)} (h : f_X6_trailer X v1 v2 = some res) : zMi l yX6_trailer cX6_trailer 3 (some .int) (zrm 2) D (zTy cy) (zW cy ad shM E X) [.ref (ad 0), .int v1, .int v2] res.1 (zW cy ad shM E res.2) := by
  refine zMi.of (by decide) (Nat.le_of_ble_eq_true rfl) ?_
  intro p e s m below meth c A C hr
  unfold f_X6_trailer at h
  refine zG_L (L' := [(0, .ref (ad 0)), (1, .int v1), (2, .int v2)]) rfl ?_
  refine g_iload_n (j := 1) C dX6_trailer_0 rfl rfl ?_
  refine g_iconst (v := (nI 0)) C dX6_trailer_1 (by decide) ?_
  refine g_aload_n (j := 0) C dX6_trailer_2 rfl rfl ?_
  refine g_getr (k := 1) (N := 27) C sM_0 rfl zin_RX6 (by decide) rfl zfl_RX6_9 rfl dX6_trailer_3 ?_
  refine g_iconst (v := (nI 3)) C dX6_trailer_6 (by decide) ?_
  refine g_iald C sM_1 (by decide) dX6_trailer_7 ?_
  refine g_iconst (v := (nI 1)) C dX6_trailer_8 (by decide) ?_
  refine g_isub C dX6_trailer_9 ?_
  refine g_si (ws' := (zW cy ad shM E X)) (As := [.int v1, .int (nI 0), .int ((X 1 (nI 3).toNatClampNeg) - (nI 1))]) (rest := []) (res := (f_X6_in v1 (nI 0) ((X 1 (nI 3).toNatClampNeg) - (nI 1)))) C (c_X6_in l D cy (zW cy ad shM E X) v1 (nI 0) ((X 1 (nI 3).toNatClampNeg) - (nI 1))) zml_RX6_64 zcs_X6_in rfl rfl ⟨Nat.le_of_ble_eq_true rfl, Nat.le_of_ble_eq_true rfl⟩ rfl rfl (Nat.le_of_ble_eq_true rfl) ⟨Nat.zero_le _, Nat.zero_le _⟩ dX6_trailer_10 ?_
  refine g_if_ne C dX6_trailer_13 (tgt := 22) (by decide) (fun hc_1 => ?_) (fun hc_1 => ?_)
  · replace h := (if_neg hc_1).symm.trans h
    refine g_iload_n (j := 2) C dX6_trailer_22 rfl rfl ?_
    refine g_iconst (v := (nI 0)) C dX6_trailer_23 (by decide) ?_
    refine g_iconst (v := (nI 3)) C dX6_trailer_24 (by decide) ?_
    refine g_si (ws' := (zW cy ad shM E X)) (As := [.int v2, .int (nI 0), .int (nI 3)]) (rest := []) (res := (f_X6_in v2 (nI 0) (nI 3))) C (c_X6_in l D cy (zW cy ad shM E X) v2 (nI 0) (nI 3)) zml_RX6_64 zcs_X6_in rfl rfl ⟨Nat.le_of_ble_eq_true rfl, Nat.le_of_ble_eq_true rfl⟩ rfl rfl (Nat.le_of_ble_eq_true rfl) ⟨Nat.zero_le _, Nat.zero_le _⟩ dX6_trailer_25 ?_
    refine g_if_eq C dX6_trailer_28 (tgt := 44) (by decide) (fun hc_2 => ?_) (fun hc_2 => ?_)
    · replace h := (if_pos hc_2).symm.trans h
      refine g_aload_n (j := 0) C dX6_trailer_44 rfl rfl ?_
      refine g_iconst (v := (nI 2)) C dX6_trailer_45 (by decide) ?_
      obtain ⟨q_3, e_4, h⟩ := zlet_ex h
      refine g_vi (ws' := (zW cy ad shM E q_3.2)) (As := [.int (nI 2)]) (rest := []) (res := q_3.1) C ((by rw [e_4]; exact c_X6_fails l D cy ad E X (nI 2))) zml_RX6_45 zcv_X6_fails (zW_get X sM_0) rfl rfl rfl ⟨Nat.le_of_ble_eq_true rfl, Nat.le_of_ble_eq_true rfl⟩ rfl rfl (Nat.le_of_ble_eq_true rfl) ⟨Nat.zero_le _, Nat.zero_le _⟩ dX6_trailer_46 ?_
      obtain rfl := Option.some.inj h
      exact g_iret rfl C hr rfl dX6_trailer_49
    · replace h := (if_neg hc_2).symm.trans h
      refine g_aload_n (j := 0) C dX6_trailer_31 rfl rfl ?_
      refine g_aload_n (j := 0) C dX6_trailer_32 rfl rfl ?_
      refine g_iload_n (j := 1) C dX6_trailer_33 rfl rfl ?_
      refine g_iload_n (j := 2) C dX6_trailer_34 rfl rfl ?_
      obtain ⟨q_5, hq_6, h⟩ := bind_isome h
      refine g_vi (ws' := (zW cy ad shM E X)) (As := [.int v1, .int v2]) (rest := [.ref (ad 0)]) (res := q_5) C (c_X6_trailerAt l D cy ad E X v1 v2 hq_6) zml_RX6_113 zcv_X6_trailerAt (zW_get X sM_0) rfl rfl rfl ⟨Nat.le_of_ble_eq_true rfl, Nat.le_of_ble_eq_true rfl⟩ rfl rfl (Nat.le_of_ble_eq_true rfl) ⟨Nat.zero_le _, Nat.zero_le _⟩ dX6_trailer_35 ?_
      obtain ⟨q_7, e_8, h⟩ := zlet_ex h
      refine g_vi (ws' := (zW cy ad shM E q_7.2)) (As := [.int q_5]) (rest := []) (res := q_7.1) C ((by rw [e_8]; exact c_X6_done l D cy ad E X q_5)) zml_RX6_71 zcv_X6_done (zW_get X sM_0) rfl rfl rfl ⟨Nat.le_of_ble_eq_true rfl, Nat.le_of_ble_eq_true rfl⟩ rfl rfl (Nat.le_of_ble_eq_true rfl) ⟨Nat.zero_le _, Nat.zero_le _⟩ dX6_trailer_38 ?_
      refine g_goto C dX6_trailer_41 (tgt := 49) (by decide) ?_
      obtain rfl := Option.some.inj h
      exact g_iret rfl C hr rfl dX6_trailer_49
  · replace h := (if_pos hc_1).symm.trans h
    refine g_aload_n (j := 0) C dX6_trailer_16 rfl rfl ?_
    refine g_iconst (v := (nI 1)) C dX6_trailer_17 (by decide) ?_
    obtain ⟨q_9, e_10, h⟩ := zlet_ex h
    refine g_vi (ws' := (zW cy ad shM E q_9.2)) (As := [.int (nI 1)]) (rest := []) (res := q_9.1) C ((by rw [e_10]; exact c_X6_fails l D cy ad E X (nI 1))) zml_RX6_45 zcv_X6_fails (zW_get X sM_0) rfl rfl rfl ⟨Nat.le_of_ble_eq_true rfl, Nat.le_of_ble_eq_true rfl⟩ rfl rfl (Nat.le_of_ble_eq_true rfl) ⟨Nat.zero_le _, Nat.zero_le _⟩ dX6_trailer_18 ?_
    obtain rfl := Option.some.inj h
    exact g_iret rfl C hr rfl dX6_trailer_21
def f_X6_doesFit (X : Nat → Nat → Int32) (v1 v2 v3 : Int32) : Option Int32 := ((f_X6_trailerAt X v1 (nI 0)).bind fun q_1 => (if q_1 = v2 then some (nI 0) else ((f_X6_filmAt X q_1 (nI 4)).bind fun q_4 => (if q_4 ≤ v3 then some (nI 0) else ((f_X6_trailerAt X v1 (nI 2)).bind fun q_7 => ((f_X6_filmAt X v2 (nI 1)).bind fun q_9 => (if q_9 < q_7 then some (nI 0) else ((f_X6_trailerAt X v1 (nI 3)).bind fun q_12 => ((f_X6_filmAt X v2 (nI 2)).bind fun q_14 => (if (q_12 &&& q_14) = 0 then some (nI 0) else some (nI 1)))))))))))
set_option maxRecDepth 100000 in
set_option maxHeartbeats 4000000 in
theorem c_X6_doesFit (l : Launch) (D : va_G) (cy : Nat → ClassId) (ad : Nat → Nat) (E : va_W) (X : Nat → Nat → Int32) (v1 v2 v3 : Int32) {res : Int32} (h : f_X6_doesFit X v1 v2 v3 = some res) : zMi l yX6_doesFit cX6_doesFit 5 (some .boolean) (zrm 2) D (zTy cy) (zW cy ad shM E X) [.ref (ad 0), .int v1, .int v2, .int v3] res (zW cy ad shM E X) := by
  refine zMi.of (by decide) (Nat.le_of_ble_eq_true rfl) ?_
  intro p e s m below meth c A C hr
  unfold f_X6_doesFit at h
  refine zG_L (L' := [(0, .ref (ad 0)), (1, .int v1), (2, .int v2), (3, .int v3)]) rfl ?_
  refine g_aload_n (j := 0) C dX6_doesFit_0 rfl rfl ?_
  refine g_iload_n (j := 1) C dX6_doesFit_1 rfl rfl ?_
  refine g_iconst (v := (nI 0)) C dX6_doesFit_2 (by decide) ?_
  obtain ⟨q_1, hq_2, h⟩ := bind_isome h
  refine g_vi (ws' := (zW cy ad shM E X)) (As := [.int v1, .int (nI 0)]) (rest := []) (res := q_1) C (c_X6_trailerAt l D cy ad E X v1 (nI 0) hq_2) zml_RX6_113 zcv_X6_trailerAt (zW_get X sM_0) rfl rfl rfl ⟨Nat.le_of_ble_eq_true rfl, Nat.le_of_ble_eq_true rfl⟩ rfl rfl (Nat.le_of_ble_eq_true rfl) ⟨Nat.zero_le _, Nat.zero_le _⟩ dX6_doesFit_3 ?_
  refine g_istore (L' := [(4, .int q_1), (0, .ref (ad 0)), (1, .int v1), (2, .int v2), (3, .int v3)]) C dX6_doesFit_6 (by decide) rfl ?_
  refine g_iload (j := 0) C dX6_doesFit_8 rfl ?_
  refine g_iload_n (j := 3) C dX6_doesFit_10 rfl rfl ?_
  refine g_icmp_eq C dX6_doesFit_11 (tgt := 60) (by decide) (fun hc_3 => ?_) (fun hc_3 => ?_)
  · replace h := (if_pos hc_3).symm.trans h
    refine g_iconst (v := (nI 0)) C dX6_doesFit_60 (by decide) ?_
    obtain rfl := Option.some.inj h
    exact g_iret rfl C hr (z_nb (Or.inl rfl)) dX6_doesFit_61
  · replace h := (if_neg hc_3).symm.trans h
    refine g_aload_n (j := 1) C dX6_doesFit_14 rfl rfl ?_
    refine g_iload (j := 0) C dX6_doesFit_15 rfl ?_
    refine g_iconst (v := (nI 4)) C dX6_doesFit_17 (by decide) ?_
    obtain ⟨q_4, hq_5, h⟩ := bind_isome h
    refine g_vi (ws' := (zW cy ad shM E X)) (As := [.int q_1, .int (nI 4)]) (rest := []) (res := q_4) C (c_X6_filmAt l D cy ad E X q_1 (nI 4) hq_5) zml_RX6_81 zcv_X6_filmAt (zW_get X sM_0) rfl rfl rfl ⟨Nat.le_of_ble_eq_true rfl, Nat.le_of_ble_eq_true rfl⟩ rfl rfl (Nat.le_of_ble_eq_true rfl) ⟨Nat.zero_le _, Nat.zero_le _⟩ dX6_doesFit_18 ?_
    refine g_iload_n (j := 4) C dX6_doesFit_21 rfl rfl ?_
    refine g_icmp_le C dX6_doesFit_22 (tgt := 60) (by decide) (fun hc_6 => ?_) (fun hc_6 => ?_)
    · replace h := (if_pos hc_6).symm.trans h
      refine g_iconst (v := (nI 0)) C dX6_doesFit_60 (by decide) ?_
      obtain rfl := Option.some.inj h
      exact g_iret rfl C hr (z_nb (Or.inl rfl)) dX6_doesFit_61
    · replace h := (if_neg hc_6).symm.trans h
      refine g_aload_n (j := 1) C dX6_doesFit_25 rfl rfl ?_
      refine g_iload_n (j := 2) C dX6_doesFit_26 rfl rfl ?_
      refine g_iconst (v := (nI 2)) C dX6_doesFit_27 (by decide) ?_
      obtain ⟨q_7, hq_8, h⟩ := bind_isome h
      refine g_vi (ws' := (zW cy ad shM E X)) (As := [.int v1, .int (nI 2)]) (rest := []) (res := q_7) C (c_X6_trailerAt l D cy ad E X v1 (nI 2) hq_8) zml_RX6_113 zcv_X6_trailerAt (zW_get X sM_0) rfl rfl rfl ⟨Nat.le_of_ble_eq_true rfl, Nat.le_of_ble_eq_true rfl⟩ rfl rfl (Nat.le_of_ble_eq_true rfl) ⟨Nat.zero_le _, Nat.zero_le _⟩ dX6_doesFit_28 ?_
      refine g_aload_n (j := 1) C dX6_doesFit_31 rfl rfl ?_
      refine g_iload_n (j := 3) C dX6_doesFit_32 rfl rfl ?_
      refine g_iconst (v := (nI 1)) C dX6_doesFit_33 (by decide) ?_
      obtain ⟨q_9, hq_10, h⟩ := bind_isome h
      refine g_vi (ws' := (zW cy ad shM E X)) (As := [.int v2, .int (nI 1)]) (rest := [.int q_7]) (res := q_9) C (c_X6_filmAt l D cy ad E X v2 (nI 1) hq_10) zml_RX6_81 zcv_X6_filmAt (zW_get X sM_0) rfl rfl rfl ⟨Nat.le_of_ble_eq_true rfl, Nat.le_of_ble_eq_true rfl⟩ rfl rfl (Nat.le_of_ble_eq_true rfl) ⟨Nat.zero_le _, Nat.zero_le _⟩ dX6_doesFit_34 ?_
      refine g_icmp_gt C dX6_doesFit_37 (tgt := 60) (by decide) (fun hc_11 => ?_) (fun hc_11 => ?_)
      · replace h := (if_pos hc_11).symm.trans h
        refine g_iconst (v := (nI 0)) C dX6_doesFit_60 (by decide) ?_
        obtain rfl := Option.some.inj h
        exact g_iret rfl C hr (z_nb (Or.inl rfl)) dX6_doesFit_61
      · replace h := (if_neg hc_11).symm.trans h
        refine g_aload_n (j := 1) C dX6_doesFit_40 rfl rfl ?_
        refine g_iload_n (j := 2) C dX6_doesFit_41 rfl rfl ?_
        refine g_iconst (v := (nI 3)) C dX6_doesFit_42 (by decide) ?_
        obtain ⟨q_12, hq_13, h⟩ := bind_isome h
        refine g_vi (ws' := (zW cy ad shM E X)) (As := [.int v1, .int (nI 3)]) (rest := []) (res := q_12) C (c_X6_trailerAt l D cy ad E X v1 (nI 3) hq_13) zml_RX6_113 zcv_X6_trailerAt (zW_get X sM_0) rfl rfl rfl ⟨Nat.le_of_ble_eq_true rfl, Nat.le_of_ble_eq_true rfl⟩ rfl rfl (Nat.le_of_ble_eq_true rfl) ⟨Nat.zero_le _, Nat.zero_le _⟩ dX6_doesFit_43 ?_
        refine g_aload_n (j := 1) C dX6_doesFit_46 rfl rfl ?_
        refine g_iload_n (j := 3) C dX6_doesFit_47 rfl rfl ?_
        refine g_iconst (v := (nI 2)) C dX6_doesFit_48 (by decide) ?_
        obtain ⟨q_14, hq_15, h⟩ := bind_isome h
        refine g_vi (ws' := (zW cy ad shM E X)) (As := [.int v2, .int (nI 2)]) (rest := [.int q_12]) (res := q_14) C (c_X6_filmAt l D cy ad E X v2 (nI 2) hq_15) zml_RX6_81 zcv_X6_filmAt (zW_get X sM_0) rfl rfl rfl ⟨Nat.le_of_ble_eq_true rfl, Nat.le_of_ble_eq_true rfl⟩ rfl rfl (Nat.le_of_ble_eq_true rfl) ⟨Nat.zero_le _, Nat.zero_le _⟩ dX6_doesFit_49 ?_
        refine g_iand C dX6_doesFit_52 ?_
        refine g_if_eq C dX6_doesFit_53 (tgt := 60) (by decide) (fun hc_16 => ?_) (fun hc_16 => ?_)
        · replace h := (if_pos hc_16).symm.trans h
          refine g_iconst (v := (nI 0)) C dX6_doesFit_60 (by decide) ?_
          obtain rfl := Option.some.inj h
          exact g_iret rfl C hr (z_nb (Or.inl rfl)) dX6_doesFit_61
        · replace h := (if_neg hc_16).symm.trans h
          refine g_iconst (v := (nI 1)) C dX6_doesFit_56 (by decide) ?_
          refine g_goto C dX6_doesFit_57 (tgt := 61) (by decide) ?_
          obtain rfl := Option.some.inj h
          exact g_iret rfl C hr (z_nb (Or.inr rfl)) dX6_doesFit_61
def f_X6_fits (X : Nat → Nat → Int32) (v1 v2 v3 : Int32) : Option (Int32 × (Nat → Nat → Int32)) := (if (f_X6_in v1 (nI 0) ((X 1 (nI 3).toNatClampNeg) - (nI 1))) = 0 then (zlet (f_X6_fails X (nI 1)) fun q_2 => (if q_2.1 ≤ 0 then some ((nI 0), q_2.2) else some ((nI 1), q_2.2))) else (if (f_X6_isFilm X v2) = 0 then (zlet (f_X6_fails X (nI 1)) fun q_15 => (if q_15.1 ≤ 0 then some ((nI 0), q_15.2) else some ((nI 1), q_15.2))) else (if (f_X6_isDay v3) = 0 then (zlet (f_X6_fails X (nI 2)) fun q_12 => (if q_12.1 ≤ 0 then some ((nI 0), q_12.2) else some ((nI 1), q_12.2))) else (zlet (zU X 0 0 (nI 0)) fun X_7 => ((f_X6_doesFit X_7 v1 v2 v3).bind fun q_9 => (if ¬ (q_9 = 0 ∨ q_9 = 1) then none else some (q_9, X_7)))))))
set_option maxRecDepth 100000 in
set_option maxHeartbeats 4000000 in
theorem c_X6_fits (l : Launch) (D : va_G) (cy : Nat → ClassId) (ad : Nat → Nat) (E : va_W) (X : Nat → Nat → Int32) (v1 v2 v3 : Int32) {res : Int32 × (Nat → Nat → Int32)} (h : f_X6_fits X v1 v2 v3 = some res) : zMi l yX6_fits cX6_fits 4 (some .boolean) (zrm 3) D (zTy cy) (zW cy ad shM E X) [.ref (ad 0), .int v1, .int v2, .int v3] res.1 (zW cy ad shM E res.2) := by
  refine zMi.of (by decide) (Nat.le_of_ble_eq_true rfl) ?_
  intro p e s m below meth c A C hr
  unfold f_X6_fits at h
  refine zG_L (L' := [(0, .ref (ad 0)), (1, .int v1), (2, .int v2), (3, .int v3)]) rfl ?_
  refine g_iload_n (j := 1) C dX6_fits_0 rfl rfl ?_
  refine g_iconst (v := (nI 0)) C dX6_fits_1 (by decide) ?_
  refine g_aload_n (j := 0) C dX6_fits_2 rfl rfl ?_
  refine g_getr (k := 1) (N := 27) C sM_0 rfl zin_RX6 (by decide) rfl zfl_RX6_9 rfl dX6_fits_3 ?_
  refine g_iconst (v := (nI 3)) C dX6_fits_6 (by decide) ?_
  refine g_iald C sM_1 (by decide) dX6_fits_7 ?_
  refine g_iconst (v := (nI 1)) C dX6_fits_8 (by decide) ?_
  refine g_isub C dX6_fits_9 ?_
  refine g_si (ws' := (zW cy ad shM E X)) (As := [.int v1, .int (nI 0), .int ((X 1 (nI 3).toNatClampNeg) - (nI 1))]) (rest := []) (res := (f_X6_in v1 (nI 0) ((X 1 (nI 3).toNatClampNeg) - (nI 1)))) C (c_X6_in l D cy (zW cy ad shM E X) v1 (nI 0) ((X 1 (nI 3).toNatClampNeg) - (nI 1))) zml_RX6_64 zcs_X6_in rfl rfl ⟨Nat.le_of_ble_eq_true rfl, Nat.le_of_ble_eq_true rfl⟩ rfl rfl (Nat.le_of_ble_eq_true rfl) ⟨Nat.zero_le _, Nat.zero_le _⟩ dX6_fits_10 ?_
  refine g_if_eq C dX6_fits_13 (tgt := 24) (by decide) (fun hc_1 => ?_) (fun hc_1 => ?_)
  · replace h := (if_pos hc_1).symm.trans h
    refine g_aload_n (j := 0) C dX6_fits_24 rfl rfl ?_
    refine g_iconst (v := (nI 1)) C dX6_fits_25 (by decide) ?_
    obtain ⟨q_2, e_3, h⟩ := zlet_ex h
    refine g_vi (ws' := (zW cy ad shM E q_2.2)) (As := [.int (nI 1)]) (rest := []) (res := q_2.1) C ((by rw [e_3]; exact c_X6_fails l D cy ad E X (nI 1))) zml_RX6_45 zcv_X6_fails (zW_get X sM_0) rfl rfl rfl ⟨Nat.le_of_ble_eq_true rfl, Nat.le_of_ble_eq_true rfl⟩ rfl rfl (Nat.le_of_ble_eq_true rfl) ⟨Nat.zero_le _, Nat.zero_le _⟩ dX6_fits_26 ?_
    refine g_if_le C dX6_fits_29 (tgt := 36) (by decide) (fun hc_4 => ?_) (fun hc_4 => ?_)
    · replace h := (if_pos hc_4).symm.trans h
      refine g_iconst (v := (nI 0)) C dX6_fits_36 (by decide) ?_
      obtain rfl := Option.some.inj h
      exact g_iret rfl C hr (z_nb (Or.inl rfl)) dX6_fits_37
    · replace h := (if_neg hc_4).symm.trans h
      refine g_iconst (v := (nI 1)) C dX6_fits_32 (by decide) ?_
      refine g_goto C dX6_fits_33 (tgt := 37) (by decide) ?_
      obtain rfl := Option.some.inj h
      exact g_iret rfl C hr (z_nb (Or.inr rfl)) dX6_fits_37
  · replace h := (if_neg hc_1).symm.trans h
    refine g_aload_n (j := 0) C dX6_fits_16 rfl rfl ?_
    refine g_iload_n (j := 2) C dX6_fits_17 rfl rfl ?_
    refine g_vi (ws' := (zW cy ad shM E X)) (As := [.int v2]) (rest := []) (res := (f_X6_isFilm X v2)) C (c_X6_isFilm l D cy ad E X v2) zml_RX6_78 zcv_X6_isFilm (zW_get X sM_0) rfl rfl rfl ⟨Nat.le_of_ble_eq_true rfl, Nat.le_of_ble_eq_true rfl⟩ rfl rfl (Nat.le_of_ble_eq_true rfl) ⟨Nat.zero_le _, Nat.zero_le _⟩ dX6_fits_18 ?_
    refine g_if_ne C dX6_fits_21 (tgt := 38) (by decide) (fun hc_5 => ?_) (fun hc_5 => ?_)
    · replace h := (if_neg hc_5).symm.trans h
      refine g_iload_n (j := 3) C dX6_fits_38 rfl rfl ?_
      refine g_si (ws' := (zW cy ad shM E X)) (As := [.int v3]) (rest := []) (res := (f_X6_isDay v3)) C (c_X6_isDay l D cy (zW cy ad shM E X) v3) zml_RX6_74 zcs_X6_isDay rfl rfl ⟨Nat.le_of_ble_eq_true rfl, Nat.le_of_ble_eq_true rfl⟩ rfl rfl (Nat.le_of_ble_eq_true rfl) ⟨Nat.zero_le _, Nat.zero_le _⟩ dX6_fits_39 ?_
      refine g_if_ne C dX6_fits_42 (tgt := 59) (by decide) (fun hc_6 => ?_) (fun hc_6 => ?_)
      · replace h := (if_neg hc_6).symm.trans h
        refine g_aload_n (j := 0) C dX6_fits_59 rfl rfl ?_
        refine g_iconst (v := (nI 0)) C dX6_fits_60 (by decide) ?_
        refine g_puti (k := 0) (N := 27) (ty := .int) C sM_0 rfl zin_RX6 (by decide) rfl zfl_RX6_36 rfl tyX6_ok nmX6 rfl (by decide +kernel) rfl rfl dX6_fits_61 ?_
        obtain ⟨X_7, e_8, h⟩ := zlet_ex h
        rw [← e_8]
        refine g_aload_n (j := 0) C dX6_fits_64 rfl rfl ?_
        refine g_iload_n (j := 1) C dX6_fits_65 rfl rfl ?_
        refine g_iload_n (j := 2) C dX6_fits_66 rfl rfl ?_
        refine g_iload_n (j := 3) C dX6_fits_67 rfl rfl ?_
        obtain ⟨q_9, hq_10, h⟩ := bind_isome h
        refine g_vi (ws' := (zW cy ad shM E X_7)) (As := [.int v1, .int v2, .int v3]) (rest := []) (res := q_9) C (c_X6_doesFit l D cy ad E X_7 v1 v2 v3 hq_10) zml_RX6_116 zcv_X6_doesFit (zW_get X_7 sM_0) rfl rfl rfl ⟨Nat.le_of_ble_eq_true rfl, Nat.le_of_ble_eq_true rfl⟩ rfl rfl (Nat.le_of_ble_eq_true rfl) ⟨Nat.zero_le _, Nat.zero_le _⟩ dX6_fits_68 ?_
        obtain ⟨hg_11, h⟩ := ite_inone h
        obtain rfl := Option.some.inj h
        exact g_iret rfl C hr (z_nb (Decidable.not_not.mp hg_11)) dX6_fits_71
      · replace h := (if_pos hc_6).symm.trans h
        refine g_aload_n (j := 0) C dX6_fits_45 rfl rfl ?_
        refine g_iconst (v := (nI 2)) C dX6_fits_46 (by decide) ?_
        obtain ⟨q_12, e_13, h⟩ := zlet_ex h
        refine g_vi (ws' := (zW cy ad shM E q_12.2)) (As := [.int (nI 2)]) (rest := []) (res := q_12.1) C ((by rw [e_13]; exact c_X6_fails l D cy ad E X (nI 2))) zml_RX6_45 zcv_X6_fails (zW_get X sM_0) rfl rfl rfl ⟨Nat.le_of_ble_eq_true rfl, Nat.le_of_ble_eq_true rfl⟩ rfl rfl (Nat.le_of_ble_eq_true rfl) ⟨Nat.zero_le _, Nat.zero_le _⟩ dX6_fits_47 ?_
        refine g_if_le C dX6_fits_50 (tgt := 57) (by decide) (fun hc_14 => ?_) (fun hc_14 => ?_)
        · replace h := (if_pos hc_14).symm.trans h
          refine g_iconst (v := (nI 0)) C dX6_fits_57 (by decide) ?_
          obtain rfl := Option.some.inj h
          exact g_iret rfl C hr (z_nb (Or.inl rfl)) dX6_fits_58
        · replace h := (if_neg hc_14).symm.trans h
          refine g_iconst (v := (nI 1)) C dX6_fits_53 (by decide) ?_
          refine g_goto C dX6_fits_54 (tgt := 58) (by decide) ?_
          obtain rfl := Option.some.inj h
          exact g_iret rfl C hr (z_nb (Or.inr rfl)) dX6_fits_58
    · replace h := (if_pos hc_5).symm.trans h
      refine g_aload_n (j := 0) C dX6_fits_24 rfl rfl ?_
      refine g_iconst (v := (nI 1)) C dX6_fits_25 (by decide) ?_
      obtain ⟨q_15, e_16, h⟩ := zlet_ex h
      refine g_vi (ws' := (zW cy ad shM E q_15.2)) (As := [.int (nI 1)]) (rest := []) (res := q_15.1) C ((by rw [e_16]; exact c_X6_fails l D cy ad E X (nI 1))) zml_RX6_45 zcv_X6_fails (zW_get X sM_0) rfl rfl rfl ⟨Nat.le_of_ble_eq_true rfl, Nat.le_of_ble_eq_true rfl⟩ rfl rfl (Nat.le_of_ble_eq_true rfl) ⟨Nat.zero_le _, Nat.zero_le _⟩ dX6_fits_26 ?_
      refine g_if_le C dX6_fits_29 (tgt := 36) (by decide) (fun hc_17 => ?_) (fun hc_17 => ?_)
      · replace h := (if_pos hc_17).symm.trans h
        refine g_iconst (v := (nI 0)) C dX6_fits_36 (by decide) ?_
        obtain rfl := Option.some.inj h
        exact g_iret rfl C hr (z_nb (Or.inl rfl)) dX6_fits_37
      · replace h := (if_neg hc_17).symm.trans h
        refine g_iconst (v := (nI 1)) C dX6_fits_32 (by decide) ?_
        refine g_goto C dX6_fits_33 (tgt := 37) (by decide) ?_
        obtain rfl := Option.some.inj h
        exact g_iret rfl C hr (z_nb (Or.inr rfl)) dX6_fits_37
def f_X6_lengthOf_L4 (X : Nat → Nat → Int32) (v1 : Int32) : Nat → Int32 → Int32 → Option Int32
  | 0, _, _ => none
  | fu + 1, v2, v3 => (if (X 1 (nI 3).toNatClampNeg) ≤ v3 then some v2 else (if ((v1 >>> (v3 &&& 31)) &&& (nI 1)) = (nI 1) then ((f_X6_trailerAt X v3 (nI 1)).bind fun q_1003 => f_X6_lengthOf_L4 X v1 fu (v2 + q_1003) (v3 + 1)) else f_X6_lengthOf_L4 X v1 fu (v2 + (nI 0)) (v3 + 1)))
set_option maxRecDepth 100000 in
set_option maxHeartbeats 4000000 in
theorem w_X6_lengthOf_L4 {p : Program} {e : Env} {s : State} {m : MethodId} {args : Array Value} {below : List Frame} {meth : Method} {c : Code} {A : Nat → Prop} (l : Launch) (D : va_G) (cy : Nat → ClassId) (ad : Nat → Nat) (E : va_W) (X : Nat → Nat → Int32) (v1 : Int32) {res : Int32} (C : zC p s m args meth c cX6_lengthOf 4 RX6 D (zTy cy) A) (hr : meth.sig.returnType = (some .int)) : ∀ (fu : Nat) (v2 v3 : Int32) (h : f_X6_lengthOf_L4 X v1 fu v2 v3 = some res), zG p l e (zrm 2) s m args below meth c 4 D A 0 0 (MQ below (va_Qi (fun (r : Int32) (_ : Unit) => r = res) (fun _ t => zB D (zTy cy) A (zW cy ad shM E X) t) A) args s 0 0 A) (zW cy ad shM E X) 4 [(0, .ref (ad 0)), (1, .int v1), (2, .int v2), (3, .int v3)] [] := by
  intro fu
  induction fu with
  | zero => intro v2 v3 h; simp [f_X6_lengthOf_L4] at h
  | succ fu ih =>
    intro v2 v3 h
    rw [f_X6_lengthOf_L4] at h
    refine g_iload_n (j := 3) C dX6_lengthOf_4 rfl rfl ?_
    refine g_aload_n (j := 0) C dX6_lengthOf_5 rfl rfl ?_
    refine g_getr (k := 1) (N := 27) C sM_0 rfl zin_RX6 (by decide) rfl zfl_RX6_9 rfl dX6_lengthOf_6 ?_
    refine g_iconst (v := (nI 3)) C dX6_lengthOf_9 (by decide) ?_
    refine g_iald C sM_1 (by decide) dX6_lengthOf_10 ?_
    refine g_icmp_ge C dX6_lengthOf_11 (tgt := 42) (by decide) (fun hc_1001 => ?_) (fun hc_1001 => ?_)
    · replace h := (if_pos hc_1001).symm.trans h
      refine g_iload_n (j := 2) C dX6_lengthOf_42 rfl rfl ?_
      obtain rfl := Option.some.inj h
      exact g_iret rfl C hr rfl dX6_lengthOf_43
    · replace h := (if_neg hc_1001).symm.trans h
      refine g_iload_n (j := 2) C dX6_lengthOf_14 rfl rfl ?_
      refine g_iload_n (j := 1) C dX6_lengthOf_15 rfl rfl ?_
      refine g_iload_n (j := 3) C dX6_lengthOf_16 rfl rfl ?_
      refine g_ishr C dX6_lengthOf_17 ?_
      refine g_iconst (v := (nI 1)) C dX6_lengthOf_18 (by decide) ?_
      refine g_iand C dX6_lengthOf_19 ?_
      refine g_iconst (v := (nI 1)) C dX6_lengthOf_20 (by decide) ?_
      refine g_icmp_ne C dX6_lengthOf_21 (tgt := 33) (by decide) (fun hc_1002 => ?_) (fun hc_1002 => ?_)
      · replace h := (if_neg hc_1002).symm.trans h
        refine g_iconst (v := (nI 0)) C dX6_lengthOf_33 (by decide) ?_
        refine g_iadd C dX6_lengthOf_34 ?_
        refine g_istore_n (L' := [(2, .int (v2 + (nI 0))), (0, .ref (ad 0)), (1, .int v1), (3, .int v3)]) C dX6_lengthOf_35 rfl (by decide) rfl ?_
        refine g_iinc (k := 3) (L' := [(3, .int (v3 + 1)), (2, .int (v2 + (nI 0))), (0, .ref (ad 0)), (1, .int v1)]) C dX6_lengthOf_36 rfl (z_iinc (by decide)) (by decide) rfl ?_
        refine g_goto C dX6_lengthOf_39 (tgt := 4) (by decide) ?_
        refine zG_sub (L' := [(0, .ref (ad 0)), (1, .int v1), (2, .int (v2 + (nI 0))), (3, .int (v3 + 1))]) [2, 3, 1, 0] rfl ?_
        exact ih (v2 + (nI 0)) (v3 + 1) h
      · replace h := (if_pos hc_1002).symm.trans h
        refine g_aload_n (j := 0) C dX6_lengthOf_24 rfl rfl ?_
        refine g_iload_n (j := 3) C dX6_lengthOf_25 rfl rfl ?_
        refine g_iconst (v := (nI 1)) C dX6_lengthOf_26 (by decide) ?_
        obtain ⟨q_1003, hq_1004, h⟩ := bind_isome h
        refine g_vi (ws' := (zW cy ad shM E X)) (As := [.int v3, .int (nI 1)]) (rest := [.int v2]) (res := q_1003) C (c_X6_trailerAt l D cy ad E X v3 (nI 1) hq_1004) zml_RX6_113 zcv_X6_trailerAt (zW_get X sM_0) rfl rfl rfl ⟨Nat.le_of_ble_eq_true rfl, Nat.le_of_ble_eq_true rfl⟩ rfl rfl (Nat.le_of_ble_eq_true rfl) ⟨Nat.zero_le _, Nat.zero_le _⟩ dX6_lengthOf_27 ?_
        refine g_goto C dX6_lengthOf_30 (tgt := 34) (by decide) ?_
        refine g_iadd C dX6_lengthOf_34 ?_
        refine g_istore_n (L' := [(2, .int (v2 + q_1003)), (0, .ref (ad 0)), (1, .int v1), (3, .int v3)]) C dX6_lengthOf_35 rfl (by decide) rfl ?_
        refine g_iinc (k := 3) (L' := [(3, .int (v3 + 1)), (2, .int (v2 + q_1003)), (0, .ref (ad 0)), (1, .int v1)]) C dX6_lengthOf_36 rfl (z_iinc (by decide)) (by decide) rfl ?_
        refine g_goto C dX6_lengthOf_39 (tgt := 4) (by decide) ?_
        refine zG_sub (L' := [(0, .ref (ad 0)), (1, .int v1), (2, .int (v2 + q_1003)), (3, .int (v3 + 1))]) [2, 3, 1, 0] rfl ?_
        exact ih (v2 + q_1003) (v3 + 1) h
def f_X6_lengthOf (X : Nat → Nat → Int32) (v1 : Int32) : Option Int32 := f_X6_lengthOf_L4 X v1 zFuel (nI 0) (nI 0)
set_option maxRecDepth 100000 in
set_option maxHeartbeats 4000000 in
theorem c_X6_lengthOf (l : Launch) (D : va_G) (cy : Nat → ClassId) (ad : Nat → Nat) (E : va_W) (X : Nat → Nat → Int32) (v1 : Int32) {res : Int32} (h : f_X6_lengthOf X v1 = some res) : zMi l yX6_lengthOf cX6_lengthOf 4 (some .int) (zrm 2) D (zTy cy) (zW cy ad shM E X) [.ref (ad 0), .int v1] res (zW cy ad shM E X) := by
  refine zMi.of (by decide) (Nat.le_of_ble_eq_true rfl) ?_
  intro p e s m below meth c A C hr
  unfold f_X6_lengthOf at h
  refine zG_L (L' := [(0, .ref (ad 0)), (1, .int v1)]) rfl ?_
  refine g_iconst (v := (nI 0)) C dX6_lengthOf_0 (by decide) ?_
  refine g_istore_n (L' := [(2, .int (nI 0)), (0, .ref (ad 0)), (1, .int v1)]) C dX6_lengthOf_1 rfl (by decide) rfl ?_
  refine g_iconst (v := (nI 0)) C dX6_lengthOf_2 (by decide) ?_
  refine g_istore_n (L' := [(3, .int (nI 0)), (2, .int (nI 0)), (0, .ref (ad 0)), (1, .int v1)]) C dX6_lengthOf_3 rfl (by decide) rfl ?_
  refine zG_sub (L' := [(0, .ref (ad 0)), (1, .int v1), (2, .int (nI 0)), (3, .int (nI 0))]) [2, 3, 1, 0] rfl ?_
  exact w_X6_lengthOf_L4 l D cy ad E X v1 C hr zFuel (nI 0) (nI 0) h
def f_X6_isBetter (X : Nat → Nat → Int32) (v1 v2 : Int32) : Option Int32 := ((f_X6_lengthOf X v1).bind fun q_1 => ((f_X6_lengthOf X v2).bind fun q_3 => (if q_1 = q_3 then (if (f_J6_bitCount_0f7a4 v1) = (f_J6_bitCount_0f7a4 v2) then (if ((v1 &&& (v1 ^^^ v2)) &&& (-(v1 ^^^ v2))) = 0 then some (nI 0) else some (nI 1)) else (if (f_J6_bitCount_0f7a4 v2) ≤ (f_J6_bitCount_0f7a4 v1) then some (nI 0) else some (nI 1))) else ((f_X6_lengthOf X v1).bind fun q_9 => ((f_X6_lengthOf X v2).bind fun q_11 => (if q_9 ≤ q_11 then some (nI 0) else some (nI 1)))))))
set_option maxRecDepth 100000 in
set_option maxHeartbeats 4000000 in
theorem c_X6_isBetter (l : Launch) (D : va_G) (cy : Nat → ClassId) (ad : Nat → Nat) (E : va_W) (X : Nat → Nat → Int32) (v1 v2 : Int32) {res : Int32} (h : f_X6_isBetter X v1 v2 = some res) : zMi l yX6_isBetter cX6_isBetter 6 (some .boolean) (zrm 3) D (zTy cy) (zW cy ad shM E X) [.ref (ad 0), .int v1, .int v2] res (zW cy ad shM E X) := by
  refine zMi.of (by decide) (Nat.le_of_ble_eq_true rfl) ?_
  intro p e s m below meth c A C hr
  unfold f_X6_isBetter at h
  refine zG_L (L' := [(0, .ref (ad 0)), (1, .int v1), (2, .int v2)]) rfl ?_
  refine g_aload_n (j := 0) C dX6_isBetter_0 rfl rfl ?_
  refine g_iload_n (j := 1) C dX6_isBetter_1 rfl rfl ?_
  obtain ⟨q_1, hq_2, h⟩ := bind_isome h
  refine g_vi (ws' := (zW cy ad shM E X)) (As := [.int v1]) (rest := []) (res := q_1) C (c_X6_lengthOf l D cy ad E X v1 hq_2) zml_RX6_119 zcv_X6_lengthOf (zW_get X sM_0) rfl rfl rfl ⟨Nat.le_of_ble_eq_true rfl, Nat.le_of_ble_eq_true rfl⟩ rfl rfl (Nat.le_of_ble_eq_true rfl) ⟨Nat.zero_le _, Nat.zero_le _⟩ dX6_isBetter_2 ?_
  refine g_aload_n (j := 0) C dX6_isBetter_5 rfl rfl ?_
  refine g_iload_n (j := 2) C dX6_isBetter_6 rfl rfl ?_
  obtain ⟨q_3, hq_4, h⟩ := bind_isome h
  refine g_vi (ws' := (zW cy ad shM E X)) (As := [.int v2]) (rest := [.int q_1]) (res := q_3) C (c_X6_lengthOf l D cy ad E X v2 hq_4) zml_RX6_119 zcv_X6_lengthOf (zW_get X sM_0) rfl rfl rfl ⟨Nat.le_of_ble_eq_true rfl, Nat.le_of_ble_eq_true rfl⟩ rfl rfl (Nat.le_of_ble_eq_true rfl) ⟨Nat.zero_le _, Nat.zero_le _⟩ dX6_isBetter_7 ?_
  refine g_icmp_eq C dX6_isBetter_10 (tgt := 32) (by decide) (fun hc_5 => ?_) (fun hc_5 => ?_)
  · replace h := (if_pos hc_5).symm.trans h
    refine g_iload_n (j := 1) C dX6_isBetter_32 rfl rfl ?_
    refine g_si (ws' := (zW cy ad shM E X)) (As := [.int v1]) (rest := []) (res := (f_J6_bitCount_0f7a4 v1)) C (c_J6_bitCount_0f7a4 l D cy (zW cy ad shM E X) v1) zml_RX6_122 zcs_J6_bitCount_0f7a4 rfl rfl ⟨Nat.le_of_ble_eq_true rfl, Nat.le_of_ble_eq_true rfl⟩ rfl rfl (Nat.le_of_ble_eq_true rfl) ⟨Nat.zero_le _, Nat.zero_le _⟩ dX6_isBetter_33 ?_
    refine g_istore_n (L' := [(3, .int (f_J6_bitCount_0f7a4 v1)), (0, .ref (ad 0)), (1, .int v1), (2, .int v2)]) C dX6_isBetter_36 rfl (by decide) rfl ?_
    refine g_iload_n (j := 3) C dX6_isBetter_37 rfl rfl ?_
    refine g_si (ws' := (zW cy ad shM E X)) (As := [.int v2]) (rest := []) (res := (f_J6_bitCount_0f7a4 v2)) C (c_J6_bitCount_0f7a4 l D cy (zW cy ad shM E X) v2) zml_RX6_122 zcs_J6_bitCount_0f7a4 rfl rfl ⟨Nat.le_of_ble_eq_true rfl, Nat.le_of_ble_eq_true rfl⟩ rfl rfl (Nat.le_of_ble_eq_true rfl) ⟨Nat.zero_le _, Nat.zero_le _⟩ dX6_isBetter_38 ?_
    refine g_istore (L' := [(4, .int (f_J6_bitCount_0f7a4 v2)), (3, .int (f_J6_bitCount_0f7a4 v1)), (0, .ref (ad 0)), (1, .int v1), (2, .int v2)]) C dX6_isBetter_41 (by decide) rfl ?_
    refine g_iload_n (j := 3) C dX6_isBetter_43 rfl rfl ?_
    refine g_iload_n (j := 4) C dX6_isBetter_44 rfl rfl ?_
    refine g_ixor C dX6_isBetter_45 ?_
    refine g_istore (L' := [(5, .int (v1 ^^^ v2)), (4, .int (f_J6_bitCount_0f7a4 v2)), (3, .int (f_J6_bitCount_0f7a4 v1)), (0, .ref (ad 0)), (1, .int v1), (2, .int v2)]) C dX6_isBetter_46 (by decide) rfl ?_
    refine g_iload_n (j := 2) C dX6_isBetter_48 rfl rfl ?_
    refine g_iload (j := 1) C dX6_isBetter_49 rfl ?_
    refine g_icmp_eq C dX6_isBetter_51 (tgt := 68) (by decide) (fun hc_6 => ?_) (fun hc_6 => ?_)
    · replace h := (if_pos hc_6).symm.trans h
      refine g_iload_n (j := 4) C dX6_isBetter_68 rfl rfl ?_
      refine g_iload (j := 0) C dX6_isBetter_69 rfl ?_
      refine g_iand C dX6_isBetter_71 ?_
      refine g_iload (j := 0) C dX6_isBetter_72 rfl ?_
      refine g_ineg C dX6_isBetter_74 ?_
      refine g_iand C dX6_isBetter_75 ?_
      refine g_if_eq C dX6_isBetter_76 (tgt := 83) (by decide) (fun hc_7 => ?_) (fun hc_7 => ?_)
      · replace h := (if_pos hc_7).symm.trans h
        refine g_iconst (v := (nI 0)) C dX6_isBetter_83 (by decide) ?_
        obtain rfl := Option.some.inj h
        exact g_iret rfl C hr (z_nb (Or.inl rfl)) dX6_isBetter_84
      · replace h := (if_neg hc_7).symm.trans h
        refine g_iconst (v := (nI 1)) C dX6_isBetter_79 (by decide) ?_
        refine g_goto C dX6_isBetter_80 (tgt := 84) (by decide) ?_
        obtain rfl := Option.some.inj h
        exact g_iret rfl C hr (z_nb (Or.inr rfl)) dX6_isBetter_84
    · replace h := (if_neg hc_6).symm.trans h
      refine g_iload_n (j := 2) C dX6_isBetter_54 rfl rfl ?_
      refine g_iload (j := 1) C dX6_isBetter_55 rfl ?_
      refine g_icmp_ge C dX6_isBetter_57 (tgt := 64) (by decide) (fun hc_8 => ?_) (fun hc_8 => ?_)
      · replace h := (if_pos hc_8).symm.trans h
        refine g_iconst (v := (nI 0)) C dX6_isBetter_64 (by decide) ?_
        refine g_goto C dX6_isBetter_65 (tgt := 84) (by decide) ?_
        obtain rfl := Option.some.inj h
        exact g_iret rfl C hr (z_nb (Or.inl rfl)) dX6_isBetter_84
      · replace h := (if_neg hc_8).symm.trans h
        refine g_iconst (v := (nI 1)) C dX6_isBetter_60 (by decide) ?_
        refine g_goto C dX6_isBetter_61 (tgt := 84) (by decide) ?_
        obtain rfl := Option.some.inj h
        exact g_iret rfl C hr (z_nb (Or.inr rfl)) dX6_isBetter_84
  · replace h := (if_neg hc_5).symm.trans h
    refine g_aload_n (j := 0) C dX6_isBetter_13 rfl rfl ?_
    refine g_iload_n (j := 1) C dX6_isBetter_14 rfl rfl ?_
    obtain ⟨q_9, hq_10, h⟩ := bind_isome h
    refine g_vi (ws' := (zW cy ad shM E X)) (As := [.int v1]) (rest := []) (res := q_9) C (c_X6_lengthOf l D cy ad E X v1 hq_10) zml_RX6_119 zcv_X6_lengthOf (zW_get X sM_0) rfl rfl rfl ⟨Nat.le_of_ble_eq_true rfl, Nat.le_of_ble_eq_true rfl⟩ rfl rfl (Nat.le_of_ble_eq_true rfl) ⟨Nat.zero_le _, Nat.zero_le _⟩ dX6_isBetter_15 ?_
    refine g_aload_n (j := 0) C dX6_isBetter_18 rfl rfl ?_
    refine g_iload_n (j := 2) C dX6_isBetter_19 rfl rfl ?_
    obtain ⟨q_11, hq_12, h⟩ := bind_isome h
    refine g_vi (ws' := (zW cy ad shM E X)) (As := [.int v2]) (rest := [.int q_9]) (res := q_11) C (c_X6_lengthOf l D cy ad E X v2 hq_12) zml_RX6_119 zcv_X6_lengthOf (zW_get X sM_0) rfl rfl rfl ⟨Nat.le_of_ble_eq_true rfl, Nat.le_of_ble_eq_true rfl⟩ rfl rfl (Nat.le_of_ble_eq_true rfl) ⟨Nat.zero_le _, Nat.zero_le _⟩ dX6_isBetter_20 ?_
    refine g_icmp_le C dX6_isBetter_23 (tgt := 30) (by decide) (fun hc_13 => ?_) (fun hc_13 => ?_)
    · replace h := (if_pos hc_13).symm.trans h
      refine g_iconst (v := (nI 0)) C dX6_isBetter_30 (by decide) ?_
      obtain rfl := Option.some.inj h
      exact g_iret rfl C hr (z_nb (Or.inl rfl)) dX6_isBetter_31
    · replace h := (if_neg hc_13).symm.trans h
      refine g_iconst (v := (nI 1)) C dX6_isBetter_26 (by decide) ?_
      refine g_goto C dX6_isBetter_27 (tgt := 31) (by decide) ?_
      obtain rfl := Option.some.inj h
      exact g_iret rfl C hr (z_nb (Or.inr rfl)) dX6_isBetter_31
def f_X6_bestReel_L5 (k : Int32 → Option Int32) (X : Nat → Nat → Int32) (v1 : Int32) (v2 : Int32) : Nat → Int32 → Int32 → Option Int32
  | 0, _, _ => none
  | fu + 1, v3, v4 => (if (X 1 (nI 3).toNatClampNeg) ≤ v4 then k v3 else ((f_X6_doesFit X v4 v1 v2).bind fun q_1002 => (if q_1002 = 0 then f_X6_bestReel_L5 k X v1 v2 fu (v3 ||| (nI 0)) (v4 + 1) else f_X6_bestReel_L5 k X v1 v2 fu (v3 ||| ((nI 1) <<< (v4 &&& 31))) (v4 + 1))))
set_option maxRecDepth 100000 in
set_option maxHeartbeats 4000000 in
theorem w_X6_bestReel_L5 {p : Program} {e : Env} {s : State} {m : MethodId} {args : Array Value} {below : List Frame} {meth : Method} {c : Code} {A : Nat → Prop} (l : Launch) (D : va_G) (cy : Nat → ClassId) (ad : Nat → Nat) (E : va_W) (k : Int32 → Option Int32) (X : Nat → Nat → Int32) (v1 : Int32) (v2 : Int32) {res : Int32} (C : zC p s m args meth c cX6_bestReel 6 RX6 D (zTy cy) A) (hr : meth.sig.returnType = (some .int)) : ∀ (fu : Nat) (v3 v4 : Int32) (h : f_X6_bestReel_L5 k X v1 v2 fu v3 v4 = some res) (hk : ∀ (v3 : Int32), k v3 = some res → zG p l e (zrm 4) s m args below meth c 6 D A 0 0 (MQ below (va_Qi (fun (r : Int32) (_ : Unit) => r = res) (fun _ t => zB D (zTy cy) A (zW cy ad shM E X) t) A) args s 0 0 A) (zW cy ad shM E X) 44 [(0, .ref (ad 0)), (3, .int v3)] []), zG p l e (zrm 4) s m args below meth c 6 D A 0 0 (MQ below (va_Qi (fun (r : Int32) (_ : Unit) => r = res) (fun _ t => zB D (zTy cy) A (zW cy ad shM E X) t) A) args s 0 0 A) (zW cy ad shM E X) 5 [(0, .ref (ad 0)), (1, .int v1), (2, .int v2), (3, .int v3), (4, .int v4)] [] := by
  intro fu
  induction fu with
  | zero => intro v3 v4 h hk; simp [f_X6_bestReel_L5] at h
  | succ fu ih =>
    intro v3 v4 h hk
    rw [f_X6_bestReel_L5] at h
    refine g_iload (j := 4) C dX6_bestReel_5 rfl ?_
    refine g_aload_n (j := 0) C dX6_bestReel_7 rfl rfl ?_
    refine g_getr (k := 1) (N := 27) C sM_0 rfl zin_RX6 (by decide) rfl zfl_RX6_9 rfl dX6_bestReel_8 ?_
    refine g_iconst (v := (nI 3)) C dX6_bestReel_11 (by decide) ?_
    refine g_iald C sM_1 (by decide) dX6_bestReel_12 ?_
    refine g_icmp_ge C dX6_bestReel_13 (tgt := 44) (by decide) (fun hc_1001 => ?_) (fun hc_1001 => ?_)
    · replace h := (if_pos hc_1001).symm.trans h
      refine zG_sub (L' := [(0, .ref (ad 0)), (3, .int v3)]) [0, 3] rfl ?_
      exact hk v3 h
    · replace h := (if_neg hc_1001).symm.trans h
      refine g_iload_n (j := 3) C dX6_bestReel_16 rfl rfl ?_
      refine g_aload_n (j := 0) C dX6_bestReel_17 rfl rfl ?_
      refine g_iload (j := 4) C dX6_bestReel_18 rfl ?_
      refine g_iload_n (j := 1) C dX6_bestReel_20 rfl rfl ?_
      refine g_iload_n (j := 2) C dX6_bestReel_21 rfl rfl ?_
      obtain ⟨q_1002, hq_1003, h⟩ := bind_isome h
      refine g_vi (ws' := (zW cy ad shM E X)) (As := [.int v4, .int v1, .int v2]) (rest := [.int v3]) (res := q_1002) C (c_X6_doesFit l D cy ad E X v4 v1 v2 hq_1003) zml_RX6_116 zcv_X6_doesFit (zW_get X sM_0) rfl rfl rfl ⟨Nat.le_of_ble_eq_true rfl, Nat.le_of_ble_eq_true rfl⟩ rfl rfl (Nat.le_of_ble_eq_true rfl) ⟨Nat.zero_le _, Nat.zero_le _⟩ dX6_bestReel_22 ?_
      refine g_if_eq C dX6_bestReel_25 (tgt := 35) (by decide) (fun hc_1004 => ?_) (fun hc_1004 => ?_)
      · replace h := (if_pos hc_1004).symm.trans h
        refine g_iconst (v := (nI 0)) C dX6_bestReel_35 (by decide) ?_
        refine g_ior C dX6_bestReel_36 ?_
        refine g_istore_n (L' := [(3, .int (v3 ||| (nI 0))), (0, .ref (ad 0)), (1, .int v1), (2, .int v2), (4, .int v4)]) C dX6_bestReel_37 rfl (by decide) rfl ?_
        refine g_iinc (k := 4) (L' := [(4, .int (v4 + 1)), (3, .int (v3 ||| (nI 0))), (0, .ref (ad 0)), (1, .int v1), (2, .int v2)]) C dX6_bestReel_38 rfl (z_iinc (by decide)) (by decide) rfl ?_
        refine g_goto C dX6_bestReel_41 (tgt := 5) (by decide) ?_
        refine zG_sub (L' := [(0, .ref (ad 0)), (1, .int v1), (2, .int v2), (3, .int (v3 ||| (nI 0))), (4, .int (v4 + 1))]) [2, 3, 4, 1, 0] rfl ?_
        exact ih (v3 ||| (nI 0)) (v4 + 1) h hk
      · replace h := (if_neg hc_1004).symm.trans h
        refine g_iconst (v := (nI 1)) C dX6_bestReel_28 (by decide) ?_
        refine g_iload (j := 4) C dX6_bestReel_29 rfl ?_
        refine g_ishl C dX6_bestReel_31 ?_
        refine g_goto C dX6_bestReel_32 (tgt := 36) (by decide) ?_
        refine g_ior C dX6_bestReel_36 ?_
        refine g_istore_n (L' := [(3, .int (v3 ||| ((nI 1) <<< (v4 &&& 31)))), (0, .ref (ad 0)), (1, .int v1), (2, .int v2), (4, .int v4)]) C dX6_bestReel_37 rfl (by decide) rfl ?_
        refine g_iinc (k := 4) (L' := [(4, .int (v4 + 1)), (3, .int (v3 ||| ((nI 1) <<< (v4 &&& 31)))), (0, .ref (ad 0)), (1, .int v1), (2, .int v2)]) C dX6_bestReel_38 rfl (z_iinc (by decide)) (by decide) rfl ?_
        refine g_goto C dX6_bestReel_41 (tgt := 5) (by decide) ?_
        refine zG_sub (L' := [(0, .ref (ad 0)), (1, .int v1), (2, .int v2), (3, .int (v3 ||| ((nI 1) <<< (v4 &&& 31)))), (4, .int (v4 + 1))]) [2, 3, 4, 1, 0] rfl ?_
        exact ih (v3 ||| ((nI 1) <<< (v4 &&& 31))) (v4 + 1) h hk
def f_X6_bestReel_L50 (X : Nat → Nat → Int32) (v3 : Int32) : Nat → Int32 → Int32 → Option Int32
  | 0, _, _ => none
  | fu + 1, v4, v5 => (if ((nI 1) <<< ((X 1 (nI 3).toNatClampNeg) &&& 31)) ≤ v5 then some v4 else (if (v5 &&& (v3 ^^^ (-1 : Int32))) = 0 then (if (nI 4) < (f_J6_bitCount_0f7a4 v5) then f_X6_bestReel_L50 X v3 fu v4 (v5 + 1) else ((f_X6_lengthOf X v5).bind fun q_2009 => (if (X 1 (nI 11).toNatClampNeg) < q_2009 then f_X6_bestReel_L50 X v3 fu v4 (v5 + 1) else ((f_X6_isBetter X v5 v4).bind fun q_2012 => (if q_2012 = 0 then f_X6_bestReel_L50 X v3 fu v4 (v5 + 1) else f_X6_bestReel_L50 X v3 fu v5 (v5 + 1)))))) else f_X6_bestReel_L50 X v3 fu v4 (v5 + 1)))
set_option maxRecDepth 100000 in
set_option maxHeartbeats 4000000 in
theorem w_X6_bestReel_L50 {p : Program} {e : Env} {s : State} {m : MethodId} {args : Array Value} {below : List Frame} {meth : Method} {c : Code} {A : Nat → Prop} (l : Launch) (D : va_G) (cy : Nat → ClassId) (ad : Nat → Nat) (E : va_W) (X : Nat → Nat → Int32) (v3 : Int32) {res : Int32} (C : zC p s m args meth c cX6_bestReel 6 RX6 D (zTy cy) A) (hr : meth.sig.returnType = (some .int)) : ∀ (fu : Nat) (v4 v5 : Int32) (h : f_X6_bestReel_L50 X v3 fu v4 v5 = some res), zG p l e (zrm 4) s m args below meth c 6 D A 0 0 (MQ below (va_Qi (fun (r : Int32) (_ : Unit) => r = res) (fun _ t => zB D (zTy cy) A (zW cy ad shM E X) t) A) args s 0 0 A) (zW cy ad shM E X) 50 [(0, .ref (ad 0)), (3, .int v3), (4, .int v4), (5, .int v5)] [] := by
  intro fu
  induction fu with
  | zero => intro v4 v5 h; simp [f_X6_bestReel_L50] at h
  | succ fu ih =>
    intro v4 v5 h
    rw [f_X6_bestReel_L50] at h
    refine g_iload (j := 3) C dX6_bestReel_50 rfl ?_
    refine g_iconst (v := (nI 1)) C dX6_bestReel_52 (by decide) ?_
    refine g_aload_n (j := 0) C dX6_bestReel_53 rfl rfl ?_
    refine g_getr (k := 1) (N := 27) C sM_0 rfl zin_RX6 (by decide) rfl zfl_RX6_9 rfl dX6_bestReel_54 ?_
    refine g_iconst (v := (nI 3)) C dX6_bestReel_57 (by decide) ?_
    refine g_iald C sM_1 (by decide) dX6_bestReel_58 ?_
    refine g_ishl C dX6_bestReel_59 ?_
    refine g_icmp_ge C dX6_bestReel_60 (tgt := 118) (by decide) (fun hc_2006 => ?_) (fun hc_2006 => ?_)
    · replace h := (if_pos hc_2006).symm.trans h
      refine g_iload (j := 2) C dX6_bestReel_118 rfl ?_
      obtain rfl := Option.some.inj h
      exact g_iret rfl C hr rfl dX6_bestReel_120
    · replace h := (if_neg hc_2006).symm.trans h
      refine g_iload (j := 3) C dX6_bestReel_63 rfl ?_
      refine g_iload_n (j := 1) C dX6_bestReel_65 rfl rfl ?_
      refine g_iconst (v := (-1 : Int32)) C dX6_bestReel_66 (by decide) ?_
      refine g_ixor C dX6_bestReel_67 ?_
      refine g_iand C dX6_bestReel_68 ?_
      refine g_if_ne C dX6_bestReel_69 (tgt := 112) (by decide) (fun hc_2007 => ?_) (fun hc_2007 => ?_)
      · replace h := (if_neg hc_2007).symm.trans h
        refine g_iinc (k := 3) (L' := [(5, .int (v5 + 1)), (0, .ref (ad 0)), (3, .int v3), (4, .int v4)]) C dX6_bestReel_112 rfl (z_iinc (by decide)) (by decide) rfl ?_
        refine g_goto C dX6_bestReel_115 (tgt := 50) (by decide) ?_
        refine zG_sub (L' := [(0, .ref (ad 0)), (3, .int v3), (4, .int v4), (5, .int (v5 + 1))]) [1, 2, 3, 0] rfl ?_
        exact ih v4 (v5 + 1) h
      · replace h := (if_pos hc_2007).symm.trans h
        refine g_iload (j := 3) C dX6_bestReel_72 rfl ?_
        refine g_si (ws' := (zW cy ad shM E X)) (As := [.int v5]) (rest := []) (res := (f_J6_bitCount_0f7a4 v5)) C (c_J6_bitCount_0f7a4 l D cy (zW cy ad shM E X) v5) zml_RX6_122 zcs_J6_bitCount_0f7a4 rfl rfl ⟨Nat.le_of_ble_eq_true rfl, Nat.le_of_ble_eq_true rfl⟩ rfl rfl (Nat.le_of_ble_eq_true rfl) ⟨Nat.zero_le _, Nat.zero_le _⟩ dX6_bestReel_74 ?_
        refine g_iconst (v := (nI 4)) C dX6_bestReel_77 (by decide) ?_
        refine g_icmp_gt C dX6_bestReel_78 (tgt := 112) (by decide) (fun hc_2008 => ?_) (fun hc_2008 => ?_)
        · replace h := (if_pos hc_2008).symm.trans h
          refine g_iinc (k := 3) (L' := [(5, .int (v5 + 1)), (0, .ref (ad 0)), (3, .int v3), (4, .int v4)]) C dX6_bestReel_112 rfl (z_iinc (by decide)) (by decide) rfl ?_
          refine g_goto C dX6_bestReel_115 (tgt := 50) (by decide) ?_
          refine zG_sub (L' := [(0, .ref (ad 0)), (3, .int v3), (4, .int v4), (5, .int (v5 + 1))]) [1, 2, 3, 0] rfl ?_
          exact ih v4 (v5 + 1) h
        · replace h := (if_neg hc_2008).symm.trans h
          refine g_aload_n (j := 0) C dX6_bestReel_81 rfl rfl ?_
          refine g_iload (j := 3) C dX6_bestReel_82 rfl ?_
          obtain ⟨q_2009, hq_2010, h⟩ := bind_isome h
          refine g_vi (ws' := (zW cy ad shM E X)) (As := [.int v5]) (rest := []) (res := q_2009) C (c_X6_lengthOf l D cy ad E X v5 hq_2010) zml_RX6_119 zcv_X6_lengthOf (zW_get X sM_0) rfl rfl rfl ⟨Nat.le_of_ble_eq_true rfl, Nat.le_of_ble_eq_true rfl⟩ rfl rfl (Nat.le_of_ble_eq_true rfl) ⟨Nat.zero_le _, Nat.zero_le _⟩ dX6_bestReel_84 ?_
          refine g_aload_n (j := 0) C dX6_bestReel_87 rfl rfl ?_
          refine g_getr (k := 1) (N := 27) C sM_0 rfl zin_RX6 (by decide) rfl zfl_RX6_9 rfl dX6_bestReel_88 ?_
          refine g_bipush (v := (nI 11)) C dX6_bestReel_91 (by decide) ?_
          refine g_iald C sM_1 (by decide) dX6_bestReel_93 ?_
          refine g_icmp_gt C dX6_bestReel_94 (tgt := 112) (by decide) (fun hc_2011 => ?_) (fun hc_2011 => ?_)
          · replace h := (if_pos hc_2011).symm.trans h
            refine g_iinc (k := 3) (L' := [(5, .int (v5 + 1)), (0, .ref (ad 0)), (3, .int v3), (4, .int v4)]) C dX6_bestReel_112 rfl (z_iinc (by decide)) (by decide) rfl ?_
            refine g_goto C dX6_bestReel_115 (tgt := 50) (by decide) ?_
            refine zG_sub (L' := [(0, .ref (ad 0)), (3, .int v3), (4, .int v4), (5, .int (v5 + 1))]) [1, 2, 3, 0] rfl ?_
            exact ih v4 (v5 + 1) h
          · replace h := (if_neg hc_2011).symm.trans h
            refine g_aload_n (j := 0) C dX6_bestReel_97 rfl rfl ?_
            refine g_iload (j := 3) C dX6_bestReel_98 rfl ?_
            refine g_iload (j := 2) C dX6_bestReel_100 rfl ?_
            obtain ⟨q_2012, hq_2013, h⟩ := bind_isome h
            refine g_vi (ws' := (zW cy ad shM E X)) (As := [.int v5, .int v4]) (rest := []) (res := q_2012) C (c_X6_isBetter l D cy ad E X v5 v4 hq_2013) zml_RX6_127 zcv_X6_isBetter (zW_get X sM_0) rfl rfl rfl ⟨Nat.le_of_ble_eq_true rfl, Nat.le_of_ble_eq_true rfl⟩ rfl rfl (Nat.le_of_ble_eq_true rfl) ⟨Nat.zero_le _, Nat.zero_le _⟩ dX6_bestReel_102 ?_
            refine g_if_eq C dX6_bestReel_105 (tgt := 112) (by decide) (fun hc_2014 => ?_) (fun hc_2014 => ?_)
            · replace h := (if_pos hc_2014).symm.trans h
              refine g_iinc (k := 3) (L' := [(5, .int (v5 + 1)), (0, .ref (ad 0)), (3, .int v3), (4, .int v4)]) C dX6_bestReel_112 rfl (z_iinc (by decide)) (by decide) rfl ?_
              refine g_goto C dX6_bestReel_115 (tgt := 50) (by decide) ?_
              refine zG_sub (L' := [(0, .ref (ad 0)), (3, .int v3), (4, .int v4), (5, .int (v5 + 1))]) [1, 2, 3, 0] rfl ?_
              exact ih v4 (v5 + 1) h
            · replace h := (if_neg hc_2014).symm.trans h
              refine g_iload (j := 3) C dX6_bestReel_108 rfl ?_
              refine g_istore (L' := [(4, .int v5), (0, .ref (ad 0)), (3, .int v3), (5, .int v5)]) C dX6_bestReel_110 (by decide) rfl ?_
              refine g_iinc (k := 3) (L' := [(5, .int (v5 + 1)), (4, .int v5), (0, .ref (ad 0)), (3, .int v3)]) C dX6_bestReel_112 rfl (z_iinc (by decide)) (by decide) rfl ?_
              refine g_goto C dX6_bestReel_115 (tgt := 50) (by decide) ?_
              refine zG_sub (L' := [(0, .ref (ad 0)), (3, .int v3), (4, .int v5), (5, .int (v5 + 1))]) [2, 3, 1, 0] rfl ?_
              exact ih v5 (v5 + 1) h
def f_X6_bestReel (X : Nat → Nat → Int32) (v1 v2 : Int32) : Option Int32 := f_X6_bestReel_L5 (fun v3_1005 => f_X6_bestReel_L50 X v3_1005 zFuel (nI 0) (nI 1)) X v1 v2 zFuel (nI 0) (nI 0)
set_option maxRecDepth 100000 in
set_option maxHeartbeats 4000000 in
theorem c_X6_bestReel (l : Launch) (D : va_G) (cy : Nat → ClassId) (ad : Nat → Nat) (E : va_W) (X : Nat → Nat → Int32) (v1 v2 : Int32) {res : Int32} (h : f_X6_bestReel X v1 v2 = some res) : zMi l yX6_bestReel cX6_bestReel 6 (some .int) (zrm 4) D (zTy cy) (zW cy ad shM E X) [.ref (ad 0), .int v1, .int v2] res (zW cy ad shM E X) := by
  refine zMi.of (by decide) (Nat.le_of_ble_eq_true rfl) ?_
  intro p e s m below meth c A C hr
  unfold f_X6_bestReel at h
  refine zG_L (L' := [(0, .ref (ad 0)), (1, .int v1), (2, .int v2)]) rfl ?_
  refine g_iconst (v := (nI 0)) C dX6_bestReel_0 (by decide) ?_
  refine g_istore_n (L' := [(3, .int (nI 0)), (0, .ref (ad 0)), (1, .int v1), (2, .int v2)]) C dX6_bestReel_1 rfl (by decide) rfl ?_
  refine g_iconst (v := (nI 0)) C dX6_bestReel_2 (by decide) ?_
  refine g_istore (L' := [(4, .int (nI 0)), (3, .int (nI 0)), (0, .ref (ad 0)), (1, .int v1), (2, .int v2)]) C dX6_bestReel_3 (by decide) rfl ?_
  refine zG_sub (L' := [(0, .ref (ad 0)), (1, .int v1), (2, .int v2), (3, .int (nI 0)), (4, .int (nI 0))]) [2, 3, 4, 1, 0] rfl ?_
  refine w_X6_bestReel_L5 l D cy ad E _ X v1 v2 C hr zFuel (nI 0) (nI 0) h ?_
  intro v3_1005 h
  refine g_iconst (v := (nI 0)) C dX6_bestReel_44 (by decide) ?_
  refine g_istore (L' := [(4, .int (nI 0)), (0, .ref (ad 0)), (3, .int v3_1005)]) C dX6_bestReel_45 (by decide) rfl ?_
  refine g_iconst (v := (nI 1)) C dX6_bestReel_47 (by decide) ?_
  refine g_istore (L' := [(5, .int (nI 1)), (4, .int (nI 0)), (0, .ref (ad 0)), (3, .int v3_1005)]) C dX6_bestReel_48 (by decide) rfl ?_
  refine zG_sub (L' := [(0, .ref (ad 0)), (3, .int v3_1005), (4, .int (nI 0)), (5, .int (nI 1))]) [2, 3, 1, 0] rfl ?_
  exact w_X6_bestReel_L50 l D cy ad E X v3_1005 C hr zFuel (nI 0) (nI 1) h
def f_X6_reel (X : Nat → Nat → Int32) (v1 v2 v3 : Int32) : Option (Int32 × (Nat → Nat → Int32)) := (if (f_X6_isFilm X v1) = 0 then (zlet (f_X6_fails X (nI 1)) fun q_14 => some (q_14.1, q_14.2)) else (if (f_X6_isDay v2) = 0 then (zlet (f_X6_fails X (nI 2)) fun q_12 => some (q_12.1, q_12.2)) else ((f_X6_bestReel X v1 v2).bind fun q_3 => (if v3 = 0 then (zlet (f_X6_done X q_3) fun q_6 => some (q_6.1, q_6.2)) else ((f_X6_lengthOf X q_3).bind fun q_8 => (zlet (f_X6_done X q_8) fun q_10 => some (q_10.1, q_10.2)))))))
set_option maxRecDepth 100000 in
set_option maxHeartbeats 4000000 in
theorem c_X6_reel (l : Launch) (D : va_G) (cy : Nat → ClassId) (ad : Nat → Nat) (E : va_W) (X : Nat → Nat → Int32) (v1 v2 v3 : Int32) {res : Int32 × (Nat → Nat → Int32)} (h : f_X6_reel X v1 v2 v3 = some res) : zMi l yX6_reel cX6_reel 5 (some .int) (zrm 5) D (zTy cy) (zW cy ad shM E X) [.ref (ad 0), .int v1, .int v2, .int v3] res.1 (zW cy ad shM E res.2) := by
  refine zMi.of (by decide) (Nat.le_of_ble_eq_true rfl) ?_
  intro p e s m below meth c A C hr
  unfold f_X6_reel at h
  refine zG_L (L' := [(0, .ref (ad 0)), (1, .int v1), (2, .int v2), (3, .int v3)]) rfl ?_
  refine g_aload_n (j := 0) C dX6_reel_0 rfl rfl ?_
  refine g_iload_n (j := 1) C dX6_reel_1 rfl rfl ?_
  refine g_vi (ws' := (zW cy ad shM E X)) (As := [.int v1]) (rest := []) (res := (f_X6_isFilm X v1)) C (c_X6_isFilm l D cy ad E X v1) zml_RX6_78 zcv_X6_isFilm (zW_get X sM_0) rfl rfl rfl ⟨Nat.le_of_ble_eq_true rfl, Nat.le_of_ble_eq_true rfl⟩ rfl rfl (Nat.le_of_ble_eq_true rfl) ⟨Nat.zero_le _, Nat.zero_le _⟩ dX6_reel_2 ?_
  refine g_if_ne C dX6_reel_5 (tgt := 14) (by decide) (fun hc_1 => ?_) (fun hc_1 => ?_)
  · replace h := (if_neg hc_1).symm.trans h
    refine g_iload_n (j := 2) C dX6_reel_14 rfl rfl ?_
    refine g_si (ws' := (zW cy ad shM E X)) (As := [.int v2]) (rest := []) (res := (f_X6_isDay v2)) C (c_X6_isDay l D cy (zW cy ad shM E X) v2) zml_RX6_74 zcs_X6_isDay rfl rfl ⟨Nat.le_of_ble_eq_true rfl, Nat.le_of_ble_eq_true rfl⟩ rfl rfl (Nat.le_of_ble_eq_true rfl) ⟨Nat.zero_le _, Nat.zero_le _⟩ dX6_reel_15 ?_
    refine g_if_ne C dX6_reel_18 (tgt := 27) (by decide) (fun hc_2 => ?_) (fun hc_2 => ?_)
    · replace h := (if_neg hc_2).symm.trans h
      refine g_aload_n (j := 0) C dX6_reel_27 rfl rfl ?_
      refine g_iload_n (j := 1) C dX6_reel_28 rfl rfl ?_
      refine g_iload_n (j := 2) C dX6_reel_29 rfl rfl ?_
      obtain ⟨q_3, hq_4, h⟩ := bind_isome h
      refine g_vi (ws' := (zW cy ad shM E X)) (As := [.int v1, .int v2]) (rest := []) (res := q_3) C (c_X6_bestReel l D cy ad E X v1 v2 hq_4) zml_RX6_130 zcv_X6_bestReel (zW_get X sM_0) rfl rfl rfl ⟨Nat.le_of_ble_eq_true rfl, Nat.le_of_ble_eq_true rfl⟩ rfl rfl (Nat.le_of_ble_eq_true rfl) ⟨Nat.zero_le _, Nat.zero_le _⟩ dX6_reel_30 ?_
      refine g_istore (L' := [(4, .int q_3), (0, .ref (ad 0)), (1, .int v1), (2, .int v2), (3, .int v3)]) C dX6_reel_33 (by decide) rfl ?_
      refine g_aload_n (j := 1) C dX6_reel_35 rfl rfl ?_
      refine g_iload_n (j := 4) C dX6_reel_36 rfl rfl ?_
      refine g_if_eq C dX6_reel_37 (tgt := 49) (by decide) (fun hc_5 => ?_) (fun hc_5 => ?_)
      · replace h := (if_pos hc_5).symm.trans h
        refine g_iload (j := 0) C dX6_reel_49 rfl ?_
        obtain ⟨q_6, e_7, h⟩ := zlet_ex h
        refine g_vi (ws' := (zW cy ad shM E q_6.2)) (As := [.int q_3]) (rest := []) (res := q_6.1) C ((by rw [e_7]; exact c_X6_done l D cy ad E X q_3)) zml_RX6_71 zcv_X6_done (zW_get X sM_0) rfl rfl rfl ⟨Nat.le_of_ble_eq_true rfl, Nat.le_of_ble_eq_true rfl⟩ rfl rfl (Nat.le_of_ble_eq_true rfl) ⟨Nat.zero_le _, Nat.zero_le _⟩ dX6_reel_51 ?_
        obtain rfl := Option.some.inj h
        exact g_iret rfl C hr rfl dX6_reel_54
      · replace h := (if_neg hc_5).symm.trans h
        refine g_aload_n (j := 1) C dX6_reel_40 rfl rfl ?_
        refine g_iload (j := 0) C dX6_reel_41 rfl ?_
        obtain ⟨q_8, hq_9, h⟩ := bind_isome h
        refine g_vi (ws' := (zW cy ad shM E X)) (As := [.int q_3]) (rest := [.ref (ad 0)]) (res := q_8) C (c_X6_lengthOf l D cy ad E X q_3 hq_9) zml_RX6_119 zcv_X6_lengthOf (zW_get X sM_0) rfl rfl rfl ⟨Nat.le_of_ble_eq_true rfl, Nat.le_of_ble_eq_true rfl⟩ rfl rfl (Nat.le_of_ble_eq_true rfl) ⟨Nat.zero_le _, Nat.zero_le _⟩ dX6_reel_43 ?_
        refine g_goto C dX6_reel_46 (tgt := 51) (by decide) ?_
        obtain ⟨q_10, e_11, h⟩ := zlet_ex h
        refine g_vi (ws' := (zW cy ad shM E q_10.2)) (As := [.int q_8]) (rest := []) (res := q_10.1) C ((by rw [e_11]; exact c_X6_done l D cy ad E X q_8)) zml_RX6_71 zcv_X6_done (zW_get X sM_0) rfl rfl rfl ⟨Nat.le_of_ble_eq_true rfl, Nat.le_of_ble_eq_true rfl⟩ rfl rfl (Nat.le_of_ble_eq_true rfl) ⟨Nat.zero_le _, Nat.zero_le _⟩ dX6_reel_51 ?_
        obtain rfl := Option.some.inj h
        exact g_iret rfl C hr rfl dX6_reel_54
    · replace h := (if_pos hc_2).symm.trans h
      refine g_aload_n (j := 0) C dX6_reel_21 rfl rfl ?_
      refine g_iconst (v := (nI 2)) C dX6_reel_22 (by decide) ?_
      obtain ⟨q_12, e_13, h⟩ := zlet_ex h
      refine g_vi (ws' := (zW cy ad shM E q_12.2)) (As := [.int (nI 2)]) (rest := []) (res := q_12.1) C ((by rw [e_13]; exact c_X6_fails l D cy ad E X (nI 2))) zml_RX6_45 zcv_X6_fails (zW_get X sM_0) rfl rfl rfl ⟨Nat.le_of_ble_eq_true rfl, Nat.le_of_ble_eq_true rfl⟩ rfl rfl (Nat.le_of_ble_eq_true rfl) ⟨Nat.zero_le _, Nat.zero_le _⟩ dX6_reel_23 ?_
      obtain rfl := Option.some.inj h
      exact g_iret rfl C hr rfl dX6_reel_26
  · replace h := (if_pos hc_1).symm.trans h
    refine g_aload_n (j := 0) C dX6_reel_8 rfl rfl ?_
    refine g_iconst (v := (nI 1)) C dX6_reel_9 (by decide) ?_
    obtain ⟨q_14, e_15, h⟩ := zlet_ex h
    refine g_vi (ws' := (zW cy ad shM E q_14.2)) (As := [.int (nI 1)]) (rest := []) (res := q_14.1) C ((by rw [e_15]; exact c_X6_fails l D cy ad E X (nI 1))) zml_RX6_45 zcv_X6_fails (zW_get X sM_0) rfl rfl rfl ⟨Nat.le_of_ble_eq_true rfl, Nat.le_of_ble_eq_true rfl⟩ rfl rfl (Nat.le_of_ble_eq_true rfl) ⟨Nat.zero_le _, Nat.zero_le _⟩ dX6_reel_10 ?_
    obtain rfl := Option.some.inj h
    exact g_iret rfl C hr rfl dX6_reel_13
def f_X6_isOther (X : Nat → Nat → Int32) (v1 : Int32) : Option Int32 := (if v1 = (X 0 20) then some (nI 0) else ((f_X6_stands X v1).bind fun q_2 => (if q_2 = 0 then some (nI 0) else ((f_X6_showAt X v1 (nI 2)).bind fun q_5 => (if q_5 = (X 0 17) then some (nI 1) else some (nI 0))))))
set_option maxRecDepth 100000 in
set_option maxHeartbeats 4000000 in
theorem c_X6_isOther (l : Launch) (D : va_G) (cy : Nat → ClassId) (ad : Nat → Nat) (E : va_W) (X : Nat → Nat → Int32) (v1 : Int32) {res : Int32} (h : f_X6_isOther X v1 = some res) : zMi l yX6_isOther cX6_isOther 2 (some .boolean) (zrm 3) D (zTy cy) (zW cy ad shM E X) [.ref (ad 0), .int v1] res (zW cy ad shM E X) := by
  refine zMi.of (by decide) (Nat.le_of_ble_eq_true rfl) ?_
  intro p e s m below meth c A C hr
  unfold f_X6_isOther at h
  refine zG_L (L' := [(0, .ref (ad 0)), (1, .int v1)]) rfl ?_
  refine g_iload_n (j := 1) C dX6_isOther_0 rfl rfl ?_
  refine g_aload_n (j := 0) C dX6_isOther_1 rfl rfl ?_
  refine g_geti (k := 20) (N := 27) C sM_0 rfl zin_RX6 (by decide) rfl zfl_RX6_133 rfl dX6_isOther_2 ?_
  refine g_icmp_eq C dX6_isOther_5 (tgt := 33) (by decide) (fun hc_1 => ?_) (fun hc_1 => ?_)
  · replace h := (if_pos hc_1).symm.trans h
    refine g_iconst (v := (nI 0)) C dX6_isOther_33 (by decide) ?_
    obtain rfl := Option.some.inj h
    exact g_iret rfl C hr (z_nb (Or.inl rfl)) dX6_isOther_34
  · replace h := (if_neg hc_1).symm.trans h
    refine g_aload_n (j := 0) C dX6_isOther_8 rfl rfl ?_
    refine g_iload_n (j := 1) C dX6_isOther_9 rfl rfl ?_
    obtain ⟨q_2, hq_3, h⟩ := bind_isome h
    refine g_vi (ws' := (zW cy ad shM E X)) (As := [.int v1]) (rest := []) (res := q_2) C (c_X6_stands l D cy ad E X v1 hq_3) zml_RX6_107 zcv_X6_stands (zW_get X sM_0) rfl rfl rfl ⟨Nat.le_of_ble_eq_true rfl, Nat.le_of_ble_eq_true rfl⟩ rfl rfl (Nat.le_of_ble_eq_true rfl) ⟨Nat.zero_le _, Nat.zero_le _⟩ dX6_isOther_10 ?_
    refine g_if_eq C dX6_isOther_13 (tgt := 33) (by decide) (fun hc_4 => ?_) (fun hc_4 => ?_)
    · replace h := (if_pos hc_4).symm.trans h
      refine g_iconst (v := (nI 0)) C dX6_isOther_33 (by decide) ?_
      obtain rfl := Option.some.inj h
      exact g_iret rfl C hr (z_nb (Or.inl rfl)) dX6_isOther_34
    · replace h := (if_neg hc_4).symm.trans h
      refine g_aload_n (j := 0) C dX6_isOther_16 rfl rfl ?_
      refine g_iload_n (j := 1) C dX6_isOther_17 rfl rfl ?_
      refine g_iconst (v := (nI 2)) C dX6_isOther_18 (by decide) ?_
      obtain ⟨q_5, hq_6, h⟩ := bind_isome h
      refine g_vi (ws' := (zW cy ad shM E X)) (As := [.int v1, .int (nI 2)]) (rest := []) (res := q_5) C (c_X6_showAt l D cy ad E X v1 (nI 2) hq_6) zml_RX6_89 zcv_X6_showAt (zW_get X sM_0) rfl rfl rfl ⟨Nat.le_of_ble_eq_true rfl, Nat.le_of_ble_eq_true rfl⟩ rfl rfl (Nat.le_of_ble_eq_true rfl) ⟨Nat.zero_le _, Nat.zero_le _⟩ dX6_isOther_19 ?_
      refine g_aload_n (j := 0) C dX6_isOther_22 rfl rfl ?_
      refine g_geti (k := 17) (N := 27) C sM_0 rfl zin_RX6 (by decide) rfl zfl_RX6_136 rfl dX6_isOther_23 ?_
      refine g_icmp_ne C dX6_isOther_26 (tgt := 33) (by decide) (fun hc_7 => ?_) (fun hc_7 => ?_)
      · replace h := (if_neg hc_7).symm.trans h
        refine g_iconst (v := (nI 0)) C dX6_isOther_33 (by decide) ?_
        obtain rfl := Option.some.inj h
        exact g_iret rfl C hr (z_nb (Or.inl rfl)) dX6_isOther_34
      · replace h := (if_pos hc_7).symm.trans h
        refine g_iconst (v := (nI 1)) C dX6_isOther_29 (by decide) ?_
        refine g_goto C dX6_isOther_30 (tgt := 34) (by decide) ?_
        obtain rfl := Option.some.inj h
        exact g_iret rfl C hr (z_nb (Or.inr rfl)) dX6_isOther_34
def f_X6_meetsInHall_L17 (X : Nat → Nat → Int32) (v1 : Int32) : Nat → Int32 → Option Int32
  | 0, _ => none
  | fu + 1, v2 => (if (X 1 (nI 4).toNatClampNeg) ≤ v2 then some (-1 : Int32) else ((f_X6_isOther X v2).bind fun q_1004 => (if q_1004 = 0 then f_X6_meetsInHall_L17 X v1 fu (v2 + 1) else ((f_X6_showAt X v2 (nI 0)).bind fun q_1007 => (if q_1007 = (X 0 15) then ((f_X6_showAt X v2 (nI 3)).bind fun q_1010 => (if v1 ≤ q_1010 then f_X6_meetsInHall_L17 X v1 fu (v2 + 1) else ((f_X6_endOf X v2).bind fun q_1013 => ((f_X6_cleanOf X v2).bind fun q_1015 => (if (q_1013 + q_1015) ≤ (X 0 18) then f_X6_meetsInHall_L17 X v1 fu (v2 + 1) else some v2))))) else f_X6_meetsInHall_L17 X v1 fu (v2 + 1))))))
set_option maxRecDepth 100000 in
set_option maxHeartbeats 4000000 in
theorem w_X6_meetsInHall_L17 {p : Program} {e : Env} {s : State} {m : MethodId} {args : Array Value} {below : List Frame} {meth : Method} {c : Code} {A : Nat → Prop} (l : Launch) (D : va_G) (cy : Nat → ClassId) (ad : Nat → Nat) (E : va_W) (X : Nat → Nat → Int32) (v1 : Int32) {res : Int32} (C : zC p s m args meth c cX6_meetsInHall 3 RX6 D (zTy cy) A) (hr : meth.sig.returnType = (some .int)) : ∀ (fu : Nat) (v2 : Int32) (h : f_X6_meetsInHall_L17 X v1 fu v2 = some res), zG p l e (zrm 4) s m args below meth c 3 D A 0 0 (MQ below (va_Qi (fun (r : Int32) (_ : Unit) => r = res) (fun _ t => zB D (zTy cy) A (zW cy ad shM E X) t) A) args s 0 0 A) (zW cy ad shM E X) 17 [(0, .ref (ad 0)), (1, .int v1), (2, .int v2)] [] := by
  intro fu
  induction fu with
  | zero => intro v2 h; simp [f_X6_meetsInHall_L17] at h
  | succ fu ih =>
    intro v2 h
    rw [f_X6_meetsInHall_L17] at h
    refine g_iload_n (j := 2) C dX6_meetsInHall_17 rfl rfl ?_
    refine g_aload_n (j := 0) C dX6_meetsInHall_18 rfl rfl ?_
    refine g_getr (k := 1) (N := 27) C sM_0 rfl zin_RX6 (by decide) rfl zfl_RX6_9 rfl dX6_meetsInHall_19 ?_
    refine g_iconst (v := (nI 4)) C dX6_meetsInHall_22 (by decide) ?_
    refine g_iald C sM_1 (by decide) dX6_meetsInHall_23 ?_
    refine g_icmp_ge C dX6_meetsInHall_24 (tgt := 84) (by decide) (fun hc_1003 => ?_) (fun hc_1003 => ?_)
    · replace h := (if_pos hc_1003).symm.trans h
      refine g_iconst (v := (-1 : Int32)) C dX6_meetsInHall_84 (by decide) ?_
      obtain rfl := Option.some.inj h
      exact g_iret rfl C hr rfl dX6_meetsInHall_85
    · replace h := (if_neg hc_1003).symm.trans h
      refine g_aload_n (j := 0) C dX6_meetsInHall_27 rfl rfl ?_
      refine g_iload_n (j := 2) C dX6_meetsInHall_28 rfl rfl ?_
      obtain ⟨q_1004, hq_1005, h⟩ := bind_isome h
      refine g_vi (ws' := (zW cy ad shM E X)) (As := [.int v2]) (rest := []) (res := q_1004) C (c_X6_isOther l D cy ad E X v2 hq_1005) zml_RX6_145 zcv_X6_isOther (zW_get X sM_0) rfl rfl rfl ⟨Nat.le_of_ble_eq_true rfl, Nat.le_of_ble_eq_true rfl⟩ rfl rfl (Nat.le_of_ble_eq_true rfl) ⟨Nat.zero_le _, Nat.zero_le _⟩ dX6_meetsInHall_29 ?_
      refine g_if_eq C dX6_meetsInHall_32 (tgt := 78) (by decide) (fun hc_1006 => ?_) (fun hc_1006 => ?_)
      · replace h := (if_pos hc_1006).symm.trans h
        refine g_iinc (k := 2) (L' := [(2, .int (v2 + 1)), (0, .ref (ad 0)), (1, .int v1)]) C dX6_meetsInHall_78 rfl (z_iinc (by decide)) (by decide) rfl ?_
        refine g_goto C dX6_meetsInHall_81 (tgt := 17) (by decide) ?_
        refine zG_sub (L' := [(0, .ref (ad 0)), (1, .int v1), (2, .int (v2 + 1))]) [1, 2, 0] rfl ?_
        exact ih (v2 + 1) h
      · replace h := (if_neg hc_1006).symm.trans h
        refine g_aload_n (j := 0) C dX6_meetsInHall_35 rfl rfl ?_
        refine g_iload_n (j := 2) C dX6_meetsInHall_36 rfl rfl ?_
        refine g_iconst (v := (nI 0)) C dX6_meetsInHall_37 (by decide) ?_
        obtain ⟨q_1007, hq_1008, h⟩ := bind_isome h
        refine g_vi (ws' := (zW cy ad shM E X)) (As := [.int v2, .int (nI 0)]) (rest := []) (res := q_1007) C (c_X6_showAt l D cy ad E X v2 (nI 0) hq_1008) zml_RX6_89 zcv_X6_showAt (zW_get X sM_0) rfl rfl rfl ⟨Nat.le_of_ble_eq_true rfl, Nat.le_of_ble_eq_true rfl⟩ rfl rfl (Nat.le_of_ble_eq_true rfl) ⟨Nat.zero_le _, Nat.zero_le _⟩ dX6_meetsInHall_38 ?_
        refine g_aload_n (j := 0) C dX6_meetsInHall_41 rfl rfl ?_
        refine g_geti (k := 15) (N := 27) C sM_0 rfl zin_RX6 (by decide) rfl zfl_RX6_142 rfl dX6_meetsInHall_42 ?_
        refine g_icmp_ne C dX6_meetsInHall_45 (tgt := 78) (by decide) (fun hc_1009 => ?_) (fun hc_1009 => ?_)
        · replace h := (if_neg hc_1009).symm.trans h
          refine g_iinc (k := 2) (L' := [(2, .int (v2 + 1)), (0, .ref (ad 0)), (1, .int v1)]) C dX6_meetsInHall_78 rfl (z_iinc (by decide)) (by decide) rfl ?_
          refine g_goto C dX6_meetsInHall_81 (tgt := 17) (by decide) ?_
          refine zG_sub (L' := [(0, .ref (ad 0)), (1, .int v1), (2, .int (v2 + 1))]) [1, 2, 0] rfl ?_
          exact ih (v2 + 1) h
        · replace h := (if_pos hc_1009).symm.trans h
          refine g_aload_n (j := 0) C dX6_meetsInHall_48 rfl rfl ?_
          refine g_iload_n (j := 2) C dX6_meetsInHall_49 rfl rfl ?_
          refine g_iconst (v := (nI 3)) C dX6_meetsInHall_50 (by decide) ?_
          obtain ⟨q_1010, hq_1011, h⟩ := bind_isome h
          refine g_vi (ws' := (zW cy ad shM E X)) (As := [.int v2, .int (nI 3)]) (rest := []) (res := q_1010) C (c_X6_showAt l D cy ad E X v2 (nI 3) hq_1011) zml_RX6_89 zcv_X6_showAt (zW_get X sM_0) rfl rfl rfl ⟨Nat.le_of_ble_eq_true rfl, Nat.le_of_ble_eq_true rfl⟩ rfl rfl (Nat.le_of_ble_eq_true rfl) ⟨Nat.zero_le _, Nat.zero_le _⟩ dX6_meetsInHall_51 ?_
          refine g_iload_n (j := 1) C dX6_meetsInHall_54 rfl rfl ?_
          refine g_icmp_ge C dX6_meetsInHall_55 (tgt := 78) (by decide) (fun hc_1012 => ?_) (fun hc_1012 => ?_)
          · replace h := (if_pos hc_1012).symm.trans h
            refine g_iinc (k := 2) (L' := [(2, .int (v2 + 1)), (0, .ref (ad 0)), (1, .int v1)]) C dX6_meetsInHall_78 rfl (z_iinc (by decide)) (by decide) rfl ?_
            refine g_goto C dX6_meetsInHall_81 (tgt := 17) (by decide) ?_
            refine zG_sub (L' := [(0, .ref (ad 0)), (1, .int v1), (2, .int (v2 + 1))]) [1, 2, 0] rfl ?_
            exact ih (v2 + 1) h
          · replace h := (if_neg hc_1012).symm.trans h
            refine g_aload_n (j := 0) C dX6_meetsInHall_58 rfl rfl ?_
            refine g_geti (k := 18) (N := 27) C sM_0 rfl zin_RX6 (by decide) rfl zfl_RX6_148 rfl dX6_meetsInHall_59 ?_
            refine g_aload_n (j := 0) C dX6_meetsInHall_62 rfl rfl ?_
            refine g_iload_n (j := 2) C dX6_meetsInHall_63 rfl rfl ?_
            obtain ⟨q_1013, hq_1014, h⟩ := bind_isome h
            refine g_vi (ws' := (zW cy ad shM E X)) (As := [.int v2]) (rest := [.int (X 0 18)]) (res := q_1013) C (c_X6_endOf l D cy ad E X v2 hq_1014) zml_RX6_151 zcv_X6_endOf (zW_get X sM_0) rfl rfl rfl ⟨Nat.le_of_ble_eq_true rfl, Nat.le_of_ble_eq_true rfl⟩ rfl rfl (Nat.le_of_ble_eq_true rfl) ⟨Nat.zero_le _, Nat.zero_le _⟩ dX6_meetsInHall_64 ?_
            refine g_aload_n (j := 0) C dX6_meetsInHall_67 rfl rfl ?_
            refine g_iload_n (j := 2) C dX6_meetsInHall_68 rfl rfl ?_
            obtain ⟨q_1015, hq_1016, h⟩ := bind_isome h
            refine g_vi (ws' := (zW cy ad shM E X)) (As := [.int v2]) (rest := [.int q_1013, .int (X 0 18)]) (res := q_1015) C (c_X6_cleanOf l D cy ad E X v2 hq_1016) zml_RX6_154 zcv_X6_cleanOf (zW_get X sM_0) rfl rfl rfl ⟨Nat.le_of_ble_eq_true rfl, Nat.le_of_ble_eq_true rfl⟩ rfl rfl (Nat.le_of_ble_eq_true rfl) ⟨Nat.zero_le _, Nat.zero_le _⟩ dX6_meetsInHall_69 ?_
            refine g_iadd C dX6_meetsInHall_72 ?_
            refine g_icmp_ge C dX6_meetsInHall_73 (tgt := 78) (by decide) (fun hc_1017 => ?_) (fun hc_1017 => ?_)
            · replace h := (if_pos hc_1017).symm.trans h
              refine g_iinc (k := 2) (L' := [(2, .int (v2 + 1)), (0, .ref (ad 0)), (1, .int v1)]) C dX6_meetsInHall_78 rfl (z_iinc (by decide)) (by decide) rfl ?_
              refine g_goto C dX6_meetsInHall_81 (tgt := 17) (by decide) ?_
              refine zG_sub (L' := [(0, .ref (ad 0)), (1, .int v1), (2, .int (v2 + 1))]) [1, 2, 0] rfl ?_
              exact ih (v2 + 1) h
            · replace h := (if_neg hc_1017).symm.trans h
              refine g_iload_n (j := 2) C dX6_meetsInHall_76 rfl rfl ?_
              obtain rfl := Option.some.inj h
              exact g_iret rfl C hr rfl dX6_meetsInHall_77
def f_X6_meetsInHall (X : Nat → Nat → Int32) : Option Int32 := ((f_X6_hallAt X (X 0 15) (nI 1)).bind fun q_1 => f_X6_meetsInHall_L17 X ((X 0 19) + q_1) zFuel (nI 0))
set_option maxRecDepth 100000 in
set_option maxHeartbeats 4000000 in
theorem c_X6_meetsInHall (l : Launch) (D : va_G) (cy : Nat → ClassId) (ad : Nat → Nat) (E : va_W) (X : Nat → Nat → Int32) {res : Int32} (h : f_X6_meetsInHall X = some res) : zMi l yX6_meetsInHall cX6_meetsInHall 3 (some .int) (zrm 4) D (zTy cy) (zW cy ad shM E X) [.ref (ad 0)] res (zW cy ad shM E X) := by
  refine zMi.of (by decide) (Nat.le_of_ble_eq_true rfl) ?_
  intro p e s m below meth c A C hr
  unfold f_X6_meetsInHall at h
  refine zG_L (L' := [(0, .ref (ad 0))]) rfl ?_
  refine g_aload_n (j := 0) C dX6_meetsInHall_0 rfl rfl ?_
  refine g_geti (k := 19) (N := 27) C sM_0 rfl zin_RX6 (by decide) rfl zfl_RX6_139 rfl dX6_meetsInHall_1 ?_
  refine g_aload_n (j := 0) C dX6_meetsInHall_4 rfl rfl ?_
  refine g_aload_n (j := 0) C dX6_meetsInHall_5 rfl rfl ?_
  refine g_geti (k := 15) (N := 27) C sM_0 rfl zin_RX6 (by decide) rfl zfl_RX6_142 rfl dX6_meetsInHall_6 ?_
  refine g_iconst (v := (nI 1)) C dX6_meetsInHall_9 (by decide) ?_
  obtain ⟨q_1, hq_2, h⟩ := bind_isome h
  refine g_vi (ws' := (zW cy ad shM E X)) (As := [.int (X 0 15), .int (nI 1)]) (rest := [.int (X 0 19)]) (res := q_1) C (c_X6_hallAt l D cy ad E X (X 0 15) (nI 1) hq_2) zml_RX6_95 zcv_X6_hallAt (zW_get X sM_0) rfl rfl rfl ⟨Nat.le_of_ble_eq_true rfl, Nat.le_of_ble_eq_true rfl⟩ rfl rfl (Nat.le_of_ble_eq_true rfl) ⟨Nat.zero_le _, Nat.zero_le _⟩ dX6_meetsInHall_10 ?_
  refine g_iadd C dX6_meetsInHall_13 ?_
  refine g_istore_n (L' := [(1, .int ((X 0 19) + q_1)), (0, .ref (ad 0))]) C dX6_meetsInHall_14 rfl (by decide) rfl ?_
  refine g_iconst (v := (nI 0)) C dX6_meetsInHall_15 (by decide) ?_
  refine g_istore_n (L' := [(2, .int (nI 0)), (1, .int ((X 0 19) + q_1)), (0, .ref (ad 0))]) C dX6_meetsInHall_16 rfl (by decide) rfl ?_
  refine zG_sub (L' := [(0, .ref (ad 0)), (1, .int ((X 0 19) + q_1)), (2, .int (nI 0))]) [2, 1, 0] rfl ?_
  exact w_X6_meetsInHall_L17 l D cy ad E X ((X 0 19) + q_1) C hr zFuel (nI 0) h
