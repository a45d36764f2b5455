/-! laid by wip/whole/mkparts.py -/
def f_X6_copiesAt_L4 (X : Nat → Nat → Int32) (v1 : Int32) : Nat → Int32 → Int32 → Option Int32
  | 0, _, _ => none
  | fu + 1, v2, v3 => (if (X 1 (nI 4).toNatClampNeg) ≤ v3 then some v2 else ((f_X6_isOther X v3).bind fun q_1002 => (if q_1002 = 0 then f_X6_copiesAt_L4 X v1 fu (v2 + (nI 0)) (v3 + 1) else ((f_X6_showAt X v3 (nI 1)).bind fun q_1005 => (if q_1005 = (X 0 16) then ((f_X6_showAt X v3 (nI 3)).bind fun q_1008 => ((f_X6_endOf X v3).bind fun q_1010 => (if (f_X6_in v1 q_1008 ((q_1010 + (X 1 (nI 10).toNatClampNeg)) - (nI 1))) = 0 then f_X6_copiesAt_L4 X v1 fu (v2 + (nI 0)) (v3 + 1) else f_X6_copiesAt_L4 X v1 fu (v2 + (nI 1)) (v3 + 1)))) else f_X6_copiesAt_L4 X v1 fu (v2 + (nI 0)) (v3 + 1))))))
set_option maxRecDepth 100000 in
set_option maxHeartbeats 4000000 in
theorem w_X6_copiesAt_L4 {p : Program} {e : Env} {s : State} {m : MethodId} {args : Array Value} {below : List Frame} {meth : Method} {c : Code} {A : Nat → Prop} (l : Launch) (D : va_G) (cy : Nat → ClassId) (ad : Nat → Nat) (E : va_W) (X : Nat → Nat → Int32) (v1 : Int32) {res : Int32} (C : zC p s m args meth c cX6_copiesAt 4 RX6 D (zTy cy) A) (hr : meth.sig.returnType = (some .int)) : ∀ (fu : Nat) (v2 v3 : Int32) (h : f_X6_copiesAt_L4 X v1 fu v2 v3 = some res), zG p l e (zrm 4) s m args below meth c 4 D A 0 0 (MQ below (va_Qi (fun (r : Int32) (_ : Unit) => r = res) (fun _ t => zB D (zTy cy) A (zW cy ad shM E X) t) A) args s 0 0 A) (zW cy ad shM E X) 4 [(0, .ref (ad 0)), (1, .int v1), (2, .int v2), (3, .int v3)] [] := by
  intro fu
  induction fu with
  | zero => intro v2 v3 h; simp [f_X6_copiesAt_L4] at h
  | succ fu ih =>
    intro v2 v3 h
    rw [f_X6_copiesAt_L4] at h
    refine g_iload_n (j := 3) C dX6_copiesAt_4 rfl rfl ?_
    refine g_aload_n (j := 0) C dX6_copiesAt_5 rfl rfl ?_
    refine g_getr (k := 1) (N := 27) C sM_0 rfl zin_RX6 (by decide) rfl zfl_RX6_9 rfl dX6_copiesAt_6 ?_
    refine g_iconst (v := (nI 4)) C dX6_copiesAt_9 (by decide) ?_
    refine g_iald C sM_1 (by decide) dX6_copiesAt_10 ?_
    refine g_icmp_ge C dX6_copiesAt_11 (tgt := 77) (by decide) (fun hc_1001 => ?_) (fun hc_1001 => ?_)
    · replace h := (if_pos hc_1001).symm.trans h
      refine g_iload_n (j := 2) C dX6_copiesAt_77 rfl rfl ?_
      obtain rfl := Option.some.inj h
      exact g_iret rfl C hr rfl dX6_copiesAt_78
    · replace h := (if_neg hc_1001).symm.trans h
      refine g_iload_n (j := 2) C dX6_copiesAt_14 rfl rfl ?_
      refine g_aload_n (j := 0) C dX6_copiesAt_15 rfl rfl ?_
      refine g_iload_n (j := 3) C dX6_copiesAt_16 rfl rfl ?_
      obtain ⟨q_1002, hq_1003, h⟩ := bind_isome h
      refine g_vi (ws' := (zW cy ad shM E X)) (As := [.int v3]) (rest := [.int v2]) (res := q_1002) C (c_X6_isOther l D cy ad E X v3 hq_1003) zml_RX6_145 zcv_X6_isOther (zW_get X sM_0) rfl rfl rfl ⟨Nat.le_of_ble_eq_true rfl, Nat.le_of_ble_eq_true rfl⟩ rfl rfl (Nat.le_of_ble_eq_true rfl) ⟨Nat.zero_le _, Nat.zero_le _⟩ dX6_copiesAt_17 ?_
      refine g_if_eq C dX6_copiesAt_20 (tgt := 68) (by decide) (fun hc_1004 => ?_) (fun hc_1004 => ?_)
      · replace h := (if_pos hc_1004).symm.trans h
        refine g_iconst (v := (nI 0)) C dX6_copiesAt_68 (by decide) ?_
        refine g_iadd C dX6_copiesAt_69 ?_
        refine g_istore_n (L' := [(2, .int (v2 + (nI 0))), (0, .ref (ad 0)), (1, .int v1), (3, .int v3)]) C dX6_copiesAt_70 rfl (by decide) rfl ?_
        refine g_iinc (k := 3) (L' := [(3, .int (v3 + 1)), (2, .int (v2 + (nI 0))), (0, .ref (ad 0)), (1, .int v1)]) C dX6_copiesAt_71 rfl (z_iinc (by decide)) (by decide) rfl ?_
        refine g_goto C dX6_copiesAt_74 (tgt := 4) (by decide) ?_
        refine zG_sub (L' := [(0, .ref (ad 0)), (1, .int v1), (2, .int (v2 + (nI 0))), (3, .int (v3 + 1))]) [2, 3, 1, 0] rfl ?_
        exact ih (v2 + (nI 0)) (v3 + 1) h
      · replace h := (if_neg hc_1004).symm.trans h
        refine g_aload_n (j := 0) C dX6_copiesAt_23 rfl rfl ?_
        refine g_iload_n (j := 3) C dX6_copiesAt_24 rfl rfl ?_
        refine g_iconst (v := (nI 1)) C dX6_copiesAt_25 (by decide) ?_
        obtain ⟨q_1005, hq_1006, h⟩ := bind_isome h
        refine g_vi (ws' := (zW cy ad shM E X)) (As := [.int v3, .int (nI 1)]) (rest := [.int v2]) (res := q_1005) C (c_X6_showAt l D cy ad E X v3 (nI 1) hq_1006) zml_RX6_89 zcv_X6_showAt (zW_get X sM_0) rfl rfl rfl ⟨Nat.le_of_ble_eq_true rfl, Nat.le_of_ble_eq_true rfl⟩ rfl rfl (Nat.le_of_ble_eq_true rfl) ⟨Nat.zero_le _, Nat.zero_le _⟩ dX6_copiesAt_26 ?_
        refine g_aload_n (j := 0) C dX6_copiesAt_29 rfl rfl ?_
        refine g_geti (k := 16) (N := 27) C sM_0 rfl zin_RX6 (by decide) rfl zfl_RX6_157 rfl dX6_copiesAt_30 ?_
        refine g_icmp_ne C dX6_copiesAt_33 (tgt := 68) (by decide) (fun hc_1007 => ?_) (fun hc_1007 => ?_)
        · replace h := (if_neg hc_1007).symm.trans h
          refine g_iconst (v := (nI 0)) C dX6_copiesAt_68 (by decide) ?_
          refine g_iadd C dX6_copiesAt_69 ?_
          refine g_istore_n (L' := [(2, .int (v2 + (nI 0))), (0, .ref (ad 0)), (1, .int v1), (3, .int v3)]) C dX6_copiesAt_70 rfl (by decide) rfl ?_
          refine g_iinc (k := 3) (L' := [(3, .int (v3 + 1)), (2, .int (v2 + (nI 0))), (0, .ref (ad 0)), (1, .int v1)]) C dX6_copiesAt_71 rfl (z_iinc (by decide)) (by decide) rfl ?_
          refine g_goto C dX6_copiesAt_74 (tgt := 4) (by decide) ?_
          refine zG_sub (L' := [(0, .ref (ad 0)), (1, .int v1), (2, .int (v2 + (nI 0))), (3, .int (v3 + 1))]) [2, 3, 1, 0] rfl ?_
          exact ih (v2 + (nI 0)) (v3 + 1) h
        · replace h := (if_pos hc_1007).symm.trans h
          refine g_iload_n (j := 1) C dX6_copiesAt_36 rfl rfl ?_
          refine g_aload_n (j := 0) C dX6_copiesAt_37 rfl rfl ?_
          refine g_iload_n (j := 3) C dX6_copiesAt_38 rfl rfl ?_
          refine g_iconst (v := (nI 3)) C dX6_copiesAt_39 (by decide) ?_
          obtain ⟨q_1008, hq_1009, h⟩ := bind_isome h
          refine g_vi (ws' := (zW cy ad shM E X)) (As := [.int v3, .int (nI 3)]) (rest := [.int v1, .int v2]) (res := q_1008) C (c_X6_showAt l D cy ad E X v3 (nI 3) hq_1009) zml_RX6_89 zcv_X6_showAt (zW_get X sM_0) rfl rfl rfl ⟨Nat.le_of_ble_eq_true rfl, Nat.le_of_ble_eq_true rfl⟩ rfl rfl (Nat.le_of_ble_eq_true rfl) ⟨Nat.zero_le _, Nat.zero_le _⟩ dX6_copiesAt_40 ?_
          refine g_aload_n (j := 0) C dX6_copiesAt_43 rfl rfl ?_
          refine g_iload_n (j := 3) C dX6_copiesAt_44 rfl rfl ?_
          obtain ⟨q_1010, hq_1011, h⟩ := bind_isome h
          refine g_vi (ws' := (zW cy ad shM E X)) (As := [.int v3]) (rest := [.int q_1008, .int v1, .int v2]) (res := q_1010) C (c_X6_endOf l D cy ad E X v3 hq_1011) zml_RX6_151 zcv_X6_endOf (zW_get X sM_0) rfl rfl rfl ⟨Nat.le_of_ble_eq_true rfl, Nat.le_of_ble_eq_true rfl⟩ rfl rfl (Nat.le_of_ble_eq_true rfl) ⟨Nat.zero_le _, Nat.zero_le _⟩ dX6_copiesAt_45 ?_
          refine g_aload_n (j := 0) C dX6_copiesAt_48 rfl rfl ?_
          refine g_getr (k := 1) (N := 27) C sM_0 rfl zin_RX6 (by decide) rfl zfl_RX6_9 rfl dX6_copiesAt_49 ?_
          refine g_bipush (v := (nI 10)) C dX6_copiesAt_52 (by decide) ?_
          refine g_iald C sM_1 (by decide) dX6_copiesAt_54 ?_
          refine g_iadd C dX6_copiesAt_55 ?_
          refine g_iconst (v := (nI 1)) C dX6_copiesAt_56 (by decide) ?_
          refine g_isub C dX6_copiesAt_57 ?_
          refine g_si (ws' := (zW cy ad shM E X)) (As := [.int v1, .int q_1008, .int ((q_1010 + (X 1 (nI 10).toNatClampNeg)) - (nI 1))]) (rest := [.int v2]) (res := (f_X6_in v1 q_1008 ((q_1010 + (X 1 (nI 10).toNatClampNeg)) - (nI 1)))) C (c_X6_in l D cy (zW cy ad shM E X) v1 q_1008 ((q_1010 + (X 1 (nI 10).toNatClampNeg)) - (nI 1))) zml_RX6_64 zcs_X6_in rfl rfl ⟨Nat.le_of_ble_eq_true rfl, Nat.le_of_ble_eq_true rfl⟩ rfl rfl (Nat.le_of_ble_eq_true rfl) ⟨Nat.zero_le _, Nat.zero_le _⟩ dX6_copiesAt_58 ?_
          refine g_if_eq C dX6_copiesAt_61 (tgt := 68) (by decide) (fun hc_1012 => ?_) (fun hc_1012 => ?_)
          · replace h := (if_pos hc_1012).symm.trans h
            refine g_iconst (v := (nI 0)) C dX6_copiesAt_68 (by decide) ?_
            refine g_iadd C dX6_copiesAt_69 ?_
            refine g_istore_n (L' := [(2, .int (v2 + (nI 0))), (0, .ref (ad 0)), (1, .int v1), (3, .int v3)]) C dX6_copiesAt_70 rfl (by decide) rfl ?_
            refine g_iinc (k := 3) (L' := [(3, .int (v3 + 1)), (2, .int (v2 + (nI 0))), (0, .ref (ad 0)), (1, .int v1)]) C dX6_copiesAt_71 rfl (z_iinc (by decide)) (by decide) rfl ?_
            refine g_goto C dX6_copiesAt_74 (tgt := 4) (by decide) ?_
            refine zG_sub (L' := [(0, .ref (ad 0)), (1, .int v1), (2, .int (v2 + (nI 0))), (3, .int (v3 + 1))]) [2, 3, 1, 0] rfl ?_
            exact ih (v2 + (nI 0)) (v3 + 1) h
          · replace h := (if_neg hc_1012).symm.trans h
            refine g_iconst (v := (nI 1)) C dX6_copiesAt_64 (by decide) ?_
            refine g_goto C dX6_copiesAt_65 (tgt := 69) (by decide) ?_
            refine g_iadd C dX6_copiesAt_69 ?_
            refine g_istore_n (L' := [(2, .int (v2 + (nI 1))), (0, .ref (ad 0)), (1, .int v1), (3, .int v3)]) C dX6_copiesAt_70 rfl (by decide) rfl ?_
            refine g_iinc (k := 3) (L' := [(3, .int (v3 + 1)), (2, .int (v2 + (nI 1))), (0, .ref (ad 0)), (1, .int v1)]) C dX6_copiesAt_71 rfl (z_iinc (by decide)) (by decide) rfl ?_
            refine g_goto C dX6_copiesAt_74 (tgt := 4) (by decide) ?_
            refine zG_sub (L' := [(0, .ref (ad 0)), (1, .int v1), (2, .int (v2 + (nI 1))), (3, .int (v3 + 1))]) [2, 3, 1, 0] rfl ?_
            exact ih (v2 + (nI 1)) (v3 + 1) h
def f_X6_copiesAt (X : Nat → Nat → Int32) (v1 : Int32) : Option Int32 := f_X6_copiesAt_L4 X v1 zFuel (nI 1) (nI 0)
set_option maxRecDepth 100000 in
set_option maxHeartbeats 4000000 in
theorem c_X6_copiesAt (l : Launch) (D : va_G) (cy : Nat → ClassId) (ad : Nat → Nat) (E : va_W) (X : Nat → Nat → Int32) (v1 : Int32) {res : Int32} (h : f_X6_copiesAt X v1 = some res) : zMi l yX6_copiesAt cX6_copiesAt 4 (some .int) (zrm 4) D (zTy cy) (zW cy ad shM E X) [.ref (ad 0), .int v1] res (zW cy ad shM E X) := by
  refine zMi.of (by decide) (Nat.le_of_ble_eq_true rfl) ?_
  intro p e s m below meth c A C hr
  unfold f_X6_copiesAt at h
  refine zG_L (L' := [(0, .ref (ad 0)), (1, .int v1)]) rfl ?_
  refine g_iconst (v := (nI 1)) C dX6_copiesAt_0 (by decide) ?_
  refine g_istore_n (L' := [(2, .int (nI 1)), (0, .ref (ad 0)), (1, .int v1)]) C dX6_copiesAt_1 rfl (by decide) rfl ?_
  refine g_iconst (v := (nI 0)) C dX6_copiesAt_2 (by decide) ?_
  refine g_istore_n (L' := [(3, .int (nI 0)), (2, .int (nI 1)), (0, .ref (ad 0)), (1, .int v1)]) C dX6_copiesAt_3 rfl (by decide) rfl ?_
  refine zG_sub (L' := [(0, .ref (ad 0)), (1, .int v1), (2, .int (nI 1)), (3, .int (nI 0))]) [2, 3, 1, 0] rfl ?_
  exact w_X6_copiesAt_L4 l D cy ad E X v1 C hr zFuel (nI 1) (nI 0) h
def f_X6_tooManyCopies_L44 (X : Nat → Nat → Int32) (v1 : Int32) : Nat → Int32 → Int32 → Option Int32
  | 0, _, _ => none
  | fu + 1, v2, v3 => (if (X 1 (nI 4).toNatClampNeg) ≤ v3 then some v2 else ((f_X6_showAt X v3 (nI 3)).bind fun q_1007 => ((f_X6_isOther X v3).bind fun q_1009 => (if q_1009 = 0 then f_X6_tooManyCopies_L44 X v1 fu v2 (v3 + 1) else (if q_1007 ≤ (X 0 18) then f_X6_tooManyCopies_L44 X v1 fu v2 (v3 + 1) else (if v1 ≤ q_1007 then f_X6_tooManyCopies_L44 X v1 fu v2 (v3 + 1) else (if v2 = (-1 : Int32) then ((f_X6_copiesAt X q_1007).bind fun q_1015 => ((f_X6_filmAt X (X 0 16) (nI 3)).bind fun q_1017 => (if q_1015 ≤ q_1017 then f_X6_tooManyCopies_L44 X v1 fu v2 (v3 + 1) else f_X6_tooManyCopies_L44 X v1 fu q_1007 (v3 + 1)))) else (if v2 ≤ q_1007 then f_X6_tooManyCopies_L44 X v1 fu v2 (v3 + 1) else ((f_X6_copiesAt X q_1007).bind fun q_1021 => ((f_X6_filmAt X (X 0 16) (nI 3)).bind fun q_1023 => (if q_1021 ≤ q_1023 then f_X6_tooManyCopies_L44 X v1 fu v2 (v3 + 1) else f_X6_tooManyCopies_L44 X v1 fu q_1007 (v3 + 1))))))))))))
set_option maxRecDepth 100000 in
set_option maxHeartbeats 4000000 in
theorem w_X6_tooManyCopies_L44 {p : Program} {e : Env} {s : State} {m : MethodId} {args : Array Value} {below : List Frame} {meth : Method} {c : Code} {A : Nat → Prop} (l : Launch) (D : va_G) (cy : Nat → ClassId) (ad : Nat → Nat) (E : va_W) (X : Nat → Nat → Int32) (v1 : Int32) {res : Int32} (C : zC p s m args meth c cX6_tooManyCopies 5 RX6 D (zTy cy) A) (hr : meth.sig.returnType = (some .int)) : ∀ (fu : Nat) (v2 v3 : Int32) (h : f_X6_tooManyCopies_L44 X v1 fu v2 v3 = some res), zG p l e (zrm 5) s m args below meth c 5 D A 0 0 (MQ below (va_Qi (fun (r : Int32) (_ : Unit) => r = res) (fun _ t => zB D (zTy cy) A (zW cy ad shM E X) t) A) args s 0 0 A) (zW cy ad shM E X) 44 [(0, .ref (ad 0)), (1, .int v1), (2, .int v2), (3, .int v3)] [] := by
  intro fu
  induction fu with
  | zero => intro v2 v3 h; simp [f_X6_tooManyCopies_L44] at h
  | succ fu ih =>
    intro v2 v3 h
    rw [f_X6_tooManyCopies_L44] at h
    refine g_iload_n (j := 3) C dX6_tooManyCopies_44 rfl rfl ?_
    refine g_aload_n (j := 0) C dX6_tooManyCopies_45 rfl rfl ?_
    refine g_getr (k := 1) (N := 27) C sM_0 rfl zin_RX6 (by decide) rfl zfl_RX6_9 rfl dX6_tooManyCopies_46 ?_
    refine g_iconst (v := (nI 4)) C dX6_tooManyCopies_49 (by decide) ?_
    refine g_iald C sM_1 (by decide) dX6_tooManyCopies_50 ?_
    refine g_icmp_ge C dX6_tooManyCopies_51 (tgt := 123) (by decide) (fun hc_1006 => ?_) (fun hc_1006 => ?_)
    · replace h := (if_pos hc_1006).symm.trans h
      refine g_iload_n (j := 2) C dX6_tooManyCopies_123 rfl rfl ?_
      obtain rfl := Option.some.inj h
      exact g_iret rfl C hr rfl dX6_tooManyCopies_124
    · replace h := (if_neg hc_1006).symm.trans h
      refine g_aload_n (j := 0) C dX6_tooManyCopies_54 rfl rfl ?_
      refine g_iload_n (j := 3) C dX6_tooManyCopies_55 rfl rfl ?_
      refine g_iconst (v := (nI 3)) C dX6_tooManyCopies_56 (by decide) ?_
      obtain ⟨q_1007, hq_1008, h⟩ := bind_isome h
      refine g_vi (ws' := (zW cy ad shM E X)) (As := [.int v3, .int (nI 3)]) (rest := []) (res := q_1007) C (c_X6_showAt l D cy ad E X v3 (nI 3) hq_1008) zml_RX6_89 zcv_X6_showAt (zW_get X sM_0) rfl rfl rfl ⟨Nat.le_of_ble_eq_true rfl, Nat.le_of_ble_eq_true rfl⟩ rfl rfl (Nat.le_of_ble_eq_true rfl) ⟨Nat.zero_le _, Nat.zero_le _⟩ dX6_tooManyCopies_57 ?_
      refine g_istore (L' := [(4, .int q_1007), (0, .ref (ad 0)), (1, .int v1), (2, .int v2), (3, .int v3)]) C dX6_tooManyCopies_60 (by decide) rfl ?_
      refine g_aload_n (j := 1) C dX6_tooManyCopies_62 rfl rfl ?_
      refine g_iload_n (j := 4) C dX6_tooManyCopies_63 rfl rfl ?_
      obtain ⟨q_1009, hq_1010, h⟩ := bind_isome h
      refine g_vi (ws' := (zW cy ad shM E X)) (As := [.int v3]) (rest := []) (res := q_1009) C (c_X6_isOther l D cy ad E X v3 hq_1010) zml_RX6_145 zcv_X6_isOther (zW_get X sM_0) rfl rfl rfl ⟨Nat.le_of_ble_eq_true rfl, Nat.le_of_ble_eq_true rfl⟩ rfl rfl (Nat.le_of_ble_eq_true rfl) ⟨Nat.zero_le _, Nat.zero_le _⟩ dX6_tooManyCopies_64 ?_
      refine g_if_eq C dX6_tooManyCopies_67 (tgt := 117) (by decide) (fun hc_1011 => ?_) (fun hc_1011 => ?_)
      · replace h := (if_pos hc_1011).symm.trans h
        refine g_iinc (k := 4) (L' := [(3, .int (v3 + 1)), (4, .int q_1007), (0, .ref (ad 0)), (1, .int v1), (2, .int v2)]) C dX6_tooManyCopies_117 rfl (z_iinc (by decide)) (by decide) rfl ?_
        refine g_goto C dX6_tooManyCopies_120 (tgt := 44) (by decide) ?_
        refine zG_sub (L' := [(0, .ref (ad 0)), (1, .int v1), (2, .int v2), (3, .int (v3 + 1))]) [2, 3, 4, 0] rfl ?_
        exact ih v2 (v3 + 1) h
      · replace h := (if_neg hc_1011).symm.trans h
        refine g_iload (j := 0) C dX6_tooManyCopies_70 rfl ?_
        refine g_aload_n (j := 1) C dX6_tooManyCopies_72 rfl rfl ?_
        refine g_geti (k := 18) (N := 27) C sM_0 rfl zin_RX6 (by decide) rfl zfl_RX6_148 rfl dX6_tooManyCopies_73 ?_
        refine g_icmp_le C dX6_tooManyCopies_76 (tgt := 117) (by decide) (fun hc_1012 => ?_) (fun hc_1012 => ?_)
        · replace h := (if_pos hc_1012).symm.trans h
          refine g_iinc (k := 4) (L' := [(3, .int (v3 + 1)), (4, .int q_1007), (0, .ref (ad 0)), (1, .int v1), (2, .int v2)]) C dX6_tooManyCopies_117 rfl (z_iinc (by decide)) (by decide) rfl ?_
          refine g_goto C dX6_tooManyCopies_120 (tgt := 44) (by decide) ?_
          refine zG_sub (L' := [(0, .ref (ad 0)), (1, .int v1), (2, .int v2), (3, .int (v3 + 1))]) [2, 3, 4, 0] rfl ?_
          exact ih v2 (v3 + 1) h
        · replace h := (if_neg hc_1012).symm.trans h
          refine g_iload (j := 0) C dX6_tooManyCopies_79 rfl ?_
          refine g_iload_n (j := 2) C dX6_tooManyCopies_81 rfl rfl ?_
          refine g_icmp_ge C dX6_tooManyCopies_82 (tgt := 117) (by decide) (fun hc_1013 => ?_) (fun hc_1013 => ?_)
          · replace h := (if_pos hc_1013).symm.trans h
            refine g_iinc (k := 4) (L' := [(3, .int (v3 + 1)), (4, .int q_1007), (0, .ref (ad 0)), (1, .int v1), (2, .int v2)]) C dX6_tooManyCopies_117 rfl (z_iinc (by decide)) (by decide) rfl ?_
            refine g_goto C dX6_tooManyCopies_120 (tgt := 44) (by decide) ?_
            refine zG_sub (L' := [(0, .ref (ad 0)), (1, .int v1), (2, .int v2), (3, .int (v3 + 1))]) [2, 3, 4, 0] rfl ?_
            exact ih v2 (v3 + 1) h
          · replace h := (if_neg hc_1013).symm.trans h
            refine g_iload_n (j := 3) C dX6_tooManyCopies_85 rfl rfl ?_
            refine g_iconst (v := (-1 : Int32)) C dX6_tooManyCopies_86 (by decide) ?_
            refine g_icmp_eq C dX6_tooManyCopies_87 (tgt := 96) (by decide) (fun hc_1014 => ?_) (fun hc_1014 => ?_)
            · replace h := (if_pos hc_1014).symm.trans h
              refine g_aload_n (j := 1) C dX6_tooManyCopies_96 rfl rfl ?_
              refine g_iload (j := 0) C dX6_tooManyCopies_97 rfl ?_
              obtain ⟨q_1015, hq_1016, h⟩ := bind_isome h
              refine g_vi (ws' := (zW cy ad shM E X)) (As := [.int q_1007]) (rest := []) (res := q_1015) C (c_X6_copiesAt l D cy ad E X q_1007 hq_1016) zml_RX6_160 zcv_X6_copiesAt (zW_get X sM_0) rfl rfl rfl ⟨Nat.le_of_ble_eq_true rfl, Nat.le_of_ble_eq_true rfl⟩ rfl rfl (Nat.le_of_ble_eq_true rfl) ⟨Nat.zero_le _, Nat.zero_le _⟩ dX6_tooManyCopies_99 ?_
              refine g_aload_n (j := 1) C dX6_tooManyCopies_102 rfl rfl ?_
              refine g_aload_n (j := 1) C dX6_tooManyCopies_103 rfl rfl ?_
              refine g_geti (k := 16) (N := 27) C sM_0 rfl zin_RX6 (by decide) rfl zfl_RX6_157 rfl dX6_tooManyCopies_104 ?_
              refine g_iconst (v := (nI 3)) C dX6_tooManyCopies_107 (by decide) ?_
              obtain ⟨q_1017, hq_1018, h⟩ := bind_isome h
              refine g_vi (ws' := (zW cy ad shM E X)) (As := [.int (X 0 16), .int (nI 3)]) (rest := [.int q_1015]) (res := q_1017) C (c_X6_filmAt l D cy ad E X (X 0 16) (nI 3) hq_1018) zml_RX6_81 zcv_X6_filmAt (zW_get X sM_0) rfl rfl rfl ⟨Nat.le_of_ble_eq_true rfl, Nat.le_of_ble_eq_true rfl⟩ rfl rfl (Nat.le_of_ble_eq_true rfl) ⟨Nat.zero_le _, Nat.zero_le _⟩ dX6_tooManyCopies_108 ?_
              refine g_icmp_le C dX6_tooManyCopies_111 (tgt := 117) (by decide) (fun hc_1019 => ?_) (fun hc_1019 => ?_)
              · replace h := (if_pos hc_1019).symm.trans h
                refine g_iinc (k := 4) (L' := [(3, .int (v3 + 1)), (4, .int q_1007), (0, .ref (ad 0)), (1, .int v1), (2, .int v2)]) C dX6_tooManyCopies_117 rfl (z_iinc (by decide)) (by decide) rfl ?_
                refine g_goto C dX6_tooManyCopies_120 (tgt := 44) (by decide) ?_
                refine zG_sub (L' := [(0, .ref (ad 0)), (1, .int v1), (2, .int v2), (3, .int (v3 + 1))]) [2, 3, 4, 0] rfl ?_
                exact ih v2 (v3 + 1) h
              · replace h := (if_neg hc_1019).symm.trans h
                refine g_iload (j := 0) C dX6_tooManyCopies_114 rfl ?_
                refine g_istore_n (L' := [(2, .int q_1007), (4, .int q_1007), (0, .ref (ad 0)), (1, .int v1), (3, .int v3)]) C dX6_tooManyCopies_116 rfl (by decide) rfl ?_
                refine g_iinc (k := 4) (L' := [(3, .int (v3 + 1)), (2, .int q_1007), (4, .int q_1007), (0, .ref (ad 0)), (1, .int v1)]) C dX6_tooManyCopies_117 rfl (z_iinc (by decide)) (by decide) rfl ?_
                refine g_goto C dX6_tooManyCopies_120 (tgt := 44) (by decide) ?_
                refine zG_sub (L' := [(0, .ref (ad 0)), (1, .int v1), (2, .int q_1007), (3, .int (v3 + 1))]) [3, 4, 1, 0] rfl ?_
                exact ih q_1007 (v3 + 1) h
            · replace h := (if_neg hc_1014).symm.trans h
              refine g_iload (j := 0) C dX6_tooManyCopies_90 rfl ?_
              refine g_iload_n (j := 3) C dX6_tooManyCopies_92 rfl rfl ?_
              refine g_icmp_ge C dX6_tooManyCopies_93 (tgt := 117) (by decide) (fun hc_1020 => ?_) (fun hc_1020 => ?_)
              · replace h := (if_pos hc_1020).symm.trans h
                refine g_iinc (k := 4) (L' := [(3, .int (v3 + 1)), (4, .int q_1007), (0, .ref (ad 0)), (1, .int v1), (2, .int v2)]) C dX6_tooManyCopies_117 rfl (z_iinc (by decide)) (by decide) rfl ?_
                refine g_goto C dX6_tooManyCopies_120 (tgt := 44) (by decide) ?_
                refine zG_sub (L' := [(0, .ref (ad 0)), (1, .int v1), (2, .int v2), (3, .int (v3 + 1))]) [2, 3, 4, 0] rfl ?_
                exact ih v2 (v3 + 1) h
              · replace h := (if_neg hc_1020).symm.trans h
                refine g_aload_n (j := 1) C dX6_tooManyCopies_96 rfl rfl ?_
                refine g_iload (j := 0) C dX6_tooManyCopies_97 rfl ?_
                obtain ⟨q_1021, hq_1022, h⟩ := bind_isome h
                refine g_vi (ws' := (zW cy ad shM E X)) (As := [.int q_1007]) (rest := []) (res := q_1021) C (c_X6_copiesAt l D cy ad E X q_1007 hq_1022) zml_RX6_160 zcv_X6_copiesAt (zW_get X sM_0) rfl rfl rfl ⟨Nat.le_of_ble_eq_true rfl, Nat.le_of_ble_eq_true rfl⟩ rfl rfl (Nat.le_of_ble_eq_true rfl) ⟨Nat.zero_le _, Nat.zero_le _⟩ dX6_tooManyCopies_99 ?_
                refine g_aload_n (j := 1) C dX6_tooManyCopies_102 rfl rfl ?_
                refine g_aload_n (j := 1) C dX6_tooManyCopies_103 rfl rfl ?_
                refine g_geti (k := 16) (N := 27) C sM_0 rfl zin_RX6 (by decide) rfl zfl_RX6_157 rfl dX6_tooManyCopies_104 ?_
                refine g_iconst (v := (nI 3)) C dX6_tooManyCopies_107 (by decide) ?_
                obtain ⟨q_1023, hq_1024, h⟩ := bind_isome h
                refine g_vi (ws' := (zW cy ad shM E X)) (As := [.int (X 0 16), .int (nI 3)]) (rest := [.int q_1021]) (res := q_1023) C (c_X6_filmAt l D cy ad E X (X 0 16) (nI 3) hq_1024) zml_RX6_81 zcv_X6_filmAt (zW_get X sM_0) rfl rfl rfl ⟨Nat.le_of_ble_eq_true rfl, Nat.le_of_ble_eq_true rfl⟩ rfl rfl (Nat.le_of_ble_eq_true rfl) ⟨Nat.zero_le _, Nat.zero_le _⟩ dX6_tooManyCopies_108 ?_
                refine g_icmp_le C dX6_tooManyCopies_111 (tgt := 117) (by decide) (fun hc_1025 => ?_) (fun hc_1025 => ?_)
                · replace h := (if_pos hc_1025).symm.trans h
                  refine g_iinc (k := 4) (L' := [(3, .int (v3 + 1)), (4, .int q_1007), (0, .ref (ad 0)), (1, .int v1), (2, .int v2)]) C dX6_tooManyCopies_117 rfl (z_iinc (by decide)) (by decide) rfl ?_
                  refine g_goto C dX6_tooManyCopies_120 (tgt := 44) (by decide) ?_
                  refine zG_sub (L' := [(0, .ref (ad 0)), (1, .int v1), (2, .int v2), (3, .int (v3 + 1))]) [2, 3, 4, 0] rfl ?_
                  exact ih v2 (v3 + 1) h
                · replace h := (if_neg hc_1025).symm.trans h
                  refine g_iload (j := 0) C dX6_tooManyCopies_114 rfl ?_
                  refine g_istore_n (L' := [(2, .int q_1007), (4, .int q_1007), (0, .ref (ad 0)), (1, .int v1), (3, .int v3)]) C dX6_tooManyCopies_116 rfl (by decide) rfl ?_
                  refine g_iinc (k := 4) (L' := [(3, .int (v3 + 1)), (2, .int q_1007), (4, .int q_1007), (0, .ref (ad 0)), (1, .int v1)]) C dX6_tooManyCopies_117 rfl (z_iinc (by decide)) (by decide) rfl ?_
                  refine g_goto C dX6_tooManyCopies_120 (tgt := 44) (by decide) ?_
                  refine zG_sub (L' := [(0, .ref (ad 0)), (1, .int v1), (2, .int q_1007), (3, .int (v3 + 1))]) [3, 4, 1, 0] rfl ?_
                  exact ih q_1007 (v3 + 1) h
def f_X6_tooManyCopies (X : Nat → Nat → Int32) : Option Int32 := ((f_X6_copiesAt X (X 0 18)).bind fun q_1 => ((f_X6_filmAt X (X 0 16) (nI 3)).bind fun q_3 => (if q_1 ≤ q_3 then f_X6_tooManyCopies_L44 X ((X 0 19) + (X 1 (nI 10).toNatClampNeg)) zFuel (-1 : Int32) (nI 0) else f_X6_tooManyCopies_L44 X ((X 0 19) + (X 1 (nI 10).toNatClampNeg)) zFuel (X 0 18) (nI 0))))
set_option maxRecDepth 100000 in
set_option maxHeartbeats 4000000 in
theorem c_X6_tooManyCopies (l : Launch) (D : va_G) (cy : Nat → ClassId) (ad : Nat → Nat) (E : va_W) (X : Nat → Nat → Int32) {res : Int32} (h : f_X6_tooManyCopies X = some res) : zMi l yX6_tooManyCopies cX6_tooManyCopies 5 (some .int) (zrm 5) D (zTy cy) (zW cy ad shM E X) [.ref (ad 0)] res (zW cy ad shM E X) := by
  refine zMi.of (by decide) (Nat.le_of_ble_eq_true rfl) ?_
  intro p e s m below meth c A C hr
  unfold f_X6_tooManyCopies at h
  refine zG_L (L' := [(0, .ref (ad 0))]) rfl ?_
  refine g_aload_n (j := 0) C dX6_tooManyCopies_0 rfl rfl ?_
  refine g_geti (k := 19) (N := 27) C sM_0 rfl zin_RX6 (by decide) rfl zfl_RX6_139 rfl dX6_tooManyCopies_1 ?_
  refine g_aload_n (j := 0) C dX6_tooManyCopies_4 rfl rfl ?_
  refine g_getr (k := 1) (N := 27) C sM_0 rfl zin_RX6 (by decide) rfl zfl_RX6_9 rfl dX6_tooManyCopies_5 ?_
  refine g_bipush (v := (nI 10)) C dX6_tooManyCopies_8 (by decide) ?_
  refine g_iald C sM_1 (by decide) dX6_tooManyCopies_10 ?_
  refine g_iadd C dX6_tooManyCopies_11 ?_
  refine g_istore_n (L' := [(1, .int ((X 0 19) + (X 1 (nI 10).toNatClampNeg))), (0, .ref (ad 0))]) C dX6_tooManyCopies_12 rfl (by decide) rfl ?_
  refine g_aload_n (j := 1) C dX6_tooManyCopies_13 rfl rfl ?_
  refine g_aload_n (j := 1) C dX6_tooManyCopies_14 rfl rfl ?_
  refine g_geti (k := 18) (N := 27) C sM_0 rfl zin_RX6 (by decide) rfl zfl_RX6_148 rfl dX6_tooManyCopies_15 ?_
  obtain ⟨q_1, hq_2, h⟩ := bind_isome h
  refine g_vi (ws' := (zW cy ad shM E X)) (As := [.int (X 0 18)]) (rest := []) (res := q_1) C (c_X6_copiesAt l D cy ad E X (X 0 18) hq_2) zml_RX6_160 zcv_X6_copiesAt (zW_get X sM_0) rfl rfl rfl ⟨Nat.le_of_ble_eq_true rfl, Nat.le_of_ble_eq_true rfl⟩ rfl rfl (Nat.le_of_ble_eq_true rfl) ⟨Nat.zero_le _, Nat.zero_le _⟩ dX6_tooManyCopies_18 ?_
  refine g_aload_n (j := 1) C dX6_tooManyCopies_21 rfl rfl ?_
  refine g_aload_n (j := 1) C dX6_tooManyCopies_22 rfl rfl ?_
  refine g_geti (k := 16) (N := 27) C sM_0 rfl zin_RX6 (by decide) rfl zfl_RX6_157 rfl dX6_tooManyCopies_23 ?_
  refine g_iconst (v := (nI 3)) C dX6_tooManyCopies_26 (by decide) ?_
  obtain ⟨q_3, hq_4, h⟩ := bind_isome h
  refine g_vi (ws' := (zW cy ad shM E X)) (As := [.int (X 0 16), .int (nI 3)]) (rest := [.int q_1]) (res := q_3) C (c_X6_filmAt l D cy ad E X (X 0 16) (nI 3) hq_4) zml_RX6_81 zcv_X6_filmAt (zW_get X sM_0) rfl rfl rfl ⟨Nat.le_of_ble_eq_true rfl, Nat.le_of_ble_eq_true rfl⟩ rfl rfl (Nat.le_of_ble_eq_true rfl) ⟨Nat.zero_le _, Nat.zero_le _⟩ dX6_tooManyCopies_27 ?_
  refine g_icmp_le C dX6_tooManyCopies_30 (tgt := 40) (by decide) (fun hc_5 => ?_) (fun hc_5 => ?_)
  · replace h := (if_pos hc_5).symm.trans h
    refine g_iconst (v := (-1 : Int32)) C dX6_tooManyCopies_40 (by decide) ?_
    refine g_istore_n (L' := [(2, .int (-1 : Int32)), (1, .int ((X 0 19) + (X 1 (nI 10).toNatClampNeg))), (0, .ref (ad 0))]) C dX6_tooManyCopies_41 rfl (by decide) rfl ?_
    refine g_iconst (v := (nI 0)) C dX6_tooManyCopies_42 (by decide) ?_
    refine g_istore_n (L' := [(3, .int (nI 0)), (2, .int (-1 : Int32)), (1, .int ((X 0 19) + (X 1 (nI 10).toNatClampNeg))), (0, .ref (ad 0))]) C dX6_tooManyCopies_43 rfl (by decide) rfl ?_
    refine zG_sub (L' := [(0, .ref (ad 0)), (1, .int ((X 0 19) + (X 1 (nI 10).toNatClampNeg))), (2, .int (-1 : Int32)), (3, .int (nI 0))]) [3, 2, 1, 0] rfl ?_
    exact w_X6_tooManyCopies_L44 l D cy ad E X ((X 0 19) + (X 1 (nI 10).toNatClampNeg)) C hr zFuel (-1 : Int32) (nI 0) h
  · replace h := (if_neg hc_5).symm.trans h
    refine g_aload_n (j := 1) C dX6_tooManyCopies_33 rfl rfl ?_
    refine g_geti (k := 18) (N := 27) C sM_0 rfl zin_RX6 (by decide) rfl zfl_RX6_148 rfl dX6_tooManyCopies_34 ?_
    refine g_goto C dX6_tooManyCopies_37 (tgt := 41) (by decide) ?_
    refine g_istore_n (L' := [(2, .int (X 0 18)), (1, .int ((X 0 19) + (X 1 (nI 10).toNatClampNeg))), (0, .ref (ad 0))]) C dX6_tooManyCopies_41 rfl (by decide) rfl ?_
    refine g_iconst (v := (nI 0)) C dX6_tooManyCopies_42 (by decide) ?_
    refine g_istore_n (L' := [(3, .int (nI 0)), (2, .int (X 0 18)), (1, .int ((X 0 19) + (X 1 (nI 10).toNatClampNeg))), (0, .ref (ad 0))]) C dX6_tooManyCopies_43 rfl (by decide) rfl ?_
    refine zG_sub (L' := [(0, .ref (ad 0)), (1, .int ((X 0 19) + (X 1 (nI 10).toNatClampNeg))), (2, .int (X 0 18)), (3, .int (nI 0))]) [3, 2, 1, 0] rfl ?_
    exact w_X6_tooManyCopies_L44 l D cy ad E X ((X 0 19) + (X 1 (nI 10).toNatClampNeg)) C hr zFuel (X 0 18) (nI 0) h
def f_X6_meetsAtExit_L2 (X : Nat → Nat → Int32) : Nat → Int32 → Option Int32
  | 0, _ => none
  | fu + 1, v1 => (if (X 1 (nI 4).toNatClampNeg) ≤ v1 then some (-1 : Int32) else ((f_X6_endOf X v1).bind fun q_1002 => ((f_X6_isOther X v1).bind fun q_1004 => (if q_1004 = 0 then f_X6_meetsAtExit_L2 X fu (v1 + 1) else ((f_X6_showAt X v1 (nI 0)).bind fun q_1007 => ((f_X6_hallAt X q_1007 (nI 2)).bind fun q_1009 => ((f_X6_hallAt X (X 0 15) (nI 2)).bind fun q_1011 => (if q_1009 = q_1011 then (if 0 ≤ (q_1002 - (X 0 19)) then (if (X 1 (nI 8).toNatClampNeg) ≤ (q_1002 - (X 0 19)) then f_X6_meetsAtExit_L2 X fu (v1 + 1) else some v1) else (if (X 1 (nI 8).toNatClampNeg) ≤ (-(q_1002 - (X 0 19))) then f_X6_meetsAtExit_L2 X fu (v1 + 1) else some v1)) else f_X6_meetsAtExit_L2 X fu (v1 + 1)))))))))
set_option maxRecDepth 100000 in
set_option maxHeartbeats 4000000 in
theorem w_X6_meetsAtExit_L2 {p : Program} {e : Env} {s : State} {m : MethodId} {args : Array Value} {below : List Frame} {meth : Method} {c : Code} {A : Nat → Prop} (l : Launch) (D : va_G) (cy : Nat → ClassId) (ad : Nat → Nat) (E : va_W) (X : Nat → Nat → Int32) {res : Int32} (C : zC p s m args meth c cX6_meetsAtExit 3 RX6 D (zTy cy) A) (hr : meth.sig.returnType = (some .int)) : ∀ (fu : Nat) (v1 : Int32) (h : f_X6_meetsAtExit_L2 X fu v1 = some res), zG p l e (zrm 4) s m args below meth c 3 D A 0 0 (MQ below (va_Qi (fun (r : Int32) (_ : Unit) => r = res) (fun _ t => zB D (zTy cy) A (zW cy ad shM E X) t) A) args s 0 0 A) (zW cy ad shM E X) 2 [(0, .ref (ad 0)), (1, .int v1)] [] := by
  intro fu
  induction fu with
  | zero => intro v1 h; simp [f_X6_meetsAtExit_L2] at h
  | succ fu ih =>
    intro v1 h
    rw [f_X6_meetsAtExit_L2] at h
    refine g_iload_n (j := 1) C dX6_meetsAtExit_2 rfl rfl ?_
    refine g_aload_n (j := 0) C dX6_meetsAtExit_3 rfl rfl ?_
    refine g_getr (k := 1) (N := 27) C sM_0 rfl zin_RX6 (by decide) rfl zfl_RX6_9 rfl dX6_meetsAtExit_4 ?_
    refine g_iconst (v := (nI 4)) C dX6_meetsAtExit_7 (by decide) ?_
    refine g_iald C sM_1 (by decide) dX6_meetsAtExit_8 ?_
    refine g_icmp_ge C dX6_meetsAtExit_9 (tgt := 82) (by decide) (fun hc_1001 => ?_) (fun hc_1001 => ?_)
    · replace h := (if_pos hc_1001).symm.trans h
      refine g_iconst (v := (-1 : Int32)) C dX6_meetsAtExit_82 (by decide) ?_
      obtain rfl := Option.some.inj h
      exact g_iret rfl C hr rfl dX6_meetsAtExit_83
    · replace h := (if_neg hc_1001).symm.trans h
      refine g_aload_n (j := 0) C dX6_meetsAtExit_12 rfl rfl ?_
      refine g_iload_n (j := 1) C dX6_meetsAtExit_13 rfl rfl ?_
      obtain ⟨q_1002, hq_1003, h⟩ := bind_isome h
      refine g_vi (ws' := (zW cy ad shM E X)) (As := [.int v1]) (rest := []) (res := q_1002) C (c_X6_endOf l D cy ad E X v1 hq_1003) zml_RX6_151 zcv_X6_endOf (zW_get X sM_0) rfl rfl rfl ⟨Nat.le_of_ble_eq_true rfl, Nat.le_of_ble_eq_true rfl⟩ rfl rfl (Nat.le_of_ble_eq_true rfl) ⟨Nat.zero_le _, Nat.zero_le _⟩ dX6_meetsAtExit_14 ?_
      refine g_aload_n (j := 0) C dX6_meetsAtExit_17 rfl rfl ?_
      refine g_geti (k := 19) (N := 27) C sM_0 rfl zin_RX6 (by decide) rfl zfl_RX6_139 rfl dX6_meetsAtExit_18 ?_
      refine g_isub C dX6_meetsAtExit_21 ?_
      refine g_istore_n (L' := [(2, .int (q_1002 - (X 0 19))), (0, .ref (ad 0)), (1, .int v1)]) C dX6_meetsAtExit_22 rfl (by decide) rfl ?_
      refine g_aload_n (j := 1) C dX6_meetsAtExit_23 rfl rfl ?_
      refine g_iload_n (j := 2) C dX6_meetsAtExit_24 rfl rfl ?_
      obtain ⟨q_1004, hq_1005, h⟩ := bind_isome h
      refine g_vi (ws' := (zW cy ad shM E X)) (As := [.int v1]) (rest := []) (res := q_1004) C (c_X6_isOther l D cy ad E X v1 hq_1005) zml_RX6_145 zcv_X6_isOther (zW_get X sM_0) rfl rfl rfl ⟨Nat.le_of_ble_eq_true rfl, Nat.le_of_ble_eq_true rfl⟩ rfl rfl (Nat.le_of_ble_eq_true rfl) ⟨Nat.zero_le _, Nat.zero_le _⟩ dX6_meetsAtExit_25 ?_
      refine g_if_eq C dX6_meetsAtExit_28 (tgt := 76) (by decide) (fun hc_1006 => ?_) (fun hc_1006 => ?_)
      · replace h := (if_pos hc_1006).symm.trans h
        refine g_iinc (k := 2) (L' := [(1, .int (v1 + 1)), (2, .int (q_1002 - (X 0 19))), (0, .ref (ad 0))]) C dX6_meetsAtExit_76 rfl (z_iinc (by decide)) (by decide) rfl ?_
        refine g_goto C dX6_meetsAtExit_79 (tgt := 2) (by decide) ?_
        refine zG_sub (L' := [(0, .ref (ad 0)), (1, .int (v1 + 1))]) [2, 0] rfl ?_
        exact ih (v1 + 1) h
      · replace h := (if_neg hc_1006).symm.trans h
        refine g_aload_n (j := 1) C dX6_meetsAtExit_31 rfl rfl ?_
        refine g_aload_n (j := 1) C dX6_meetsAtExit_32 rfl rfl ?_
        refine g_iload_n (j := 2) C dX6_meetsAtExit_33 rfl rfl ?_
        refine g_iconst (v := (nI 0)) C dX6_meetsAtExit_34 (by decide) ?_
        obtain ⟨q_1007, hq_1008, h⟩ := bind_isome h
        refine g_vi (ws' := (zW cy ad shM E X)) (As := [.int v1, .int (nI 0)]) (rest := [.ref (ad 0)]) (res := q_1007) C (c_X6_showAt l D cy ad E X v1 (nI 0) hq_1008) zml_RX6_89 zcv_X6_showAt (zW_get X sM_0) rfl rfl rfl ⟨Nat.le_of_ble_eq_true rfl, Nat.le_of_ble_eq_true rfl⟩ rfl rfl (Nat.le_of_ble_eq_true rfl) ⟨Nat.zero_le _, Nat.zero_le _⟩ dX6_meetsAtExit_35 ?_
        refine g_iconst (v := (nI 2)) C dX6_meetsAtExit_38 (by decide) ?_
        obtain ⟨q_1009, hq_1010, h⟩ := bind_isome h
        refine g_vi (ws' := (zW cy ad shM E X)) (As := [.int q_1007, .int (nI 2)]) (rest := []) (res := q_1009) C (c_X6_hallAt l D cy ad E X q_1007 (nI 2) hq_1010) zml_RX6_95 zcv_X6_hallAt (zW_get X sM_0) rfl rfl rfl ⟨Nat.le_of_ble_eq_true rfl, Nat.le_of_ble_eq_true rfl⟩ rfl rfl (Nat.le_of_ble_eq_true rfl) ⟨Nat.zero_le _, Nat.zero_le _⟩ dX6_meetsAtExit_39 ?_
        refine g_aload_n (j := 1) C dX6_meetsAtExit_42 rfl rfl ?_
        refine g_aload_n (j := 1) C dX6_meetsAtExit_43 rfl rfl ?_
        refine g_geti (k := 15) (N := 27) C sM_0 rfl zin_RX6 (by decide) rfl zfl_RX6_142 rfl dX6_meetsAtExit_44 ?_
        refine g_iconst (v := (nI 2)) C dX6_meetsAtExit_47 (by decide) ?_
        obtain ⟨q_1011, hq_1012, h⟩ := bind_isome h
        refine g_vi (ws' := (zW cy ad shM E X)) (As := [.int (X 0 15), .int (nI 2)]) (rest := [.int q_1009]) (res := q_1011) C (c_X6_hallAt l D cy ad E X (X 0 15) (nI 2) hq_1012) zml_RX6_95 zcv_X6_hallAt (zW_get X sM_0) rfl rfl rfl ⟨Nat.le_of_ble_eq_true rfl, Nat.le_of_ble_eq_true rfl⟩ rfl rfl (Nat.le_of_ble_eq_true rfl) ⟨Nat.zero_le _, Nat.zero_le _⟩ dX6_meetsAtExit_48 ?_
        refine g_icmp_ne C dX6_meetsAtExit_51 (tgt := 76) (by decide) (fun hc_1013 => ?_) (fun hc_1013 => ?_)
        · replace h := (if_neg hc_1013).symm.trans h
          refine g_iinc (k := 2) (L' := [(1, .int (v1 + 1)), (2, .int (q_1002 - (X 0 19))), (0, .ref (ad 0))]) C dX6_meetsAtExit_76 rfl (z_iinc (by decide)) (by decide) rfl ?_
          refine g_goto C dX6_meetsAtExit_79 (tgt := 2) (by decide) ?_
          refine zG_sub (L' := [(0, .ref (ad 0)), (1, .int (v1 + 1))]) [2, 0] rfl ?_
          exact ih (v1 + 1) h
        · replace h := (if_pos hc_1013).symm.trans h
          refine g_iload_n (j := 0) C dX6_meetsAtExit_54 rfl rfl ?_
          refine g_if_ge C dX6_meetsAtExit_55 (tgt := 63) (by decide) (fun hc_1014 => ?_) (fun hc_1014 => ?_)
          · replace h := (if_pos hc_1014).symm.trans h
            refine g_iload_n (j := 0) C dX6_meetsAtExit_63 rfl rfl ?_
            refine g_aload_n (j := 1) C dX6_meetsAtExit_64 rfl rfl ?_
            refine g_getr (k := 1) (N := 27) C sM_0 rfl zin_RX6 (by decide) rfl zfl_RX6_9 rfl dX6_meetsAtExit_65 ?_
            refine g_bipush (v := (nI 8)) C dX6_meetsAtExit_68 (by decide) ?_
            refine g_iald C sM_1 (by decide) dX6_meetsAtExit_70 ?_
            refine g_icmp_ge C dX6_meetsAtExit_71 (tgt := 76) (by decide) (fun hc_1015 => ?_) (fun hc_1015 => ?_)
            · replace h := (if_pos hc_1015).symm.trans h
              refine g_iinc (k := 2) (L' := [(1, .int (v1 + 1)), (2, .int (q_1002 - (X 0 19))), (0, .ref (ad 0))]) C dX6_meetsAtExit_76 rfl (z_iinc (by decide)) (by decide) rfl ?_
              refine g_goto C dX6_meetsAtExit_79 (tgt := 2) (by decide) ?_
              refine zG_sub (L' := [(0, .ref (ad 0)), (1, .int (v1 + 1))]) [2, 0] rfl ?_
              exact ih (v1 + 1) h
            · replace h := (if_neg hc_1015).symm.trans h
              refine g_iload_n (j := 2) C dX6_meetsAtExit_74 rfl rfl ?_
              obtain rfl := Option.some.inj h
              exact g_iret rfl C hr rfl dX6_meetsAtExit_75
          · replace h := (if_neg hc_1014).symm.trans h
            refine g_iload_n (j := 0) C dX6_meetsAtExit_58 rfl rfl ?_
            refine g_ineg C dX6_meetsAtExit_59 ?_
            refine g_goto C dX6_meetsAtExit_60 (tgt := 64) (by decide) ?_
            refine g_aload_n (j := 1) C dX6_meetsAtExit_64 rfl rfl ?_
            refine g_getr (k := 1) (N := 27) C sM_0 rfl zin_RX6 (by decide) rfl zfl_RX6_9 rfl dX6_meetsAtExit_65 ?_
            refine g_bipush (v := (nI 8)) C dX6_meetsAtExit_68 (by decide) ?_
            refine g_iald C sM_1 (by decide) dX6_meetsAtExit_70 ?_
            refine g_icmp_ge C dX6_meetsAtExit_71 (tgt := 76) (by decide) (fun hc_1016 => ?_) (fun hc_1016 => ?_)
            · replace h := (if_pos hc_1016).symm.trans h
              refine g_iinc (k := 2) (L' := [(1, .int (v1 + 1)), (2, .int (q_1002 - (X 0 19))), (0, .ref (ad 0))]) C dX6_meetsAtExit_76 rfl (z_iinc (by decide)) (by decide) rfl ?_
              refine g_goto C dX6_meetsAtExit_79 (tgt := 2) (by decide) ?_
              refine zG_sub (L' := [(0, .ref (ad 0)), (1, .int (v1 + 1))]) [2, 0] rfl ?_
              exact ih (v1 + 1) h
            · replace h := (if_neg hc_1016).symm.trans h
              refine g_iload_n (j := 2) C dX6_meetsAtExit_74 rfl rfl ?_
              obtain rfl := Option.some.inj h
              exact g_iret rfl C hr rfl dX6_meetsAtExit_75
def f_X6_meetsAtExit (X : Nat → Nat → Int32) : Option Int32 := f_X6_meetsAtExit_L2 X zFuel (nI 0)
set_option maxRecDepth 100000 in
set_option maxHeartbeats 4000000 in
theorem c_X6_meetsAtExit (l : Launch) (D : va_G) (cy : Nat → ClassId) (ad : Nat → Nat) (E : va_W) (X : Nat → Nat → Int32) {res : Int32} (h : f_X6_meetsAtExit X = some res) : zMi l yX6_meetsAtExit cX6_meetsAtExit 3 (some .int) (zrm 4) D (zTy cy) (zW cy ad shM E X) [.ref (ad 0)] res (zW cy ad shM E X) := by
  refine zMi.of (by decide) (Nat.le_of_ble_eq_true rfl) ?_
  intro p e s m below meth c A C hr
  unfold f_X6_meetsAtExit at h
  refine zG_L (L' := [(0, .ref (ad 0))]) rfl ?_
  refine g_iconst (v := (nI 0)) C dX6_meetsAtExit_0 (by decide) ?_
  refine g_istore_n (L' := [(1, .int (nI 0)), (0, .ref (ad 0))]) C dX6_meetsAtExit_1 rfl (by decide) rfl ?_
  refine zG_sub (L' := [(0, .ref (ad 0)), (1, .int (nI 0))]) [1, 0] rfl ?_
  exact w_X6_meetsAtExit_L2 l D cy ad E X C hr zFuel (nI 0) h
def f_X6_cleanedAt_L4 (X : Nat → Nat → Int32) (v1 : Int32) : Nat → Int32 → Int32 → Option Int32
  | 0, _, _ => none
  | fu + 1, v2, v3 => (if (X 1 (nI 4).toNatClampNeg) ≤ v3 then some v2 else ((f_X6_isOther X v3).bind fun q_1002 => (if q_1002 = 0 then f_X6_cleanedAt_L4 X v1 fu (v2 + (nI 0)) (v3 + 1) else ((f_X6_endOf X v3).bind fun q_1005 => ((f_X6_endOf X v3).bind fun q_1007 => ((f_X6_cleanOf X v3).bind fun q_1009 => (if (f_X6_in v1 q_1005 ((q_1007 + q_1009) - (nI 1))) = 0 then f_X6_cleanedAt_L4 X v1 fu (v2 + (nI 0)) (v3 + 1) else f_X6_cleanedAt_L4 X v1 fu (v2 + (nI 1)) (v3 + 1))))))))
set_option maxRecDepth 100000 in
set_option maxHeartbeats 4000000 in
theorem w_X6_cleanedAt_L4 {p : Program} {e : Env} {s : State} {m : MethodId} {args : Array Value} {below : List Frame} {meth : Method} {c : Code} {A : Nat → Prop} (l : Launch) (D : va_G) (cy : Nat → ClassId) (ad : Nat → Nat) (E : va_W) (X : Nat → Nat → Int32) (v1 : Int32) {res : Int32} (C : zC p s m args meth c cX6_cleanedAt 4 RX6 D (zTy cy) A) (hr : meth.sig.returnType = (some .int)) : ∀ (fu : Nat) (v2 v3 : Int32) (h : f_X6_cleanedAt_L4 X v1 fu v2 v3 = some res), zG p l e (zrm 4) s m args below meth c 4 D A 0 0 (MQ below (va_Qi (fun (r : Int32) (_ : Unit) => r = res) (fun _ t => zB D (zTy cy) A (zW cy ad shM E X) t) A) args s 0 0 A) (zW cy ad shM E X) 4 [(0, .ref (ad 0)), (1, .int v1), (2, .int v2), (3, .int v3)] [] := by
  intro fu
  induction fu with
  | zero => intro v2 v3 h; simp [f_X6_cleanedAt_L4] at h
  | succ fu ih =>
    intro v2 v3 h
    rw [f_X6_cleanedAt_L4] at h
    refine g_iload_n (j := 3) C dX6_cleanedAt_4 rfl rfl ?_
    refine g_aload_n (j := 0) C dX6_cleanedAt_5 rfl rfl ?_
    refine g_getr (k := 1) (N := 27) C sM_0 rfl zin_RX6 (by decide) rfl zfl_RX6_9 rfl dX6_cleanedAt_6 ?_
    refine g_iconst (v := (nI 4)) C dX6_cleanedAt_9 (by decide) ?_
    refine g_iald C sM_1 (by decide) dX6_cleanedAt_10 ?_
    refine g_icmp_ge C dX6_cleanedAt_11 (tgt := 61) (by decide) (fun hc_1001 => ?_) (fun hc_1001 => ?_)
    · replace h := (if_pos hc_1001).symm.trans h
      refine g_iload_n (j := 2) C dX6_cleanedAt_61 rfl rfl ?_
      obtain rfl := Option.some.inj h
      exact g_iret rfl C hr rfl dX6_cleanedAt_62
    · replace h := (if_neg hc_1001).symm.trans h
      refine g_iload_n (j := 2) C dX6_cleanedAt_14 rfl rfl ?_
      refine g_aload_n (j := 0) C dX6_cleanedAt_15 rfl rfl ?_
      refine g_iload_n (j := 3) C dX6_cleanedAt_16 rfl rfl ?_
      obtain ⟨q_1002, hq_1003, h⟩ := bind_isome h
      refine g_vi (ws' := (zW cy ad shM E X)) (As := [.int v3]) (rest := [.int v2]) (res := q_1002) C (c_X6_isOther l D cy ad E X v3 hq_1003) zml_RX6_145 zcv_X6_isOther (zW_get X sM_0) rfl rfl rfl ⟨Nat.le_of_ble_eq_true rfl, Nat.le_of_ble_eq_true rfl⟩ rfl rfl (Nat.le_of_ble_eq_true rfl) ⟨Nat.zero_le _, Nat.zero_le _⟩ dX6_cleanedAt_17 ?_
      refine g_if_eq C dX6_cleanedAt_20 (tgt := 52) (by decide) (fun hc_1004 => ?_) (fun hc_1004 => ?_)
      · replace h := (if_pos hc_1004).symm.trans h
        refine g_iconst (v := (nI 0)) C dX6_cleanedAt_52 (by decide) ?_
        refine g_iadd C dX6_cleanedAt_53 ?_
        refine g_istore_n (L' := [(2, .int (v2 + (nI 0))), (0, .ref (ad 0)), (1, .int v1), (3, .int v3)]) C dX6_cleanedAt_54 rfl (by decide) rfl ?_
        refine g_iinc (k := 3) (L' := [(3, .int (v3 + 1)), (2, .int (v2 + (nI 0))), (0, .ref (ad 0)), (1, .int v1)]) C dX6_cleanedAt_55 rfl (z_iinc (by decide)) (by decide) rfl ?_
        refine g_goto C dX6_cleanedAt_58 (tgt := 4) (by decide) ?_
        refine zG_sub (L' := [(0, .ref (ad 0)), (1, .int v1), (2, .int (v2 + (nI 0))), (3, .int (v3 + 1))]) [2, 3, 1, 0] rfl ?_
        exact ih (v2 + (nI 0)) (v3 + 1) h
      · replace h := (if_neg hc_1004).symm.trans h
        refine g_iload_n (j := 1) C dX6_cleanedAt_23 rfl rfl ?_
        refine g_aload_n (j := 0) C dX6_cleanedAt_24 rfl rfl ?_
        refine g_iload_n (j := 3) C dX6_cleanedAt_25 rfl rfl ?_
        obtain ⟨q_1005, hq_1006, h⟩ := bind_isome h
        refine g_vi (ws' := (zW cy ad shM E X)) (As := [.int v3]) (rest := [.int v1, .int v2]) (res := q_1005) C (c_X6_endOf l D cy ad E X v3 hq_1006) zml_RX6_151 zcv_X6_endOf (zW_get X sM_0) rfl rfl rfl ⟨Nat.le_of_ble_eq_true rfl, Nat.le_of_ble_eq_true rfl⟩ rfl rfl (Nat.le_of_ble_eq_true rfl) ⟨Nat.zero_le _, Nat.zero_le _⟩ dX6_cleanedAt_26 ?_
        refine g_aload_n (j := 0) C dX6_cleanedAt_29 rfl rfl ?_
        refine g_iload_n (j := 3) C dX6_cleanedAt_30 rfl rfl ?_
        obtain ⟨q_1007, hq_1008, h⟩ := bind_isome h
        refine g_vi (ws' := (zW cy ad shM E X)) (As := [.int v3]) (rest := [.int q_1005, .int v1, .int v2]) (res := q_1007) C (c_X6_endOf l D cy ad E X v3 hq_1008) zml_RX6_151 zcv_X6_endOf (zW_get X sM_0) rfl rfl rfl ⟨Nat.le_of_ble_eq_true rfl, Nat.le_of_ble_eq_true rfl⟩ rfl rfl (Nat.le_of_ble_eq_true rfl) ⟨Nat.zero_le _, Nat.zero_le _⟩ dX6_cleanedAt_31 ?_
        refine g_aload_n (j := 0) C dX6_cleanedAt_34 rfl rfl ?_
        refine g_iload_n (j := 3) C dX6_cleanedAt_35 rfl rfl ?_
        obtain ⟨q_1009, hq_1010, h⟩ := bind_isome h
        refine g_vi (ws' := (zW cy ad shM E X)) (As := [.int v3]) (rest := [.int q_1007, .int q_1005, .int v1, .int v2]) (res := q_1009) C (c_X6_cleanOf l D cy ad E X v3 hq_1010) zml_RX6_154 zcv_X6_cleanOf (zW_get X sM_0) rfl rfl rfl ⟨Nat.le_of_ble_eq_true rfl, Nat.le_of_ble_eq_true rfl⟩ rfl rfl (Nat.le_of_ble_eq_true rfl) ⟨Nat.zero_le _, Nat.zero_le _⟩ dX6_cleanedAt_36 ?_
        refine g_iadd C dX6_cleanedAt_39 ?_
        refine g_iconst (v := (nI 1)) C dX6_cleanedAt_40 (by decide) ?_
        refine g_isub C dX6_cleanedAt_41 ?_
        refine g_si (ws' := (zW cy ad shM E X)) (As := [.int v1, .int q_1005, .int ((q_1007 + q_1009) - (nI 1))]) (rest := [.int v2]) (res := (f_X6_in v1 q_1005 ((q_1007 + q_1009) - (nI 1)))) C (c_X6_in l D cy (zW cy ad shM E X) v1 q_1005 ((q_1007 + q_1009) - (nI 1))) zml_RX6_64 zcs_X6_in rfl rfl ⟨Nat.le_of_ble_eq_true rfl, Nat.le_of_ble_eq_true rfl⟩ rfl rfl (Nat.le_of_ble_eq_true rfl) ⟨Nat.zero_le _, Nat.zero_le _⟩ dX6_cleanedAt_42 ?_
        refine g_if_eq C dX6_cleanedAt_45 (tgt := 52) (by decide) (fun hc_1011 => ?_) (fun hc_1011 => ?_)
        · replace h := (if_pos hc_1011).symm.trans h
          refine g_iconst (v := (nI 0)) C dX6_cleanedAt_52 (by decide) ?_
          refine g_iadd C dX6_cleanedAt_53 ?_
          refine g_istore_n (L' := [(2, .int (v2 + (nI 0))), (0, .ref (ad 0)), (1, .int v1), (3, .int v3)]) C dX6_cleanedAt_54 rfl (by decide) rfl ?_
          refine g_iinc (k := 3) (L' := [(3, .int (v3 + 1)), (2, .int (v2 + (nI 0))), (0, .ref (ad 0)), (1, .int v1)]) C dX6_cleanedAt_55 rfl (z_iinc (by decide)) (by decide) rfl ?_
          refine g_goto C dX6_cleanedAt_58 (tgt := 4) (by decide) ?_
          refine zG_sub (L' := [(0, .ref (ad 0)), (1, .int v1), (2, .int (v2 + (nI 0))), (3, .int (v3 + 1))]) [2, 3, 1, 0] rfl ?_
          exact ih (v2 + (nI 0)) (v3 + 1) h
        · replace h := (if_neg hc_1011).symm.trans h
          refine g_iconst (v := (nI 1)) C dX6_cleanedAt_48 (by decide) ?_
          refine g_goto C dX6_cleanedAt_49 (tgt := 53) (by decide) ?_
          refine g_iadd C dX6_cleanedAt_53 ?_
          refine g_istore_n (L' := [(2, .int (v2 + (nI 1))), (0, .ref (ad 0)), (1, .int v1), (3, .int v3)]) C dX6_cleanedAt_54 rfl (by decide) rfl ?_
          refine g_iinc (k := 3) (L' := [(3, .int (v3 + 1)), (2, .int (v2 + (nI 1))), (0, .ref (ad 0)), (1, .int v1)]) C dX6_cleanedAt_55 rfl (z_iinc (by decide)) (by decide) rfl ?_
          refine g_goto C dX6_cleanedAt_58 (tgt := 4) (by decide) ?_
          refine zG_sub (L' := [(0, .ref (ad 0)), (1, .int v1), (2, .int (v2 + (nI 1))), (3, .int (v3 + 1))]) [2, 3, 1, 0] rfl ?_
          exact ih (v2 + (nI 1)) (v3 + 1) h
def f_X6_cleanedAt (X : Nat → Nat → Int32) (v1 : Int32) : Option Int32 := f_X6_cleanedAt_L4 X v1 zFuel (nI 1) (nI 0)
set_option maxRecDepth 100000 in
set_option maxHeartbeats 4000000 in
theorem c_X6_cleanedAt (l : Launch) (D : va_G) (cy : Nat → ClassId) (ad : Nat → Nat) (E : va_W) (X : Nat → Nat → Int32) (v1 : Int32) {res : Int32} (h : f_X6_cleanedAt X v1 = some res) : zMi l yX6_cleanedAt cX6_cleanedAt 4 (some .int) (zrm 4) D (zTy cy) (zW cy ad shM E X) [.ref (ad 0), .int v1] res (zW cy ad shM E X) := by
  refine zMi.of (by decide) (Nat.le_of_ble_eq_true rfl) ?_
  intro p e s m below meth c A C hr
  unfold f_X6_cleanedAt at h
  refine zG_L (L' := [(0, .ref (ad 0)), (1, .int v1)]) rfl ?_
  refine g_iconst (v := (nI 1)) C dX6_cleanedAt_0 (by decide) ?_
  refine g_istore_n (L' := [(2, .int (nI 1)), (0, .ref (ad 0)), (1, .int v1)]) C dX6_cleanedAt_1 rfl (by decide) rfl ?_
  refine g_iconst (v := (nI 0)) C dX6_cleanedAt_2 (by decide) ?_
  refine g_istore_n (L' := [(3, .int (nI 0)), (2, .int (nI 1)), (0, .ref (ad 0)), (1, .int v1)]) C dX6_cleanedAt_3 rfl (by decide) rfl ?_
  refine zG_sub (L' := [(0, .ref (ad 0)), (1, .int v1), (2, .int (nI 1)), (3, .int (nI 0))]) [2, 3, 1, 0] rfl ?_
  exact w_X6_cleanedAt_L4 l D cy ad E X v1 C hr zFuel (nI 1) (nI 0) h
def f_X6_tooManyCleaned_L45 (X : Nat → Nat → Int32) (v1 : Int32) : Nat → Int32 → Int32 → Option Int32
  | 0, _, _ => none
  | fu + 1, v2, v3 => (if (X 1 (nI 4).toNatClampNeg) ≤ v3 then some v2 else ((f_X6_endOf X v3).bind fun q_1008 => ((f_X6_isOther X v3).bind fun q_1010 => (if q_1010 = 0 then f_X6_tooManyCleaned_L45 X v1 fu v2 (v3 + 1) else (if q_1008 ≤ (X 0 19) then f_X6_tooManyCleaned_L45 X v1 fu v2 (v3 + 1) else (if ((X 0 19) + v1) ≤ q_1008 then f_X6_tooManyCleaned_L45 X v1 fu v2 (v3 + 1) else (if v2 = (-1 : Int32) then ((f_X6_cleanedAt X q_1008).bind fun q_1016 => (if q_1016 ≤ (X 1 (nI 9).toNatClampNeg) then f_X6_tooManyCleaned_L45 X v1 fu v2 (v3 + 1) else f_X6_tooManyCleaned_L45 X v1 fu q_1008 (v3 + 1))) else (if v2 ≤ q_1008 then f_X6_tooManyCleaned_L45 X v1 fu v2 (v3 + 1) else ((f_X6_cleanedAt X q_1008).bind fun q_1020 => (if q_1020 ≤ (X 1 (nI 9).toNatClampNeg) then f_X6_tooManyCleaned_L45 X v1 fu v2 (v3 + 1) else f_X6_tooManyCleaned_L45 X v1 fu q_1008 (v3 + 1)))))))))))
set_option maxRecDepth 100000 in
set_option maxHeartbeats 4000000 in
theorem w_X6_tooManyCleaned_L45 {p : Program} {e : Env} {s : State} {m : MethodId} {args : Array Value} {below : List Frame} {meth : Method} {c : Code} {A : Nat → Prop} (l : Launch) (D : va_G) (cy : Nat → ClassId) (ad : Nat → Nat) (E : va_W) (X : Nat → Nat → Int32) (v1 : Int32) {res : Int32} (C : zC p s m args meth c cX6_tooManyCleaned 5 RX6 D (zTy cy) A) (hr : meth.sig.returnType = (some .int)) : ∀ (fu : Nat) (v2 v3 : Int32) (h : f_X6_tooManyCleaned_L45 X v1 fu v2 v3 = some res), zG p l e (zrm 5) s m args below meth c 5 D A 0 0 (MQ below (va_Qi (fun (r : Int32) (_ : Unit) => r = res) (fun _ t => zB D (zTy cy) A (zW cy ad shM E X) t) A) args s 0 0 A) (zW cy ad shM E X) 45 [(0, .ref (ad 0)), (1, .int v1), (2, .int v2), (3, .int v3)] [] := by
  intro fu
  induction fu with
  | zero => intro v2 v3 h; simp [f_X6_tooManyCleaned_L45] at h
  | succ fu ih =>
    intro v2 v3 h
    rw [f_X6_tooManyCleaned_L45] at h
    refine g_iload_n (j := 3) C dX6_tooManyCleaned_45 rfl rfl ?_
    refine g_aload_n (j := 0) C dX6_tooManyCleaned_46 rfl rfl ?_
    refine g_getr (k := 1) (N := 27) C sM_0 rfl zin_RX6 (by decide) rfl zfl_RX6_9 rfl dX6_tooManyCleaned_47 ?_
    refine g_iconst (v := (nI 4)) C dX6_tooManyCleaned_50 (by decide) ?_
    refine g_iald C sM_1 (by decide) dX6_tooManyCleaned_51 ?_
    refine g_icmp_ge C dX6_tooManyCleaned_52 (tgt := 126) (by decide) (fun hc_1007 => ?_) (fun hc_1007 => ?_)
    · replace h := (if_pos hc_1007).symm.trans h
      refine g_iload_n (j := 2) C dX6_tooManyCleaned_126 rfl rfl ?_
      obtain rfl := Option.some.inj h
      exact g_iret rfl C hr rfl dX6_tooManyCleaned_127
    · replace h := (if_neg hc_1007).symm.trans h
      refine g_aload_n (j := 0) C dX6_tooManyCleaned_55 rfl rfl ?_
      refine g_iload_n (j := 3) C dX6_tooManyCleaned_56 rfl rfl ?_
      obtain ⟨q_1008, hq_1009, h⟩ := bind_isome h
      refine g_vi (ws' := (zW cy ad shM E X)) (As := [.int v3]) (rest := []) (res := q_1008) C (c_X6_endOf l D cy ad E X v3 hq_1009) zml_RX6_151 zcv_X6_endOf (zW_get X sM_0) rfl rfl rfl ⟨Nat.le_of_ble_eq_true rfl, Nat.le_of_ble_eq_true rfl⟩ rfl rfl (Nat.le_of_ble_eq_true rfl) ⟨Nat.zero_le _, Nat.zero_le _⟩ dX6_tooManyCleaned_57 ?_
      refine g_istore (L' := [(4, .int q_1008), (0, .ref (ad 0)), (1, .int v1), (2, .int v2), (3, .int v3)]) C dX6_tooManyCleaned_60 (by decide) rfl ?_
      refine g_aload_n (j := 1) C dX6_tooManyCleaned_62 rfl rfl ?_
      refine g_iload_n (j := 4) C dX6_tooManyCleaned_63 rfl rfl ?_
      obtain ⟨q_1010, hq_1011, h⟩ := bind_isome h
      refine g_vi (ws' := (zW cy ad shM E X)) (As := [.int v3]) (rest := []) (res := q_1010) C (c_X6_isOther l D cy ad E X v3 hq_1011) zml_RX6_145 zcv_X6_isOther (zW_get X sM_0) rfl rfl rfl ⟨Nat.le_of_ble_eq_true rfl, Nat.le_of_ble_eq_true rfl⟩ rfl rfl (Nat.le_of_ble_eq_true rfl) ⟨Nat.zero_le _, Nat.zero_le _⟩ dX6_tooManyCleaned_64 ?_
      refine g_if_eq C dX6_tooManyCleaned_67 (tgt := 120) (by decide) (fun hc_1012 => ?_) (fun hc_1012 => ?_)
      · replace h := (if_pos hc_1012).symm.trans h
        refine g_iinc (k := 4) (L' := [(3, .int (v3 + 1)), (4, .int q_1008), (0, .ref (ad 0)), (1, .int v1), (2, .int v2)]) C dX6_tooManyCleaned_120 rfl (z_iinc (by decide)) (by decide) rfl ?_
        refine g_goto C dX6_tooManyCleaned_123 (tgt := 45) (by decide) ?_
        refine zG_sub (L' := [(0, .ref (ad 0)), (1, .int v1), (2, .int v2), (3, .int (v3 + 1))]) [2, 3, 4, 0] rfl ?_
        exact ih v2 (v3 + 1) h
      · replace h := (if_neg hc_1012).symm.trans h
        refine g_iload (j := 0) C dX6_tooManyCleaned_70 rfl ?_
        refine g_aload_n (j := 1) C dX6_tooManyCleaned_72 rfl rfl ?_
        refine g_geti (k := 19) (N := 27) C sM_0 rfl zin_RX6 (by decide) rfl zfl_RX6_139 rfl dX6_tooManyCleaned_73 ?_
        refine g_icmp_le C dX6_tooManyCleaned_76 (tgt := 120) (by decide) (fun hc_1013 => ?_) (fun hc_1013 => ?_)
        · replace h := (if_pos hc_1013).symm.trans h
          refine g_iinc (k := 4) (L' := [(3, .int (v3 + 1)), (4, .int q_1008), (0, .ref (ad 0)), (1, .int v1), (2, .int v2)]) C dX6_tooManyCleaned_120 rfl (z_iinc (by decide)) (by decide) rfl ?_
          refine g_goto C dX6_tooManyCleaned_123 (tgt := 45) (by decide) ?_
          refine zG_sub (L' := [(0, .ref (ad 0)), (1, .int v1), (2, .int v2), (3, .int (v3 + 1))]) [2, 3, 4, 0] rfl ?_
          exact ih v2 (v3 + 1) h
        · replace h := (if_neg hc_1013).symm.trans h
          refine g_iload (j := 0) C dX6_tooManyCleaned_79 rfl ?_
          refine g_aload_n (j := 1) C dX6_tooManyCleaned_81 rfl rfl ?_
          refine g_geti (k := 19) (N := 27) C sM_0 rfl zin_RX6 (by decide) rfl zfl_RX6_139 rfl dX6_tooManyCleaned_82 ?_
          refine g_iload_n (j := 2) C dX6_tooManyCleaned_85 rfl rfl ?_
          refine g_iadd C dX6_tooManyCleaned_86 ?_
          refine g_icmp_ge C dX6_tooManyCleaned_87 (tgt := 120) (by decide) (fun hc_1014 => ?_) (fun hc_1014 => ?_)
          · replace h := (if_pos hc_1014).symm.trans h
            refine g_iinc (k := 4) (L' := [(3, .int (v3 + 1)), (4, .int q_1008), (0, .ref (ad 0)), (1, .int v1), (2, .int v2)]) C dX6_tooManyCleaned_120 rfl (z_iinc (by decide)) (by decide) rfl ?_
            refine g_goto C dX6_tooManyCleaned_123 (tgt := 45) (by decide) ?_
            refine zG_sub (L' := [(0, .ref (ad 0)), (1, .int v1), (2, .int v2), (3, .int (v3 + 1))]) [2, 3, 4, 0] rfl ?_
            exact ih v2 (v3 + 1) h
          · replace h := (if_neg hc_1014).symm.trans h
            refine g_iload_n (j := 3) C dX6_tooManyCleaned_90 rfl rfl ?_
            refine g_iconst (v := (-1 : Int32)) C dX6_tooManyCleaned_91 (by decide) ?_
            refine g_icmp_eq C dX6_tooManyCleaned_92 (tgt := 101) (by decide) (fun hc_1015 => ?_) (fun hc_1015 => ?_)
            · replace h := (if_pos hc_1015).symm.trans h
              refine g_aload_n (j := 1) C dX6_tooManyCleaned_101 rfl rfl ?_
              refine g_iload (j := 0) C dX6_tooManyCleaned_102 rfl ?_
              obtain ⟨q_1016, hq_1017, h⟩ := bind_isome h
              refine g_vi (ws' := (zW cy ad shM E X)) (As := [.int q_1008]) (rest := []) (res := q_1016) C (c_X6_cleanedAt l D cy ad E X q_1008 hq_1017) zml_RX6_163 zcv_X6_cleanedAt (zW_get X sM_0) rfl rfl rfl ⟨Nat.le_of_ble_eq_true rfl, Nat.le_of_ble_eq_true rfl⟩ rfl rfl (Nat.le_of_ble_eq_true rfl) ⟨Nat.zero_le _, Nat.zero_le _⟩ dX6_tooManyCleaned_104 ?_
              refine g_aload_n (j := 1) C dX6_tooManyCleaned_107 rfl rfl ?_
              refine g_getr (k := 1) (N := 27) C sM_0 rfl zin_RX6 (by decide) rfl zfl_RX6_9 rfl dX6_tooManyCleaned_108 ?_
              refine g_bipush (v := (nI 9)) C dX6_tooManyCleaned_111 (by decide) ?_
              refine g_iald C sM_1 (by decide) dX6_tooManyCleaned_113 ?_
              refine g_icmp_le C dX6_tooManyCleaned_114 (tgt := 120) (by decide) (fun hc_1018 => ?_) (fun hc_1018 => ?_)
              · replace h := (if_pos hc_1018).symm.trans h
                refine g_iinc (k := 4) (L' := [(3, .int (v3 + 1)), (4, .int q_1008), (0, .ref (ad 0)), (1, .int v1), (2, .int v2)]) C dX6_tooManyCleaned_120 rfl (z_iinc (by decide)) (by decide) rfl ?_
                refine g_goto C dX6_tooManyCleaned_123 (tgt := 45) (by decide) ?_
                refine zG_sub (L' := [(0, .ref (ad 0)), (1, .int v1), (2, .int v2), (3, .int (v3 + 1))]) [2, 3, 4, 0] rfl ?_
                exact ih v2 (v3 + 1) h
              · replace h := (if_neg hc_1018).symm.trans h
                refine g_iload (j := 0) C dX6_tooManyCleaned_117 rfl ?_
                refine g_istore_n (L' := [(2, .int q_1008), (4, .int q_1008), (0, .ref (ad 0)), (1, .int v1), (3, .int v3)]) C dX6_tooManyCleaned_119 rfl (by decide) rfl ?_
                refine g_iinc (k := 4) (L' := [(3, .int (v3 + 1)), (2, .int q_1008), (4, .int q_1008), (0, .ref (ad 0)), (1, .int v1)]) C dX6_tooManyCleaned_120 rfl (z_iinc (by decide)) (by decide) rfl ?_
                refine g_goto C dX6_tooManyCleaned_123 (tgt := 45) (by decide) ?_
                refine zG_sub (L' := [(0, .ref (ad 0)), (1, .int v1), (2, .int q_1008), (3, .int (v3 + 1))]) [3, 4, 1, 0] rfl ?_
                exact ih q_1008 (v3 + 1) h
            · replace h := (if_neg hc_1015).symm.trans h
              refine g_iload (j := 0) C dX6_tooManyCleaned_95 rfl ?_
              refine g_iload_n (j := 3) C dX6_tooManyCleaned_97 rfl rfl ?_
              refine g_icmp_ge C dX6_tooManyCleaned_98 (tgt := 120) (by decide) (fun hc_1019 => ?_) (fun hc_1019 => ?_)
              · replace h := (if_pos hc_1019).symm.trans h
                refine g_iinc (k := 4) (L' := [(3, .int (v3 + 1)), (4, .int q_1008), (0, .ref (ad 0)), (1, .int v1), (2, .int v2)]) C dX6_tooManyCleaned_120 rfl (z_iinc (by decide)) (by decide) rfl ?_
                refine g_goto C dX6_tooManyCleaned_123 (tgt := 45) (by decide) ?_
                refine zG_sub (L' := [(0, .ref (ad 0)), (1, .int v1), (2, .int v2), (3, .int (v3 + 1))]) [2, 3, 4, 0] rfl ?_
                exact ih v2 (v3 + 1) h
              · replace h := (if_neg hc_1019).symm.trans h
                refine g_aload_n (j := 1) C dX6_tooManyCleaned_101 rfl rfl ?_
                refine g_iload (j := 0) C dX6_tooManyCleaned_102 rfl ?_
                obtain ⟨q_1020, hq_1021, h⟩ := bind_isome h
                refine g_vi (ws' := (zW cy ad shM E X)) (As := [.int q_1008]) (rest := []) (res := q_1020) C (c_X6_cleanedAt l D cy ad E X q_1008 hq_1021) zml_RX6_163 zcv_X6_cleanedAt (zW_get X sM_0) rfl rfl rfl ⟨Nat.le_of_ble_eq_true rfl, Nat.le_of_ble_eq_true rfl⟩ rfl rfl (Nat.le_of_ble_eq_true rfl) ⟨Nat.zero_le _, Nat.zero_le _⟩ dX6_tooManyCleaned_104 ?_
                refine g_aload_n (j := 1) C dX6_tooManyCleaned_107 rfl rfl ?_
                refine g_getr (k := 1) (N := 27) C sM_0 rfl zin_RX6 (by decide) rfl zfl_RX6_9 rfl dX6_tooManyCleaned_108 ?_
                refine g_bipush (v := (nI 9)) C dX6_tooManyCleaned_111 (by decide) ?_
                refine g_iald C sM_1 (by decide) dX6_tooManyCleaned_113 ?_
                refine g_icmp_le C dX6_tooManyCleaned_114 (tgt := 120) (by decide) (fun hc_1022 => ?_) (fun hc_1022 => ?_)
                · replace h := (if_pos hc_1022).symm.trans h
                  refine g_iinc (k := 4) (L' := [(3, .int (v3 + 1)), (4, .int q_1008), (0, .ref (ad 0)), (1, .int v1), (2, .int v2)]) C dX6_tooManyCleaned_120 rfl (z_iinc (by decide)) (by decide) rfl ?_
                  refine g_goto C dX6_tooManyCleaned_123 (tgt := 45) (by decide) ?_
                  refine zG_sub (L' := [(0, .ref (ad 0)), (1, .int v1), (2, .int v2), (3, .int (v3 + 1))]) [2, 3, 4, 0] rfl ?_
                  exact ih v2 (v3 + 1) h
                · replace h := (if_neg hc_1022).symm.trans h
                  refine g_iload (j := 0) C dX6_tooManyCleaned_117 rfl ?_
                  refine g_istore_n (L' := [(2, .int q_1008), (4, .int q_1008), (0, .ref (ad 0)), (1, .int v1), (3, .int v3)]) C dX6_tooManyCleaned_119 rfl (by decide) rfl ?_
                  refine g_iinc (k := 4) (L' := [(3, .int (v3 + 1)), (2, .int q_1008), (4, .int q_1008), (0, .ref (ad 0)), (1, .int v1)]) C dX6_tooManyCleaned_120 rfl (z_iinc (by decide)) (by decide) rfl ?_
                  refine g_goto C dX6_tooManyCleaned_123 (tgt := 45) (by decide) ?_
                  refine zG_sub (L' := [(0, .ref (ad 0)), (1, .int v1), (2, .int q_1008), (3, .int (v3 + 1))]) [3, 4, 1, 0] rfl ?_
                  exact ih q_1008 (v3 + 1) h
def f_X6_tooManyCleaned (X : Nat → Nat → Int32) : Option Int32 := ((f_X6_hallAt X (X 0 15) (nI 1)).bind fun q_1 => (if q_1 = 0 then some (-1 : Int32) else ((f_X6_cleanedAt X (X 0 19)).bind fun q_4 => (if q_4 ≤ (X 1 (nI 9).toNatClampNeg) then f_X6_tooManyCleaned_L45 X q_1 zFuel (-1 : Int32) (nI 0) else f_X6_tooManyCleaned_L45 X q_1 zFuel (X 0 19) (nI 0)))))
set_option maxRecDepth 100000 in
set_option maxHeartbeats 4000000 in
theorem c_X6_tooManyCleaned (l : Launch) (D : va_G) (cy : Nat → ClassId) (ad : Nat → Nat) (E : va_W) (X : Nat → Nat → Int32) {res : Int32} (h : f_X6_tooManyCleaned X = some res) : zMi l yX6_tooManyCleaned cX6_tooManyCleaned 5 (some .int) (zrm 5) D (zTy cy) (zW cy ad shM E X) [.ref (ad 0)] res (zW cy ad shM E X) := by
  refine zMi.of (by decide) (Nat.le_of_ble_eq_true rfl) ?_
  intro p e s m below meth c A C hr
  unfold f_X6_tooManyCleaned at h
  refine zG_L (L' := [(0, .ref (ad 0))]) rfl ?_
  refine g_aload_n (j := 0) C dX6_tooManyCleaned_0 rfl rfl ?_
  refine g_aload_n (j := 0) C dX6_tooManyCleaned_1 rfl rfl ?_
  refine g_geti (k := 15) (N := 27) C sM_0 rfl zin_RX6 (by decide) rfl zfl_RX6_142 rfl dX6_tooManyCleaned_2 ?_
  refine g_iconst (v := (nI 1)) C dX6_tooManyCleaned_5 (by decide) ?_
  obtain ⟨q_1, hq_2, h⟩ := bind_isome h
  refine g_vi (ws' := (zW cy ad shM E X)) (As := [.int (X 0 15), .int (nI 1)]) (rest := []) (res := q_1) C (c_X6_hallAt l D cy ad E X (X 0 15) (nI 1) hq_2) zml_RX6_95 zcv_X6_hallAt (zW_get X sM_0) rfl rfl rfl ⟨Nat.le_of_ble_eq_true rfl, Nat.le_of_ble_eq_true rfl⟩ rfl rfl (Nat.le_of_ble_eq_true rfl) ⟨Nat.zero_le _, Nat.zero_le _⟩ dX6_tooManyCleaned_6 ?_
  refine g_istore_n (L' := [(1, .int q_1), (0, .ref (ad 0))]) C dX6_tooManyCleaned_9 rfl (by decide) rfl ?_
  refine g_iload_n (j := 0) C dX6_tooManyCleaned_10 rfl rfl ?_
  refine g_if_ne C dX6_tooManyCleaned_11 (tgt := 16) (by decide) (fun hc_3 => ?_) (fun hc_3 => ?_)
  · replace h := (if_neg hc_3).symm.trans h
    refine g_aload_n (j := 1) C dX6_tooManyCleaned_16 rfl rfl ?_
    refine g_aload_n (j := 1) C dX6_tooManyCleaned_17 rfl rfl ?_
    refine g_geti (k := 19) (N := 27) C sM_0 rfl zin_RX6 (by decide) rfl zfl_RX6_139 rfl dX6_tooManyCleaned_18 ?_
    obtain ⟨q_4, hq_5, h⟩ := bind_isome h
    refine g_vi (ws' := (zW cy ad shM E X)) (As := [.int (X 0 19)]) (rest := []) (res := q_4) C (c_X6_cleanedAt l D cy ad E X (X 0 19) hq_5) zml_RX6_163 zcv_X6_cleanedAt (zW_get X sM_0) rfl rfl rfl ⟨Nat.le_of_ble_eq_true rfl, Nat.le_of_ble_eq_true rfl⟩ rfl rfl (Nat.le_of_ble_eq_true rfl) ⟨Nat.zero_le _, Nat.zero_le _⟩ dX6_tooManyCleaned_21 ?_
    refine g_aload_n (j := 1) C dX6_tooManyCleaned_24 rfl rfl ?_
    refine g_getr (k := 1) (N := 27) C sM_0 rfl zin_RX6 (by decide) rfl zfl_RX6_9 rfl dX6_tooManyCleaned_25 ?_
    refine g_bipush (v := (nI 9)) C dX6_tooManyCleaned_28 (by decide) ?_
    refine g_iald C sM_1 (by decide) dX6_tooManyCleaned_30 ?_
    refine g_icmp_le C dX6_tooManyCleaned_31 (tgt := 41) (by decide) (fun hc_6 => ?_) (fun hc_6 => ?_)
    · replace h := (if_pos hc_6).symm.trans h
      refine g_iconst (v := (-1 : Int32)) C dX6_tooManyCleaned_41 (by decide) ?_
      refine g_istore_n (L' := [(2, .int (-1 : Int32)), (1, .int q_1), (0, .ref (ad 0))]) C dX6_tooManyCleaned_42 rfl (by decide) rfl ?_
      refine g_iconst (v := (nI 0)) C dX6_tooManyCleaned_43 (by decide) ?_
      refine g_istore_n (L' := [(3, .int (nI 0)), (2, .int (-1 : Int32)), (1, .int q_1), (0, .ref (ad 0))]) C dX6_tooManyCleaned_44 rfl (by decide) rfl ?_
      refine zG_sub (L' := [(0, .ref (ad 0)), (1, .int q_1), (2, .int (-1 : Int32)), (3, .int (nI 0))]) [3, 2, 1, 0] rfl ?_
      exact w_X6_tooManyCleaned_L45 l D cy ad E X q_1 C hr zFuel (-1 : Int32) (nI 0) h
    · replace h := (if_neg hc_6).symm.trans h
      refine g_aload_n (j := 1) C dX6_tooManyCleaned_34 rfl rfl ?_
      refine g_geti (k := 19) (N := 27) C sM_0 rfl zin_RX6 (by decide) rfl zfl_RX6_139 rfl dX6_tooManyCleaned_35 ?_
      refine g_goto C dX6_tooManyCleaned_38 (tgt := 42) (by decide) ?_
      refine g_istore_n (L' := [(2, .int (X 0 19)), (1, .int q_1), (0, .ref (ad 0))]) C dX6_tooManyCleaned_42 rfl (by decide) rfl ?_
      refine g_iconst (v := (nI 0)) C dX6_tooManyCleaned_43 (by decide) ?_
      refine g_istore_n (L' := [(3, .int (nI 0)), (2, .int (X 0 19)), (1, .int q_1), (0, .ref (ad 0))]) C dX6_tooManyCleaned_44 rfl (by decide) rfl ?_
      refine zG_sub (L' := [(0, .ref (ad 0)), (1, .int q_1), (2, .int (X 0 19)), (3, .int (nI 0))]) [3, 2, 1, 0] rfl ?_
      exact w_X6_tooManyCleaned_L45 l D cy ad E X q_1 C hr zFuel (X 0 19) (nI 0) h
  · replace h := (if_pos hc_3).symm.trans h
    refine g_iconst (v := (-1 : Int32)) C dX6_tooManyCleaned_14 (by decide) ?_
    obtain rfl := Option.some.inj h
    exact g_iret rfl C hr rfl dX6_tooManyCleaned_15
def f_X6_isClosed (X : Nat → Nat → Int32) (v1 v2 : Int32) : Option Int32 := ((f_X6_hallAt X v1 (nI 3)).bind fun q_1 => (if q_1 = (-1 : Int32) then some (nI 0) else ((f_X6_hallAt X v1 (nI 3)).bind fun q_4 => (if v2 < q_4 then some (nI 0) else some (nI 1)))))
set_option maxRecDepth 100000 in
set_option maxHeartbeats 4000000 in
theorem c_X6_isClosed (l : Launch) (D : va_G) (cy : Nat → ClassId) (ad : Nat → Nat) (E : va_W) (X : Nat → Nat → Int32) (v1 v2 : Int32) {res : Int32} (h : f_X6_isClosed X v1 v2 = some res) : zMi l yX6_isClosed cX6_isClosed 3 (some .boolean) (zrm 2) D (zTy cy) (zW cy ad shM E X) [.ref (ad 0), .int v1, .int v2] res (zW cy ad shM E X) := by
  refine zMi.of (by decide) (Nat.le_of_ble_eq_true rfl) ?_
  intro p e s m below meth c A C hr
  unfold f_X6_isClosed at h
  refine zG_L (L' := [(0, .ref (ad 0)), (1, .int v1), (2, .int v2)]) rfl ?_
  refine g_aload_n (j := 0) C dX6_isClosed_0 rfl rfl ?_
  refine g_iload_n (j := 1) C dX6_isClosed_1 rfl rfl ?_
  refine g_iconst (v := (nI 3)) C dX6_isClosed_2 (by decide) ?_
  obtain ⟨q_1, hq_2, h⟩ := bind_isome h
  refine g_vi (ws' := (zW cy ad shM E X)) (As := [.int v1, .int (nI 3)]) (rest := []) (res := q_1) C (c_X6_hallAt l D cy ad E X v1 (nI 3) hq_2) zml_RX6_95 zcv_X6_hallAt (zW_get X sM_0) rfl rfl rfl ⟨Nat.le_of_ble_eq_true rfl, Nat.le_of_ble_eq_true rfl⟩ rfl rfl (Nat.le_of_ble_eq_true rfl) ⟨Nat.zero_le _, Nat.zero_le _⟩ dX6_isClosed_3 ?_
  refine g_iconst (v := (-1 : Int32)) C dX6_isClosed_6 (by decide) ?_
  refine g_icmp_eq C dX6_isClosed_7 (tgt := 24) (by decide) (fun hc_3 => ?_) (fun hc_3 => ?_)
  · replace h := (if_pos hc_3).symm.trans h
    refine g_iconst (v := (nI 0)) C dX6_isClosed_24 (by decide) ?_
    obtain rfl := Option.some.inj h
    exact g_iret rfl C hr (z_nb (Or.inl rfl)) dX6_isClosed_25
  · replace h := (if_neg hc_3).symm.trans h
    refine g_iload_n (j := 2) C dX6_isClosed_10 rfl rfl ?_
    refine g_aload_n (j := 0) C dX6_isClosed_11 rfl rfl ?_
    refine g_iload_n (j := 1) C dX6_isClosed_12 rfl rfl ?_
    refine g_iconst (v := (nI 3)) C dX6_isClosed_13 (by decide) ?_
    obtain ⟨q_4, hq_5, h⟩ := bind_isome h
    refine g_vi (ws' := (zW cy ad shM E X)) (As := [.int v1, .int (nI 3)]) (rest := [.int v2]) (res := q_4) C (c_X6_hallAt l D cy ad E X v1 (nI 3) hq_5) zml_RX6_95 zcv_X6_hallAt (zW_get X sM_0) rfl rfl rfl ⟨Nat.le_of_ble_eq_true rfl, Nat.le_of_ble_eq_true rfl⟩ rfl rfl (Nat.le_of_ble_eq_true rfl) ⟨Nat.zero_le _, Nat.zero_le _⟩ dX6_isClosed_14 ?_
    refine g_icmp_lt C dX6_isClosed_17 (tgt := 24) (by decide) (fun hc_6 => ?_) (fun hc_6 => ?_)
    · replace h := (if_pos hc_6).symm.trans h
      refine g_iconst (v := (nI 0)) C dX6_isClosed_24 (by decide) ?_
      obtain rfl := Option.some.inj h
      exact g_iret rfl C hr (z_nb (Or.inl rfl)) dX6_isClosed_25
    · replace h := (if_neg hc_6).symm.trans h
      refine g_iconst (v := (nI 1)) C dX6_isClosed_20 (by decide) ?_
      refine g_goto C dX6_isClosed_21 (tgt := 25) (by decide) ?_
      obtain rfl := Option.some.inj h
      exact g_iret rfl C hr (z_nb (Or.inr rfl)) dX6_isClosed_25
def f_X6_broken (X : Nat → Nat → Int32) (v1 v2 : Int32) : Int32 × (Nat → Nat → Int32) := (zlet (zU X 0 21 v2) fun X_1 => (v1, X_1))
set_option maxRecDepth 100000 in
set_option maxHeartbeats 4000000 in
theorem c_X6_broken (l : Launch) (D : va_G) (cy : Nat → ClassId) (ad : Nat → Nat) (E : va_W) (X : Nat → Nat → Int32) (v1 v2 : Int32) : zMi l yX6_broken cX6_broken 3 (some .int) (zrm 1) D (zTy cy) (zW cy ad shM E X) [.ref (ad 0), .int v1, .int v2] ((f_X6_broken X v1 v2).1) (zW cy ad shM E (f_X6_broken X v1 v2).2) := by
  refine zMi.of (by decide) (Nat.le_of_ble_eq_true rfl) ?_
  intro p e s m below meth c A C hr
  generalize h : f_X6_broken X v1 v2 = res
  unfold f_X6_broken at h
  refine zG_L (L' := [(0, .ref (ad 0)), (1, .int v1), (2, .int v2)]) rfl ?_
  refine g_aload_n (j := 0) C dX6_broken_0 rfl rfl ?_
  refine g_iload_n (j := 2) C dX6_broken_1 rfl rfl ?_
  refine g_puti (k := 21) (N := 27) (ty := .int) C sM_0 rfl zin_RX6 (by decide) rfl zfl_RX6_166 rfl tyX6_ok nmX6 rfl (by decide +kernel) rfl rfl dX6_broken_2 ?_
  obtain ⟨X_1, e_2, h⟩ := zlet_ex h
  rw [← e_2]
  refine g_iload_n (j := 1) C dX6_broken_5 rfl rfl ?_
  subst h
  exact g_iret rfl C hr rfl dX6_broken_6
def f_X6_breaks (X : Nat → Nat → Int32) (v1 v2 v3 v4 v5 v6 : Int32) : Option (Int32 × (Nat → Nat → Int32)) := (zlet (zU X 0 15 v1) fun X_1 => (zlet (zU X_1 0 16 v2) fun X_3 => (zlet (zU X_3 0 17 v3) fun X_5 => (zlet (zU X_5 0 18 v4) fun X_7 => (zlet (zU X_7 0 19 (v4 + v5)) fun X_9 => (zlet (zU X_9 0 20 v6) fun X_11 => (if (X_11 1 (nI 0).toNatClampNeg) ≤ v3 then ((f_X6_isClosed X_11 v1 v3).bind fun q_14 => (if q_14 = 0 then ((f_X6_filmAt X_11 v2 (nI 4)).bind fun q_17 => (if q_17 ≤ v3 then ((f_X6_filmAt X_11 v2 (nI 1)).bind fun q_20 => (if ((nI 14) + (v4 / (nI 60))) < 0 ∨ 580 ≤ ((nI 14) + (v4 / (nI 60))).toNatClampNeg then none else (if q_20 ≤ (X_11 1 ((nI 14) + (v4 / (nI 60))).toNatClampNeg) then (if (X_11 0 19) ≤ (nI 960) then ((f_X6_meetsInHall X_11).bind fun q_25 => (if q_25 = (-1 : Int32) then ((f_X6_tooManyCopies X_11).bind fun q_28 => (if q_28 = (-1 : Int32) then ((f_X6_meetsAtExit X_11).bind fun q_31 => (if q_31 = (-1 : Int32) then ((f_X6_tooManyCleaned X_11).bind fun q_34 => (if q_34 = (-1 : Int32) then (zlet (f_X6_broken X_11 (nI 0) (-1 : Int32)) fun q_37 => some (q_37.1, q_37.2)) else (zlet (f_X6_broken X_11 (nI 9) q_34) fun q_39 => some (q_39.1, q_39.2)))) else (zlet (f_X6_broken X_11 (nI 8) q_31) fun q_41 => some (q_41.1, q_41.2)))) else (zlet (f_X6_broken X_11 (nI 7) q_28) fun q_43 => some (q_43.1, q_43.2)))) else (zlet (f_X6_broken X_11 (nI 6) q_25) fun q_45 => some (q_45.1, q_45.2)))) else (zlet (f_X6_broken X_11 (nI 5) (X_11 0 19)) fun q_47 => some (q_47.1, q_47.2))) else (if ((nI 14) + (v4 / (nI 60))) < 0 ∨ 580 ≤ ((nI 14) + (v4 / (nI 60))).toNatClampNeg then none else (zlet (f_X6_broken X_11 (nI 4) (X_11 1 ((nI 14) + (v4 / (nI 60))).toNatClampNeg)) fun q_50 => some (q_50.1, q_50.2)))))) else ((f_X6_filmAt X_11 v2 (nI 4)).bind fun q_52 => (zlet (f_X6_broken X_11 (nI 3) q_52) fun q_54 => some (q_54.1, q_54.2))))) else (zlet (f_X6_broken X_11 (nI 2) v1) fun q_56 => some (q_56.1, q_56.2)))) else (zlet (f_X6_broken X_11 (nI 1) (X_11 1 (nI 0).toNatClampNeg)) fun q_58 => some (q_58.1, q_58.2)))))))))
set_option maxRecDepth 100000 in
set_option maxHeartbeats 4000000 in
theorem c_X6_breaks (l : Launch) (D : va_G) (cy : Nat → ClassId) (ad : Nat → Nat) (E : va_W) (X : Nat → Nat → Int32) (v1 v2 v3 v4 v5 v6 : Int32) {res : Int32 × (Nat → Nat → Int32)} (h : f_X6_breaks X v1 v2 v3 v4 v5 v6 = some res) : zMi l yX6_breaks cX6_breaks 11 (some .int) (zrm 6) D (zTy cy) (zW cy ad shM E X) [.ref (ad 0), .int v1, .int v2, .int v3, .int v4, .int v5, .int v6] res.1 (zW cy ad shM E res.2) := by
  refine zMi.of (by decide) (Nat.le_of_ble_eq_true rfl) ?_
  intro p e s m below meth c A C hr
  unfold f_X6_breaks at h
  refine zG_L (L' := [(0, .ref (ad 0)), (1, .int v1), (2, .int v2), (3, .int v3), (4, .int v4), (5, .int v5), (6, .int v6)]) rfl ?_
  refine g_aload_n (j := 0) C dX6_breaks_0 rfl rfl ?_
  refine g_iload_n (j := 1) C dX6_breaks_1 rfl rfl ?_
  refine g_puti (k := 15) (N := 27) (ty := .int) C sM_0 rfl zin_RX6 (by decide) rfl zfl_RX6_142 rfl tyX6_ok nmX6 rfl (by decide +kernel) rfl rfl dX6_breaks_2 ?_
  obtain ⟨X_1, e_2, h⟩ := zlet_ex h
  rw [← e_2]
  refine g_aload_n (j := 0) C dX6_breaks_5 rfl rfl ?_
  refine g_iload_n (j := 2) C dX6_breaks_6 rfl rfl ?_
  refine g_puti (k := 16) (N := 27) (ty := .int) C sM_0 rfl zin_RX6 (by decide) rfl zfl_RX6_157 rfl tyX6_ok nmX6 rfl (by decide +kernel) rfl rfl dX6_breaks_7 ?_
  obtain ⟨X_3, e_4, h⟩ := zlet_ex h
  rw [← e_4]
  refine g_aload_n (j := 0) C dX6_breaks_10 rfl rfl ?_
  refine g_iload_n (j := 3) C dX6_breaks_11 rfl rfl ?_
  refine g_puti (k := 17) (N := 27) (ty := .int) C sM_0 rfl zin_RX6 (by decide) rfl zfl_RX6_136 rfl tyX6_ok nmX6 rfl (by decide +kernel) rfl rfl dX6_breaks_12 ?_
  obtain ⟨X_5, e_6, h⟩ := zlet_ex h
  rw [← e_6]
  refine g_aload_n (j := 0) C dX6_breaks_15 rfl rfl ?_
  refine g_iload (j := 4) C dX6_breaks_16 rfl ?_
  refine g_puti (k := 18) (N := 27) (ty := .int) C sM_0 rfl zin_RX6 (by decide) rfl zfl_RX6_148 rfl tyX6_ok nmX6 rfl (by decide +kernel) rfl rfl dX6_breaks_18 ?_
  obtain ⟨X_7, e_8, h⟩ := zlet_ex h
  rw [← e_8]
  refine g_aload_n (j := 0) C dX6_breaks_21 rfl rfl ?_
  refine g_iload (j := 4) C dX6_breaks_22 rfl ?_
  refine g_iload (j := 5) C dX6_breaks_24 rfl ?_
  refine g_iadd C dX6_breaks_26 ?_
  refine g_puti (k := 19) (N := 27) (ty := .int) C sM_0 rfl zin_RX6 (by decide) rfl zfl_RX6_139 rfl tyX6_ok nmX6 rfl (by decide +kernel) rfl rfl dX6_breaks_27 ?_
  obtain ⟨X_9, e_10, h⟩ := zlet_ex h
  rw [← e_10]
  refine g_aload_n (j := 0) C dX6_breaks_30 rfl rfl ?_
  refine g_iload (j := 6) C dX6_breaks_31 rfl ?_
  refine g_puti (k := 20) (N := 27) (ty := .int) C sM_0 rfl zin_RX6 (by decide) rfl zfl_RX6_133 rfl tyX6_ok nmX6 rfl (by decide +kernel) rfl rfl dX6_breaks_33 ?_
  obtain ⟨X_11, e_12, h⟩ := zlet_ex h
  rw [← e_12]
  refine g_iload_n (j := 3) C dX6_breaks_36 rfl rfl ?_
  refine g_aload_n (j := 0) C dX6_breaks_37 rfl rfl ?_
  refine g_getr (k := 1) (N := 27) C sM_0 rfl zin_RX6 (by decide) rfl zfl_RX6_9 rfl dX6_breaks_38 ?_
  refine g_iconst (v := (nI 0)) C dX6_breaks_41 (by decide) ?_
  refine g_iald C sM_1 (by decide) dX6_breaks_42 ?_
  refine g_icmp_ge C dX6_breaks_43 (tgt := 58) (by decide) (fun hc_13 => ?_) (fun hc_13 => ?_)
  · replace h := (if_pos hc_13).symm.trans h
    refine g_aload_n (j := 0) C dX6_breaks_58 rfl rfl ?_
    refine g_iload_n (j := 1) C dX6_breaks_59 rfl rfl ?_
    refine g_iload_n (j := 3) C dX6_breaks_60 rfl rfl ?_
    obtain ⟨q_14, hq_15, h⟩ := bind_isome h
    refine g_vi (ws' := (zW cy ad shM E X_11)) (As := [.int v1, .int v3]) (rest := []) (res := q_14) C (c_X6_isClosed l D cy ad E X_11 v1 v3 hq_15) zml_RX6_172 zcv_X6_isClosed (zW_get X_11 sM_0) rfl rfl rfl ⟨Nat.le_of_ble_eq_true rfl, Nat.le_of_ble_eq_true rfl⟩ rfl rfl (Nat.le_of_ble_eq_true rfl) ⟨Nat.zero_le _, Nat.zero_le _⟩ dX6_breaks_61 ?_
    refine g_if_eq C dX6_breaks_64 (tgt := 74) (by decide) (fun hc_16 => ?_) (fun hc_16 => ?_)
    · replace h := (if_pos hc_16).symm.trans h
      refine g_iload_n (j := 3) C dX6_breaks_74 rfl rfl ?_
      refine g_aload_n (j := 0) C dX6_breaks_75 rfl rfl ?_
      refine g_iload_n (j := 2) C dX6_breaks_76 rfl rfl ?_
      refine g_iconst (v := (nI 4)) C dX6_breaks_77 (by decide) ?_
      obtain ⟨q_17, hq_18, h⟩ := bind_isome h
      refine g_vi (ws' := (zW cy ad shM E X_11)) (As := [.int v2, .int (nI 4)]) (rest := [.int v3]) (res := q_17) C (c_X6_filmAt l D cy ad E X_11 v2 (nI 4) hq_18) zml_RX6_81 zcv_X6_filmAt (zW_get X_11 sM_0) rfl rfl rfl ⟨Nat.le_of_ble_eq_true rfl, Nat.le_of_ble_eq_true rfl⟩ rfl rfl (Nat.le_of_ble_eq_true rfl) ⟨Nat.zero_le _, Nat.zero_le _⟩ dX6_breaks_78 ?_
      refine g_icmp_ge C dX6_breaks_81 (tgt := 96) (by decide) (fun hc_19 => ?_) (fun hc_19 => ?_)
      · replace h := (if_pos hc_19).symm.trans h
        refine g_aload_n (j := 0) C dX6_breaks_96 rfl rfl ?_
        refine g_iload_n (j := 2) C dX6_breaks_97 rfl rfl ?_
        refine g_iconst (v := (nI 1)) C dX6_breaks_98 (by decide) ?_
        obtain ⟨q_20, hq_21, h⟩ := bind_isome h
        refine g_vi (ws' := (zW cy ad shM E X_11)) (As := [.int v2, .int (nI 1)]) (rest := []) (res := q_20) C (c_X6_filmAt l D cy ad E X_11 v2 (nI 1) hq_21) zml_RX6_81 zcv_X6_filmAt (zW_get X_11 sM_0) rfl rfl rfl ⟨Nat.le_of_ble_eq_true rfl, Nat.le_of_ble_eq_true rfl⟩ rfl rfl (Nat.le_of_ble_eq_true rfl) ⟨Nat.zero_le _, Nat.zero_le _⟩ dX6_breaks_99 ?_
        refine g_aload_n (j := 0) C dX6_breaks_102 rfl rfl ?_
        refine g_getr (k := 1) (N := 27) C sM_0 rfl zin_RX6 (by decide) rfl zfl_RX6_9 rfl dX6_breaks_103 ?_
        refine g_bipush (v := (nI 14)) C dX6_breaks_106 (by decide) ?_
        refine g_iload (j := 4) C dX6_breaks_108 rfl ?_
        refine g_bipush (v := (nI 60)) C dX6_breaks_110 (by decide) ?_
        refine g_idiv C dX6_breaks_112 (by decide) ?_
        refine g_iadd C dX6_breaks_113 ?_
        obtain ⟨hi_22, h⟩ := ite_inone h
        refine g_iald C sM_1 hi_22 dX6_breaks_114 ?_
        refine g_icmp_le C dX6_breaks_115 (tgt := 137) (by decide) (fun hc_23 => ?_) (fun hc_23 => ?_)
        · replace h := (if_pos hc_23).symm.trans h
          refine g_aload_n (j := 0) C dX6_breaks_137 rfl rfl ?_
          refine g_geti (k := 19) (N := 27) C sM_0 rfl zin_RX6 (by decide) rfl zfl_RX6_139 rfl dX6_breaks_138 ?_
          refine g_sipush (v := (nI 960)) C dX6_breaks_141 (by decide) ?_
          refine g_icmp_le C dX6_breaks_144 (tgt := 157) (by decide) (fun hc_24 => ?_) (fun hc_24 => ?_)
          · replace h := (if_pos hc_24).symm.trans h
            refine g_aload_n (j := 0) C dX6_breaks_157 rfl rfl ?_
            obtain ⟨q_25, hq_26, h⟩ := bind_isome h
            refine g_vi (ws' := (zW cy ad shM E X_11)) (As := []) (rest := []) (res := q_25) C (c_X6_meetsInHall l D cy ad E X_11 hq_26) zml_RX6_175 zcv_X6_meetsInHall (zW_get X_11 sM_0) rfl rfl rfl ⟨Nat.le_of_ble_eq_true rfl, Nat.le_of_ble_eq_true rfl⟩ rfl rfl (Nat.le_of_ble_eq_true rfl) ⟨Nat.zero_le _, Nat.zero_le _⟩ dX6_breaks_158 ?_
            refine g_istore (L' := [(7, .int q_25), (0, .ref (ad 0)), (1, .int v1), (2, .int v2), (3, .int v3), (4, .int v4), (5, .int v5), (6, .int v6)]) C dX6_breaks_161 (by decide) rfl ?_
            refine g_iload (j := 0) C dX6_breaks_163 rfl ?_
            refine g_iconst (v := (-1 : Int32)) C dX6_breaks_165 (by decide) ?_
            refine g_icmp_eq C dX6_breaks_166 (tgt := 178) (by decide) (fun hc_27 => ?_) (fun hc_27 => ?_)
            · replace h := (if_pos hc_27).symm.trans h
              refine g_aload_n (j := 1) C dX6_breaks_178 rfl rfl ?_
              obtain ⟨q_28, hq_29, h⟩ := bind_isome h
              refine g_vi (ws' := (zW cy ad shM E X_11)) (As := []) (rest := []) (res := q_28) C (c_X6_tooManyCopies l D cy ad E X_11 hq_29) zml_RX6_179 zcv_X6_tooManyCopies (zW_get X_11 sM_0) rfl rfl rfl ⟨Nat.le_of_ble_eq_true rfl, Nat.le_of_ble_eq_true rfl⟩ rfl rfl (Nat.le_of_ble_eq_true rfl) ⟨Nat.zero_le _, Nat.zero_le _⟩ dX6_breaks_179 ?_
              refine g_istore (L' := [(8, .int q_28), (7, .int q_25), (0, .ref (ad 0)), (1, .int v1), (2, .int v2), (3, .int v3), (4, .int v4), (5, .int v5), (6, .int v6)]) C dX6_breaks_182 (by decide) rfl ?_
              refine g_iload (j := 0) C dX6_breaks_184 rfl ?_
              refine g_iconst (v := (-1 : Int32)) C dX6_breaks_186 (by decide) ?_
              refine g_icmp_eq C dX6_breaks_187 (tgt := 199) (by decide) (fun hc_30 => ?_) (fun hc_30 => ?_)
              · replace h := (if_pos hc_30).symm.trans h
                refine g_aload_n (j := 2) C dX6_breaks_199 rfl rfl ?_
                obtain ⟨q_31, hq_32, h⟩ := bind_isome h
                refine g_vi (ws' := (zW cy ad shM E X_11)) (As := []) (rest := []) (res := q_31) C (c_X6_meetsAtExit l D cy ad E X_11 hq_32) zml_RX6_182 zcv_X6_meetsAtExit (zW_get X_11 sM_0) rfl rfl rfl ⟨Nat.le_of_ble_eq_true rfl, Nat.le_of_ble_eq_true rfl⟩ rfl rfl (Nat.le_of_ble_eq_true rfl) ⟨Nat.zero_le _, Nat.zero_le _⟩ dX6_breaks_200 ?_
                refine g_istore (L' := [(9, .int q_31), (8, .int q_28), (7, .int q_25), (0, .ref (ad 0)), (1, .int v1), (2, .int v2), (3, .int v3), (4, .int v4), (5, .int v5), (6, .int v6)]) C dX6_breaks_203 (by decide) rfl ?_
                refine g_iload (j := 0) C dX6_breaks_205 rfl ?_
                refine g_iconst (v := (-1 : Int32)) C dX6_breaks_207 (by decide) ?_
                refine g_icmp_eq C dX6_breaks_208 (tgt := 220) (by decide) (fun hc_33 => ?_) (fun hc_33 => ?_)
                · replace h := (if_pos hc_33).symm.trans h
                  refine g_aload_n (j := 3) C dX6_breaks_220 rfl rfl ?_
                  obtain ⟨q_34, hq_35, h⟩ := bind_isome h
                  refine g_vi (ws' := (zW cy ad shM E X_11)) (As := []) (rest := []) (res := q_34) C (c_X6_tooManyCleaned l D cy ad E X_11 hq_35) zml_RX6_185 zcv_X6_tooManyCleaned (zW_get X_11 sM_0) rfl rfl rfl ⟨Nat.le_of_ble_eq_true rfl, Nat.le_of_ble_eq_true rfl⟩ rfl rfl (Nat.le_of_ble_eq_true rfl) ⟨Nat.zero_le _, Nat.zero_le _⟩ dX6_breaks_221 ?_
                  refine g_istore (L' := [(10, .int q_34), (9, .int q_31), (8, .int q_28), (7, .int q_25), (0, .ref (ad 0)), (1, .int v1), (2, .int v2), (3, .int v3), (4, .int v4), (5, .int v5), (6, .int v6)]) C dX6_breaks_224 (by decide) rfl ?_
                  refine g_iload (j := 0) C dX6_breaks_226 rfl ?_
                  refine g_iconst (v := (-1 : Int32)) C dX6_breaks_228 (by decide) ?_
                  refine g_icmp_eq C dX6_breaks_229 (tgt := 243) (by decide) (fun hc_36 => ?_) (fun hc_36 => ?_)
                  · replace h := (if_pos hc_36).symm.trans h
                    refine g_aload_n (j := 4) C dX6_breaks_243 rfl rfl ?_
                    refine g_iconst (v := (nI 0)) C dX6_breaks_244 (by decide) ?_
                    refine g_iconst (v := (-1 : Int32)) C dX6_breaks_245 (by decide) ?_
                    obtain ⟨q_37, e_38, h⟩ := zlet_ex h
                    refine g_vi (ws' := (zW cy ad shM E q_37.2)) (As := [.int (nI 0), .int (-1 : Int32)]) (rest := []) (res := q_37.1) C ((by rw [e_38]; exact c_X6_broken l D cy ad E X_11 (nI 0) (-1 : Int32))) zml_RX6_169 zcv_X6_broken (zW_get X_11 sM_0) rfl rfl rfl ⟨Nat.le_of_ble_eq_true rfl, Nat.le_of_ble_eq_true rfl⟩ rfl rfl (Nat.le_of_ble_eq_true rfl) ⟨Nat.zero_le _, Nat.zero_le _⟩ dX6_breaks_246 ?_
                    obtain rfl := Option.some.inj h
                    exact g_iret rfl C hr rfl dX6_breaks_249
                  · replace h := (if_neg hc_36).symm.trans h
                    refine g_aload_n (j := 4) C dX6_breaks_232 rfl rfl ?_
                    refine g_bipush (v := (nI 9)) C dX6_breaks_233 (by decide) ?_
                    refine g_iload (j := 0) C dX6_breaks_235 rfl ?_
                    obtain ⟨q_39, e_40, h⟩ := zlet_ex h
                    refine g_vi (ws' := (zW cy ad shM E q_39.2)) (As := [.int (nI 9), .int q_34]) (rest := []) (res := q_39.1) C ((by rw [e_40]; exact c_X6_broken l D cy ad E X_11 (nI 9) q_34)) zml_RX6_169 zcv_X6_broken (zW_get X_11 sM_0) rfl rfl rfl ⟨Nat.le_of_ble_eq_true rfl, Nat.le_of_ble_eq_true rfl⟩ rfl rfl (Nat.le_of_ble_eq_true rfl) ⟨Nat.zero_le _, Nat.zero_le _⟩ dX6_breaks_237 ?_
                    refine g_goto C dX6_breaks_240 (tgt := 249) (by decide) ?_
                    obtain rfl := Option.some.inj h
                    exact g_iret rfl C hr rfl dX6_breaks_249
                · replace h := (if_neg hc_33).symm.trans h
                  refine g_aload_n (j := 3) C dX6_breaks_211 rfl rfl ?_
                  refine g_bipush (v := (nI 8)) C dX6_breaks_212 (by decide) ?_
                  refine g_iload (j := 0) C dX6_breaks_214 rfl ?_
                  obtain ⟨q_41, e_42, h⟩ := zlet_ex h
                  refine g_vi (ws' := (zW cy ad shM E q_41.2)) (As := [.int (nI 8), .int q_31]) (rest := []) (res := q_41.1) C ((by rw [e_42]; exact c_X6_broken l D cy ad E X_11 (nI 8) q_31)) zml_RX6_169 zcv_X6_broken (zW_get X_11 sM_0) rfl rfl rfl ⟨Nat.le_of_ble_eq_true rfl, Nat.le_of_ble_eq_true rfl⟩ rfl rfl (Nat.le_of_ble_eq_true rfl) ⟨Nat.zero_le _, Nat.zero_le _⟩ dX6_breaks_216 ?_
                  obtain rfl := Option.some.inj h
                  exact g_iret rfl C hr rfl dX6_breaks_219
              · replace h := (if_neg hc_30).symm.trans h
                refine g_aload_n (j := 2) C dX6_breaks_190 rfl rfl ?_
                refine g_bipush (v := (nI 7)) C dX6_breaks_191 (by decide) ?_
                refine g_iload (j := 0) C dX6_breaks_193 rfl ?_
                obtain ⟨q_43, e_44, h⟩ := zlet_ex h
                refine g_vi (ws' := (zW cy ad shM E q_43.2)) (As := [.int (nI 7), .int q_28]) (rest := []) (res := q_43.1) C ((by rw [e_44]; exact c_X6_broken l D cy ad E X_11 (nI 7) q_28)) zml_RX6_169 zcv_X6_broken (zW_get X_11 sM_0) rfl rfl rfl ⟨Nat.le_of_ble_eq_true rfl, Nat.le_of_ble_eq_true rfl⟩ rfl rfl (Nat.le_of_ble_eq_true rfl) ⟨Nat.zero_le _, Nat.zero_le _⟩ dX6_breaks_195 ?_
                obtain rfl := Option.some.inj h
                exact g_iret rfl C hr rfl dX6_breaks_198
            · replace h := (if_neg hc_27).symm.trans h
              refine g_aload_n (j := 1) C dX6_breaks_169 rfl rfl ?_
              refine g_bipush (v := (nI 6)) C dX6_breaks_170 (by decide) ?_
              refine g_iload (j := 0) C dX6_breaks_172 rfl ?_
              obtain ⟨q_45, e_46, h⟩ := zlet_ex h
              refine g_vi (ws' := (zW cy ad shM E q_45.2)) (As := [.int (nI 6), .int q_25]) (rest := []) (res := q_45.1) C ((by rw [e_46]; exact c_X6_broken l D cy ad E X_11 (nI 6) q_25)) zml_RX6_169 zcv_X6_broken (zW_get X_11 sM_0) rfl rfl rfl ⟨Nat.le_of_ble_eq_true rfl, Nat.le_of_ble_eq_true rfl⟩ rfl rfl (Nat.le_of_ble_eq_true rfl) ⟨Nat.zero_le _, Nat.zero_le _⟩ dX6_breaks_174 ?_
              obtain rfl := Option.some.inj h
              exact g_iret rfl C hr rfl dX6_breaks_177
          · replace h := (if_neg hc_24).symm.trans h
            refine g_aload_n (j := 0) C dX6_breaks_147 rfl rfl ?_
            refine g_iconst (v := (nI 5)) C dX6_breaks_148 (by decide) ?_
            refine g_aload_n (j := 0) C dX6_breaks_149 rfl rfl ?_
            refine g_geti (k := 19) (N := 27) C sM_0 rfl zin_RX6 (by decide) rfl zfl_RX6_139 rfl dX6_breaks_150 ?_
            obtain ⟨q_47, e_48, h⟩ := zlet_ex h
            refine g_vi (ws' := (zW cy ad shM E q_47.2)) (As := [.int (nI 5), .int (X_11 0 19)]) (rest := []) (res := q_47.1) C ((by rw [e_48]; exact c_X6_broken l D cy ad E X_11 (nI 5) (X_11 0 19))) zml_RX6_169 zcv_X6_broken (zW_get X_11 sM_0) rfl rfl rfl ⟨Nat.le_of_ble_eq_true rfl, Nat.le_of_ble_eq_true rfl⟩ rfl rfl (Nat.le_of_ble_eq_true rfl) ⟨Nat.zero_le _, Nat.zero_le _⟩ dX6_breaks_153 ?_
            obtain rfl := Option.some.inj h
            exact g_iret rfl C hr rfl dX6_breaks_156
        · replace h := (if_neg hc_23).symm.trans h
          refine g_aload_n (j := 0) C dX6_breaks_118 rfl rfl ?_
          refine g_iconst (v := (nI 4)) C dX6_breaks_119 (by decide) ?_
          refine g_aload_n (j := 0) C dX6_breaks_120 rfl rfl ?_
          refine g_getr (k := 1) (N := 27) C sM_0 rfl zin_RX6 (by decide) rfl zfl_RX6_9 rfl dX6_breaks_121 ?_
          refine g_bipush (v := (nI 14)) C dX6_breaks_124 (by decide) ?_
          refine g_iload (j := 4) C dX6_breaks_126 rfl ?_
          refine g_bipush (v := (nI 60)) C dX6_breaks_128 (by decide) ?_
          refine g_idiv C dX6_breaks_130 (by decide) ?_
          refine g_iadd C dX6_breaks_131 ?_
          obtain ⟨hi_49, h⟩ := ite_inone h
          refine g_iald C sM_1 hi_49 dX6_breaks_132 ?_
          obtain ⟨q_50, e_51, h⟩ := zlet_ex h
          refine g_vi (ws' := (zW cy ad shM E q_50.2)) (As := [.int (nI 4), .int (X_11 1 ((nI 14) + (v4 / (nI 60))).toNatClampNeg)]) (rest := []) (res := q_50.1) C ((by rw [e_51]; exact c_X6_broken l D cy ad E X_11 (nI 4) (X_11 1 ((nI 14) + (v4 / (nI 60))).toNatClampNeg))) zml_RX6_169 zcv_X6_broken (zW_get X_11 sM_0) rfl rfl rfl ⟨Nat.le_of_ble_eq_true rfl, Nat.le_of_ble_eq_true rfl⟩ rfl rfl (Nat.le_of_ble_eq_true rfl) ⟨Nat.zero_le _, Nat.zero_le _⟩ dX6_breaks_133 ?_
          obtain rfl := Option.some.inj h
          exact g_iret rfl C hr rfl dX6_breaks_136
      · replace h := (if_neg hc_19).symm.trans h
        refine g_aload_n (j := 0) C dX6_breaks_84 rfl rfl ?_
        refine g_iconst (v := (nI 3)) C dX6_breaks_85 (by decide) ?_
        refine g_aload_n (j := 0) C dX6_breaks_86 rfl rfl ?_
        refine g_iload_n (j := 2) C dX6_breaks_87 rfl rfl ?_
        refine g_iconst (v := (nI 4)) C dX6_breaks_88 (by decide) ?_
        obtain ⟨q_52, hq_53, h⟩ := bind_isome h
        refine g_vi (ws' := (zW cy ad shM E X_11)) (As := [.int v2, .int (nI 4)]) (rest := [.int (nI 3), .ref (ad 0)]) (res := q_52) C (c_X6_filmAt l D cy ad E X_11 v2 (nI 4) hq_53) zml_RX6_81 zcv_X6_filmAt (zW_get X_11 sM_0) rfl rfl rfl ⟨Nat.le_of_ble_eq_true rfl, Nat.le_of_ble_eq_true rfl⟩ rfl rfl (Nat.le_of_ble_eq_true rfl) ⟨Nat.zero_le _, Nat.zero_le _⟩ dX6_breaks_89 ?_
        obtain ⟨q_54, e_55, h⟩ := zlet_ex h
        refine g_vi (ws' := (zW cy ad shM E q_54.2)) (As := [.int (nI 3), .int q_52]) (rest := []) (res := q_54.1) C ((by rw [e_55]; exact c_X6_broken l D cy ad E X_11 (nI 3) q_52)) zml_RX6_169 zcv_X6_broken (zW_get X_11 sM_0) rfl rfl rfl ⟨Nat.le_of_ble_eq_true rfl, Nat.le_of_ble_eq_true rfl⟩ rfl rfl (Nat.le_of_ble_eq_true rfl) ⟨Nat.zero_le _, Nat.zero_le _⟩ dX6_breaks_92 ?_
        obtain rfl := Option.some.inj h
        exact g_iret rfl C hr rfl dX6_breaks_95
    · replace h := (if_neg hc_16).symm.trans h
      refine g_aload_n (j := 0) C dX6_breaks_67 rfl rfl ?_
      refine g_iconst (v := (nI 2)) C dX6_breaks_68 (by decide) ?_
      refine g_iload_n (j := 1) C dX6_breaks_69 rfl rfl ?_
      obtain ⟨q_56, e_57, h⟩ := zlet_ex h
      refine g_vi (ws' := (zW cy ad shM E q_56.2)) (As := [.int (nI 2), .int v1]) (rest := []) (res := q_56.1) C ((by rw [e_57]; exact c_X6_broken l D cy ad E X_11 (nI 2) v1)) zml_RX6_169 zcv_X6_broken (zW_get X_11 sM_0) rfl rfl rfl ⟨Nat.le_of_ble_eq_true rfl, Nat.le_of_ble_eq_true rfl⟩ rfl rfl (Nat.le_of_ble_eq_true rfl) ⟨Nat.zero_le _, Nat.zero_le _⟩ dX6_breaks_70 ?_
      obtain rfl := Option.some.inj h
      exact g_iret rfl C hr rfl dX6_breaks_73
  · replace h := (if_neg hc_13).symm.trans h
    refine g_aload_n (j := 0) C dX6_breaks_46 rfl rfl ?_
    refine g_iconst (v := (nI 1)) C dX6_breaks_47 (by decide) ?_
    refine g_aload_n (j := 0) C dX6_breaks_48 rfl rfl ?_
    refine g_getr (k := 1) (N := 27) C sM_0 rfl zin_RX6 (by decide) rfl zfl_RX6_9 rfl dX6_breaks_49 ?_
    refine g_iconst (v := (nI 0)) C dX6_breaks_52 (by decide) ?_
    refine g_iald C sM_1 (by decide) dX6_breaks_53 ?_
    obtain ⟨q_58, e_59, h⟩ := zlet_ex h
    refine g_vi (ws' := (zW cy ad shM E q_58.2)) (As := [.int (nI 1), .int (X_11 1 (nI 0).toNatClampNeg)]) (rest := []) (res := q_58.1) C ((by rw [e_59]; exact c_X6_broken l D cy ad E X_11 (nI 1) (X_11 1 (nI 0).toNatClampNeg))) zml_RX6_169 zcv_X6_broken (zW_get X_11 sM_0) rfl rfl rfl ⟨Nat.le_of_ble_eq_true rfl, Nat.le_of_ble_eq_true rfl⟩ rfl rfl (Nat.le_of_ble_eq_true rfl) ⟨Nat.zero_le _, Nat.zero_le _⟩ dX6_breaks_54 ?_
    obtain rfl := Option.some.inj h
    exact g_iret rfl C hr rfl dX6_breaks_57
def f_X6_breaksNew (X : Nat → Nat → Int32) (v1 v2 v3 v4 : Int32) : Option (Int32 × (Nat → Nat → Int32)) := ((f_X6_bestReel X v2 v3).bind fun q_1 => ((f_X6_lengthOf X q_1).bind fun q_3 => ((f_X6_filmAt X v2 (nI 0)).bind fun q_5 => ((f_X6_breaks X v1 v2 v3 v4 (q_3 + q_5) (-1 : Int32)).bind fun q_7 => some (q_7.1, q_7.2)))))
set_option maxRecDepth 100000 in
set_option maxHeartbeats 4000000 in
theorem c_X6_breaksNew (l : Launch) (D : va_G) (cy : Nat → ClassId) (ad : Nat → Nat) (E : va_W) (X : Nat → Nat → Int32) (v1 v2 v3 v4 : Int32) {res : Int32 × (Nat → Nat → Int32)} (h : f_X6_breaksNew X v1 v2 v3 v4 = some res) : zMi l yX6_breaksNew cX6_breaksNew 5 (some .int) (zrm 7) D (zTy cy) (zW cy ad shM E X) [.ref (ad 0), .int v1, .int v2, .int v3, .int v4] res.1 (zW cy ad shM E res.2) := by
  refine zMi.of (by decide) (Nat.le_of_ble_eq_true rfl) ?_
  intro p e s m below meth c A C hr
  unfold f_X6_breaksNew at h
  refine zG_L (L' := [(0, .ref (ad 0)), (1, .int v1), (2, .int v2), (3, .int v3), (4, .int v4)]) rfl ?_
  refine g_aload_n (j := 0) C dX6_breaksNew_0 rfl rfl ?_
  refine g_iload_n (j := 1) C dX6_breaksNew_1 rfl rfl ?_
  refine g_iload_n (j := 2) C dX6_breaksNew_2 rfl rfl ?_
  refine g_iload_n (j := 3) C dX6_breaksNew_3 rfl rfl ?_
  refine g_iload (j := 4) C dX6_breaksNew_4 rfl ?_
  refine g_aload_n (j := 0) C dX6_breaksNew_6 rfl rfl ?_
  refine g_aload_n (j := 0) C dX6_breaksNew_7 rfl rfl ?_
  refine g_iload_n (j := 2) C dX6_breaksNew_8 rfl rfl ?_
  refine g_iload_n (j := 3) C dX6_breaksNew_9 rfl rfl ?_
  obtain ⟨q_1, hq_2, h⟩ := bind_isome h
  refine g_vi (ws' := (zW cy ad shM E X)) (As := [.int v2, .int v3]) (rest := [.ref (ad 0), .int v4, .int v3, .int v2, .int v1, .ref (ad 0)]) (res := q_1) C (c_X6_bestReel l D cy ad E X v2 v3 hq_2) zml_RX6_130 zcv_X6_bestReel (zW_get X sM_0) rfl rfl rfl ⟨Nat.le_of_ble_eq_true rfl, Nat.le_of_ble_eq_true rfl⟩ rfl rfl (Nat.le_of_ble_eq_true rfl) ⟨Nat.zero_le _, Nat.zero_le _⟩ dX6_breaksNew_10 ?_
  obtain ⟨q_3, hq_4, h⟩ := bind_isome h
  refine g_vi (ws' := (zW cy ad shM E X)) (As := [.int q_1]) (rest := [.int v4, .int v3, .int v2, .int v1, .ref (ad 0)]) (res := q_3) C (c_X6_lengthOf l D cy ad E X q_1 hq_4) zml_RX6_119 zcv_X6_lengthOf (zW_get X sM_0) rfl rfl rfl ⟨Nat.le_of_ble_eq_true rfl, Nat.le_of_ble_eq_true rfl⟩ rfl rfl (Nat.le_of_ble_eq_true rfl) ⟨Nat.zero_le _, Nat.zero_le _⟩ dX6_breaksNew_13 ?_
  refine g_aload_n (j := 0) C dX6_breaksNew_16 rfl rfl ?_
  refine g_iload_n (j := 2) C dX6_breaksNew_17 rfl rfl ?_
  refine g_iconst (v := (nI 0)) C dX6_breaksNew_18 (by decide) ?_
  obtain ⟨q_5, hq_6, h⟩ := bind_isome h
  refine g_vi (ws' := (zW cy ad shM E X)) (As := [.int v2, .int (nI 0)]) (rest := [.int q_3, .int v4, .int v3, .int v2, .int v1, .ref (ad 0)]) (res := q_5) C (c_X6_filmAt l D cy ad E X v2 (nI 0) hq_6) zml_RX6_81 zcv_X6_filmAt (zW_get X sM_0) rfl rfl rfl ⟨Nat.le_of_ble_eq_true rfl, Nat.le_of_ble_eq_true rfl⟩ rfl rfl (Nat.le_of_ble_eq_true rfl) ⟨Nat.zero_le _, Nat.zero_le _⟩ dX6_breaksNew_19 ?_
  refine g_iadd C dX6_breaksNew_22 ?_
  refine g_iconst (v := (-1 : Int32)) C dX6_breaksNew_23 (by decide) ?_
  obtain ⟨q_7, hq_8, h⟩ := bind_isome h
  refine g_vi (ws' := (zW cy ad shM E q_7.2)) (As := [.int v1, .int v2, .int v3, .int v4, .int (q_3 + q_5), .int (-1 : Int32)]) (rest := []) (res := q_7.1) C (c_X6_breaks l D cy ad E X v1 v2 v3 v4 (q_3 + q_5) (-1 : Int32) hq_8) zml_RX6_188 zcv_X6_breaks (zW_get X sM_0) rfl rfl rfl ⟨Nat.le_of_ble_eq_true rfl, Nat.le_of_ble_eq_true rfl⟩ rfl rfl (Nat.le_of_ble_eq_true rfl) ⟨Nat.zero_le _, Nat.zero_le _⟩ dX6_breaksNew_24 ?_
  obtain rfl := Option.some.inj h
  exact g_iret rfl C hr rfl dX6_breaksNew_27
def f_X6_isPlace (v0 v1 : Int32) : Int32 := (if (f_X6_isDay v0) = 0 then (nI 0) else (if (f_X6_in v1 (nI 0) (nI 959)) = 0 then (nI 0) else (nI 1)))
theorem b_X6_isPlace (v0 v1 : Int32) : f_X6_isPlace v0 v1 = 0 ∨ f_X6_isPlace v0 v1 = 1 := by
  unfold f_X6_isPlace
  repeat' split
  all_goals first | exact Or.inl rfl | exact Or.inr rfl | apply b_X6_in | apply b_X6_isDay
set_option maxRecDepth 100000 in
set_option maxHeartbeats 4000000 in
theorem c_X6_isPlace (l : Launch) (D : va_G) (cy : Nat → ClassId) (ws : va_W) (v0 v1 : Int32) : zMi l yX6_isPlace cX6_isPlace 2 (some .boolean) (zrm 3) D (zTy cy) ws [.int v0, .int v1] (f_X6_isPlace v0 v1) ws := by
  refine zMi.of (by decide) (Nat.le_of_ble_eq_true rfl) ?_
  intro p e s m below meth c A C hr
  generalize h : f_X6_isPlace v0 v1 = res
  unfold f_X6_isPlace at h
  refine zG_L (L' := [(0, .int v0), (1, .int v1)]) rfl ?_
  refine g_iload_n (j := 0) C dX6_isPlace_0 rfl rfl ?_
  refine g_si (ws' := ws) (As := [.int v0]) (rest := []) (res := (f_X6_isDay v0)) C (c_X6_isDay l D cy ws v0) zml_RX6_74 zcs_X6_isDay rfl rfl ⟨Nat.le_of_ble_eq_true rfl, Nat.le_of_ble_eq_true rfl⟩ rfl rfl (Nat.le_of_ble_eq_true rfl) ⟨Nat.zero_le _, Nat.zero_le _⟩ dX6_isPlace_1 ?_
  refine g_if_eq C dX6_isPlace_4 (tgt := 22) (by decide) (fun hc_1 => ?_) (fun hc_1 => ?_)
  · replace h := (if_pos hc_1).symm.trans h
    refine g_iconst (v := (nI 0)) C dX6_isPlace_22 (by decide) ?_
    subst h
    exact g_iret rfl C hr (z_nb (Or.inl rfl)) dX6_isPlace_23
  · replace h := (if_neg hc_1).symm.trans h
    refine g_iload_n (j := 1) C dX6_isPlace_7 rfl rfl ?_
    refine g_iconst (v := (nI 0)) C dX6_isPlace_8 (by decide) ?_
    refine g_sipush (v := (nI 959)) C dX6_isPlace_9 (by decide) ?_
    refine g_si (ws' := ws) (As := [.int v1, .int (nI 0), .int (nI 959)]) (rest := []) (res := (f_X6_in v1 (nI 0) (nI 959))) C (c_X6_in l D cy ws v1 (nI 0) (nI 959)) zml_RX6_64 zcs_X6_in rfl rfl ⟨Nat.le_of_ble_eq_true rfl, Nat.le_of_ble_eq_true rfl⟩ rfl rfl (Nat.le_of_ble_eq_true rfl) ⟨Nat.zero_le _, Nat.zero_le _⟩ dX6_isPlace_12 ?_
    refine g_if_eq C dX6_isPlace_15 (tgt := 22) (by decide) (fun hc_2 => ?_) (fun hc_2 => ?_)
    · replace h := (if_pos hc_2).symm.trans h
      refine g_iconst (v := (nI 0)) C dX6_isPlace_22 (by decide) ?_
      subst h
      exact g_iret rfl C hr (z_nb (Or.inl rfl)) dX6_isPlace_23
    · replace h := (if_neg hc_2).symm.trans h
      refine g_iconst (v := (nI 1)) C dX6_isPlace_18 (by decide) ?_
      refine g_goto C dX6_isPlace_19 (tgt := 23) (by decide) ?_
      subst h
      exact g_iret rfl C hr (z_nb (Or.inr rfl)) dX6_isPlace_23
def f_X6_plan (X : Nat → Nat → Int32) (v1 v2 v3 v4 : Int32) : Option (Int32 × (Nat → Nat → Int32)) := (if (f_X6_isHall X v1) = 0 then (zlet (f_X6_fails X (nI 1)) fun q_2 => some (q_2.1, q_2.2)) else (if (f_X6_isFilm X v2) = 0 then (zlet (f_X6_fails X (nI 1)) fun q_53 => some (q_53.1, q_53.2)) else (if (f_X6_isPlace v3 v4) = 0 then (zlet (f_X6_fails X (nI 2)) fun q_51 => some (q_51.1, q_51.2)) else ((f_X6_breaksNew X v1 v2 v3 v4).bind fun q_6 => (if q_6.1 = 0 then (if (q_6.2 1 (nI 4).toNatClampNeg) = (nI 30) then (zlet (f_X6_refuses q_6.2 (nI 10) (nI 30) (nI 3)) fun q_47 => some (q_47.1, q_47.2)) else ((f_X6_remembers q_6.2).bind fun q_10 => ((f_X6_bestReel q_10 v2 v3).bind fun q_12 => (if (((nI 158) + ((nI 9) * (q_10 1 (nI 4).toNatClampNeg))) + (nI 0)) < 0 ∨ 580 ≤ (((nI 158) + ((nI 9) * (q_10 1 (nI 4).toNatClampNeg))) + (nI 0)).toNatClampNeg then none else (zlet (zU q_10 1 (((nI 158) + ((nI 9) * (q_10 1 (nI 4).toNatClampNeg))) + (nI 0)).toNatClampNeg v1) fun X_15 => (if (((nI 158) + ((nI 9) * (q_10 1 (nI 4).toNatClampNeg))) + (nI 1)) < 0 ∨ 580 ≤ (((nI 158) + ((nI 9) * (q_10 1 (nI 4).toNatClampNeg))) + (nI 1)).toNatClampNeg then none else (zlet (zU X_15 1 (((nI 158) + ((nI 9) * (q_10 1 (nI 4).toNatClampNeg))) + (nI 1)).toNatClampNeg v2) fun X_18 => (if (((nI 158) + ((nI 9) * (q_10 1 (nI 4).toNatClampNeg))) + (nI 2)) < 0 ∨ 580 ≤ (((nI 158) + ((nI 9) * (q_10 1 (nI 4).toNatClampNeg))) + (nI 2)).toNatClampNeg then none else (zlet (zU X_18 1 (((nI 158) + ((nI 9) * (q_10 1 (nI 4).toNatClampNeg))) + (nI 2)).toNatClampNeg v3) fun X_21 => (if (((nI 158) + ((nI 9) * (q_10 1 (nI 4).toNatClampNeg))) + (nI 3)) < 0 ∨ 580 ≤ (((nI 158) + ((nI 9) * (q_10 1 (nI 4).toNatClampNeg))) + (nI 3)).toNatClampNeg then none else (zlet (zU X_21 1 (((nI 158) + ((nI 9) * (q_10 1 (nI 4).toNatClampNeg))) + (nI 3)).toNatClampNeg v4) fun X_24 => (if (((nI 158) + ((nI 9) * (q_10 1 (nI 4).toNatClampNeg))) + (nI 4)) < 0 ∨ 580 ≤ (((nI 158) + ((nI 9) * (q_10 1 (nI 4).toNatClampNeg))) + (nI 4)).toNatClampNeg then none else (zlet (zU X_24 1 (((nI 158) + ((nI 9) * (q_10 1 (nI 4).toNatClampNeg))) + (nI 4)).toNatClampNeg q_12) fun X_27 => ((f_X6_lengthOf X_27 q_12).bind fun q_29 => (if (((nI 158) + ((nI 9) * (q_10 1 (nI 4).toNatClampNeg))) + (nI 5)) < 0 ∨ 580 ≤ (((nI 158) + ((nI 9) * (q_10 1 (nI 4).toNatClampNeg))) + (nI 5)).toNatClampNeg then none else (zlet (zU X_27 1 (((nI 158) + ((nI 9) * (q_10 1 (nI 4).toNatClampNeg))) + (nI 5)).toNatClampNeg q_29) fun X_32 => (if (((nI 158) + ((nI 9) * (q_10 1 (nI 4).toNatClampNeg))) + (nI 6)) < 0 ∨ 580 ≤ (((nI 158) + ((nI 9) * (q_10 1 (nI 4).toNatClampNeg))) + (nI 6)).toNatClampNeg then none else (zlet (zU X_32 1 (((nI 158) + ((nI 9) * (q_10 1 (nI 4).toNatClampNeg))) + (nI 6)).toNatClampNeg (X_32 1 (nI 13).toNatClampNeg)) fun X_35 => (if (((nI 158) + ((nI 9) * (q_10 1 (nI 4).toNatClampNeg))) + (nI 7)) < 0 ∨ 580 ≤ (((nI 158) + ((nI 9) * (q_10 1 (nI 4).toNatClampNeg))) + (nI 7)).toNatClampNeg then none else (zlet (zU X_35 1 (((nI 158) + ((nI 9) * (q_10 1 (nI 4).toNatClampNeg))) + (nI 7)).toNatClampNeg (nI 0)) fun X_38 => (if (((nI 158) + ((nI 9) * (q_10 1 (nI 4).toNatClampNeg))) + (nI 8)) < 0 ∨ 580 ≤ (((nI 158) + ((nI 9) * (q_10 1 (nI 4).toNatClampNeg))) + (nI 8)).toNatClampNeg then none else (zlet (zU X_38 1 (((nI 158) + ((nI 9) * (q_10 1 (nI 4).toNatClampNeg))) + (nI 8)).toNatClampNeg (nI 0)) fun X_41 => (zlet (zU X_41 1 (nI 4).toNatClampNeg ((X_41 1 (nI 4).toNatClampNeg) + (nI 1))) fun X_43 => (zlet (f_X6_done X_43 (q_10 1 (nI 4).toNatClampNeg)) fun q_45 => some (q_45.1, q_45.2))))))))))))))))))))))))) else (zlet (f_X6_refuses q_6.2 q_6.1 (q_6.2 0 21) (nI 3)) fun q_49 => some (q_49.1, q_49.2)))))))
set_option maxRecDepth 100000 in
set_option maxHeartbeats 4000000 in
theorem c_X6_plan (l : Launch) (D : va_G) (cy : Nat → ClassId) (ad : Nat → Nat) (E : va_W) (X : Nat → Nat → Int32) (v1 v2 v3 v4 : Int32) {res : Int32 × (Nat → Nat → Int32)} (h : f_X6_plan X v1 v2 v3 v4 = some res) : zMi l yX6_plan cX6_plan 9 (some .int) (zrm 8) D (zTy cy) (zW cy ad shM E X) [.ref (ad 0), .int v1, .int v2, .int v3, .int v4] res.1 (zW cy ad shM E res.2) := by
  refine zMi.of (by decide) (Nat.le_of_ble_eq_true rfl) ?_
  intro p e s m below meth c A C hr
  unfold f_X6_plan at h
  refine zG_L (L' := [(0, .ref (ad 0)), (1, .int v1), (2, .int v2), (3, .int v3), (4, .int v4)]) rfl ?_
  refine g_aload_n (j := 0) C dX6_plan_0 rfl rfl ?_
  refine g_iload_n (j := 1) C dX6_plan_1 rfl rfl ?_
  refine g_vi (ws' := (zW cy ad shM E X)) (As := [.int v1]) (rest := []) (res := (f_X6_isHall X v1)) C (c_X6_isHall l D cy ad E X v1) zml_RX6_104 zcv_X6_isHall (zW_get X sM_0) rfl rfl rfl ⟨Nat.le_of_ble_eq_true rfl, Nat.le_of_ble_eq_true rfl⟩ rfl rfl (Nat.le_of_ble_eq_true rfl) ⟨Nat.zero_le _, Nat.zero_le _⟩ dX6_plan_2 ?_
  refine g_if_eq C dX6_plan_5 (tgt := 16) (by decide) (fun hc_1 => ?_) (fun hc_1 => ?_)
  · replace h := (if_pos hc_1).symm.trans h
    refine g_aload_n (j := 0) C dX6_plan_16 rfl rfl ?_
    refine g_iconst (v := (nI 1)) C dX6_plan_17 (by decide) ?_
    obtain ⟨q_2, e_3, h⟩ := zlet_ex h
    refine g_vi (ws' := (zW cy ad shM E q_2.2)) (As := [.int (nI 1)]) (rest := []) (res := q_2.1) C ((by rw [e_3]; exact c_X6_fails l D cy ad E X (nI 1))) zml_RX6_45 zcv_X6_fails (zW_get X sM_0) rfl rfl rfl ⟨Nat.le_of_ble_eq_true rfl, Nat.le_of_ble_eq_true rfl⟩ rfl rfl (Nat.le_of_ble_eq_true rfl) ⟨Nat.zero_le _, Nat.zero_le _⟩ dX6_plan_18 ?_
    obtain rfl := Option.some.inj h
    exact g_iret rfl C hr rfl dX6_plan_21
  · replace h := (if_neg hc_1).symm.trans h
    refine g_aload_n (j := 0) C dX6_plan_8 rfl rfl ?_
    refine g_iload_n (j := 2) C dX6_plan_9 rfl rfl ?_
    refine g_vi (ws' := (zW cy ad shM E X)) (As := [.int v2]) (rest := []) (res := (f_X6_isFilm X v2)) C (c_X6_isFilm l D cy ad E X v2) zml_RX6_78 zcv_X6_isFilm (zW_get X sM_0) rfl rfl rfl ⟨Nat.le_of_ble_eq_true rfl, Nat.le_of_ble_eq_true rfl⟩ rfl rfl (Nat.le_of_ble_eq_true rfl) ⟨Nat.zero_le _, Nat.zero_le _⟩ dX6_plan_10 ?_
    refine g_if_ne C dX6_plan_13 (tgt := 22) (by decide) (fun hc_4 => ?_) (fun hc_4 => ?_)
    · replace h := (if_neg hc_4).symm.trans h
      refine g_iload_n (j := 3) C dX6_plan_22 rfl rfl ?_
      refine g_iload (j := 4) C dX6_plan_23 rfl ?_
      refine g_si (ws' := (zW cy ad shM E X)) (As := [.int v3, .int v4]) (rest := []) (res := (f_X6_isPlace v3 v4)) C (c_X6_isPlace l D cy (zW cy ad shM E X) v3 v4) zml_RX6_192 zcs_X6_isPlace rfl rfl ⟨Nat.le_of_ble_eq_true rfl, Nat.le_of_ble_eq_true rfl⟩ rfl rfl (Nat.le_of_ble_eq_true rfl) ⟨Nat.zero_le _, Nat.zero_le _⟩ dX6_plan_25 ?_
      refine g_if_ne C dX6_plan_28 (tgt := 37) (by decide) (fun hc_5 => ?_) (fun hc_5 => ?_)
      · replace h := (if_neg hc_5).symm.trans h
        refine g_aload_n (j := 0) C dX6_plan_37 rfl rfl ?_
        refine g_iload_n (j := 1) C dX6_plan_38 rfl rfl ?_
        refine g_iload_n (j := 2) C dX6_plan_39 rfl rfl ?_
        refine g_iload_n (j := 3) C dX6_plan_40 rfl rfl ?_
        refine g_iload (j := 4) C dX6_plan_41 rfl ?_
        obtain ⟨q_6, hq_7, h⟩ := bind_isome h
        refine g_vi (ws' := (zW cy ad shM E q_6.2)) (As := [.int v1, .int v2, .int v3, .int v4]) (rest := []) (res := q_6.1) C (c_X6_breaksNew l D cy ad E X v1 v2 v3 v4 hq_7) zml_RX6_195 zcv_X6_breaksNew (zW_get X sM_0) rfl rfl rfl ⟨Nat.le_of_ble_eq_true rfl, Nat.le_of_ble_eq_true rfl⟩ rfl rfl (Nat.le_of_ble_eq_true rfl) ⟨Nat.zero_le _, Nat.zero_le _⟩ dX6_plan_43 ?_
        refine g_istore (L' := [(5, .int q_6.1), (0, .ref (ad 0)), (1, .int v1), (2, .int v2), (3, .int v3), (4, .int v4)]) C dX6_plan_46 (by decide) rfl ?_
        refine g_iload (j := 0) C dX6_plan_48 rfl ?_
        refine g_if_eq C dX6_plan_50 (tgt := 65) (by decide) (fun hc_8 => ?_) (fun hc_8 => ?_)
        · replace h := (if_pos hc_8).symm.trans h
          refine g_aload_n (j := 1) C dX6_plan_65 rfl rfl ?_
          refine g_getr (k := 1) (N := 27) C sM_0 rfl zin_RX6 (by decide) rfl zfl_RX6_9 rfl dX6_plan_66 ?_
          refine g_iconst (v := (nI 4)) C dX6_plan_69 (by decide) ?_
          refine g_iald C sM_1 (by decide) dX6_plan_70 ?_
          refine g_bipush (v := (nI 30)) C dX6_plan_71 (by decide) ?_
          refine g_icmp_ne C dX6_plan_73 (tgt := 86) (by decide) (fun hc_9 => ?_) (fun hc_9 => ?_)
          · replace h := (if_neg hc_9).symm.trans h
            refine g_aload_n (j := 1) C dX6_plan_86 rfl rfl ?_
            obtain ⟨q_10, hq_11, h⟩ := bind_isome h
            refine g_vv (ws' := (zW cy ad shM E q_10)) (As := []) (rest := []) C (c_X6_remembers l D cy ad E q_6.2 hq_11) zml_RX6_68 zcv_X6_remembers (zW_get q_6.2 sM_0) rfl rfl rfl ⟨Nat.le_of_ble_eq_true rfl, Nat.le_of_ble_eq_true rfl⟩ rfl rfl (Nat.le_of_ble_eq_true rfl) ⟨Nat.zero_le _, Nat.zero_le _⟩ dX6_plan_87 ?_
            refine g_aload_n (j := 1) C dX6_plan_90 rfl rfl ?_
            refine g_getr (k := 1) (N := 27) C sM_0 rfl zin_RX6 (by decide) rfl zfl_RX6_9 rfl dX6_plan_91 ?_
            refine g_iconst (v := (nI 4)) C dX6_plan_94 (by decide) ?_
            refine g_iald C sM_1 (by decide) dX6_plan_95 ?_
            refine g_istore (L' := [(6, .int (q_10 1 (nI 4).toNatClampNeg)), (5, .int q_6.1), (0, .ref (ad 0)), (1, .int v1), (2, .int v2), (3, .int v3), (4, .int v4)]) C dX6_plan_96 (by decide) rfl ?_
            refine g_sipush (v := (nI 158)) C dX6_plan_98 (by decide) ?_
            refine g_bipush (v := (nI 9)) C dX6_plan_101 (by decide) ?_
            refine g_iload (j := 0) C dX6_plan_103 rfl ?_
            refine g_imul C dX6_plan_105 ?_
            refine g_iadd C dX6_plan_106 ?_
            refine g_istore (L' := [(7, .int ((nI 158) + ((nI 9) * (q_10 1 (nI 4).toNatClampNeg)))), (6, .int (q_10 1 (nI 4).toNatClampNeg)), (5, .int q_6.1), (0, .ref (ad 0)), (1, .int v1), (2, .int v2), (3, .int v3), (4, .int v4)]) C dX6_plan_107 (by decide) rfl ?_
            refine g_aload_n (j := 3) C dX6_plan_109 rfl rfl ?_
            refine g_iload_n (j := 5) C dX6_plan_110 rfl rfl ?_
            refine g_iload_n (j := 6) C dX6_plan_111 rfl rfl ?_
            obtain ⟨q_12, hq_13, h⟩ := bind_isome h
            refine g_vi (ws' := (zW cy ad shM E q_10)) (As := [.int v2, .int v3]) (rest := []) (res := q_12) C (c_X6_bestReel l D cy ad E q_10 v2 v3 hq_13) zml_RX6_130 zcv_X6_bestReel (zW_get q_10 sM_0) rfl rfl rfl ⟨Nat.le_of_ble_eq_true rfl, Nat.le_of_ble_eq_true rfl⟩ rfl rfl (Nat.le_of_ble_eq_true rfl) ⟨Nat.zero_le _, Nat.zero_le _⟩ dX6_plan_112 ?_
            refine g_istore (L' := [(8, .int q_12), (7, .int ((nI 158) + ((nI 9) * (q_10 1 (nI 4).toNatClampNeg)))), (6, .int (q_10 1 (nI 4).toNatClampNeg)), (5, .int q_6.1), (0, .ref (ad 0)), (1, .int v1), (2, .int v2), (3, .int v3), (4, .int v4)]) C dX6_plan_115 (by decide) rfl ?_
            refine g_aload_n (j := 4) C dX6_plan_117 rfl rfl ?_
            refine g_getr (k := 1) (N := 27) C sM_0 rfl zin_RX6 (by decide) rfl zfl_RX6_9 rfl dX6_plan_118 ?_
            refine g_iload (j := 1) C dX6_plan_121 rfl ?_
            refine g_iconst (v := (nI 0)) C dX6_plan_123 (by decide) ?_
            refine g_iadd C dX6_plan_124 ?_
            refine g_iload_n (j := 5) C dX6_plan_125 rfl rfl ?_
            obtain ⟨hi_14, h⟩ := ite_inone h
            refine g_iast C sM_1 hi_14 dX6_plan_126 ?_
            obtain ⟨X_15, e_16, h⟩ := zlet_ex h
            rw [← e_16]
            refine g_aload_n (j := 4) C dX6_plan_127 rfl rfl ?_
            refine g_getr (k := 1) (N := 27) C sM_0 rfl zin_RX6 (by decide) rfl zfl_RX6_9 rfl dX6_plan_128 ?_
            refine g_iload (j := 1) C dX6_plan_131 rfl ?_
            refine g_iconst (v := (nI 1)) C dX6_plan_133 (by decide) ?_
            refine g_iadd C dX6_plan_134 ?_
            refine g_iload_n (j := 6) C dX6_plan_135 rfl rfl ?_
            obtain ⟨hi_17, h⟩ := ite_inone h
            refine g_iast C sM_1 hi_17 dX6_plan_136 ?_
            obtain ⟨X_18, e_19, h⟩ := zlet_ex h
            rw [← e_19]
            refine g_aload_n (j := 4) C dX6_plan_137 rfl rfl ?_
            refine g_getr (k := 1) (N := 27) C sM_0 rfl zin_RX6 (by decide) rfl zfl_RX6_9 rfl dX6_plan_138 ?_
            refine g_iload (j := 1) C dX6_plan_141 rfl ?_
            refine g_iconst (v := (nI 2)) C dX6_plan_143 (by decide) ?_
            refine g_iadd C dX6_plan_144 ?_
            refine g_iload_n (j := 7) C dX6_plan_145 rfl rfl ?_
            obtain ⟨hi_20, h⟩ := ite_inone h
            refine g_iast C sM_1 hi_20 dX6_plan_146 ?_
            obtain ⟨X_21, e_22, h⟩ := zlet_ex h
            rw [← e_22]
            refine g_aload_n (j := 4) C dX6_plan_147 rfl rfl ?_
            refine g_getr (k := 1) (N := 27) C sM_0 rfl zin_RX6 (by decide) rfl zfl_RX6_9 rfl dX6_plan_148 ?_
            refine g_iload (j := 1) C dX6_plan_151 rfl ?_
            refine g_iconst (v := (nI 3)) C dX6_plan_153 (by decide) ?_
            refine g_iadd C dX6_plan_154 ?_
            refine g_iload (j := 8) C dX6_plan_155 rfl ?_
            obtain ⟨hi_23, h⟩ := ite_inone h
            refine g_iast C sM_1 hi_23 dX6_plan_157 ?_
            obtain ⟨X_24, e_25, h⟩ := zlet_ex h
            rw [← e_25]
            refine g_aload_n (j := 4) C dX6_plan_158 rfl rfl ?_
            refine g_getr (k := 1) (N := 27) C sM_0 rfl zin_RX6 (by decide) rfl zfl_RX6_9 rfl dX6_plan_159 ?_
            refine g_iload (j := 1) C dX6_plan_162 rfl ?_
            refine g_iconst (v := (nI 4)) C dX6_plan_164 (by decide) ?_
            refine g_iadd C dX6_plan_165 ?_
            refine g_iload (j := 0) C dX6_plan_166 rfl ?_
            obtain ⟨hi_26, h⟩ := ite_inone h
            refine g_iast C sM_1 hi_26 dX6_plan_168 ?_
            obtain ⟨X_27, e_28, h⟩ := zlet_ex h
            rw [← e_28]
            refine g_aload_n (j := 4) C dX6_plan_169 rfl rfl ?_
            refine g_getr (k := 1) (N := 27) C sM_0 rfl zin_RX6 (by decide) rfl zfl_RX6_9 rfl dX6_plan_170 ?_
            refine g_iload (j := 1) C dX6_plan_173 rfl ?_
            refine g_iconst (v := (nI 5)) C dX6_plan_175 (by decide) ?_
            refine g_iadd C dX6_plan_176 ?_
            refine g_aload_n (j := 4) C dX6_plan_177 rfl rfl ?_
            refine g_iload (j := 0) C dX6_plan_178 rfl ?_
            obtain ⟨q_29, hq_30, h⟩ := bind_isome h
            refine g_vi (ws' := (zW cy ad shM E X_27)) (As := [.int q_12]) (rest := [.int (((nI 158) + ((nI 9) * (q_10 1 (nI 4).toNatClampNeg))) + (nI 5)), .ref (ad 1)]) (res := q_29) C (c_X6_lengthOf l D cy ad E X_27 q_12 hq_30) zml_RX6_119 zcv_X6_lengthOf (zW_get X_27 sM_0) rfl rfl rfl ⟨Nat.le_of_ble_eq_true rfl, Nat.le_of_ble_eq_true rfl⟩ rfl rfl (Nat.le_of_ble_eq_true rfl) ⟨Nat.zero_le _, Nat.zero_le _⟩ dX6_plan_180 ?_
            obtain ⟨hi_31, h⟩ := ite_inone h
            refine g_iast C sM_1 hi_31 dX6_plan_183 ?_
            obtain ⟨X_32, e_33, h⟩ := zlet_ex h
            rw [← e_33]
            refine g_aload_n (j := 4) C dX6_plan_184 rfl rfl ?_
            refine g_getr (k := 1) (N := 27) C sM_0 rfl zin_RX6 (by decide) rfl zfl_RX6_9 rfl dX6_plan_185 ?_
            refine g_iload (j := 1) C dX6_plan_188 rfl ?_
            refine g_bipush (v := (nI 6)) C dX6_plan_190 (by decide) ?_
            refine g_iadd C dX6_plan_192 ?_
            refine g_aload_n (j := 4) C dX6_plan_193 rfl rfl ?_
            refine g_getr (k := 1) (N := 27) C sM_0 rfl zin_RX6 (by decide) rfl zfl_RX6_9 rfl dX6_plan_194 ?_
            refine g_bipush (v := (nI 13)) C dX6_plan_197 (by decide) ?_
            refine g_iald C sM_1 (by decide) dX6_plan_199 ?_
            obtain ⟨hi_34, h⟩ := ite_inone h
            refine g_iast C sM_1 hi_34 dX6_plan_200 ?_
            obtain ⟨X_35, e_36, h⟩ := zlet_ex h
            rw [← e_36]
            refine g_aload_n (j := 4) C dX6_plan_201 rfl rfl ?_
            refine g_getr (k := 1) (N := 27) C sM_0 rfl zin_RX6 (by decide) rfl zfl_RX6_9 rfl dX6_plan_202 ?_
            refine g_iload (j := 1) C dX6_plan_205 rfl ?_
            refine g_bipush (v := (nI 7)) C dX6_plan_207 (by decide) ?_
            refine g_iadd C dX6_plan_209 ?_
            refine g_iconst (v := (nI 0)) C dX6_plan_210 (by decide) ?_
            obtain ⟨hi_37, h⟩ := ite_inone h
            refine g_iast C sM_1 hi_37 dX6_plan_211 ?_
            obtain ⟨X_38, e_39, h⟩ := zlet_ex h
            rw [← e_39]
            refine g_aload_n (j := 4) C dX6_plan_212 rfl rfl ?_
            refine g_getr (k := 1) (N := 27) C sM_0 rfl zin_RX6 (by decide) rfl zfl_RX6_9 rfl dX6_plan_213 ?_
            refine g_iload (j := 1) C dX6_plan_216 rfl ?_
            refine g_bipush (v := (nI 8)) C dX6_plan_218 (by decide) ?_
            refine g_iadd C dX6_plan_220 ?_
            refine g_iconst (v := (nI 0)) C dX6_plan_221 (by decide) ?_
            obtain ⟨hi_40, h⟩ := ite_inone h
            refine g_iast C sM_1 hi_40 dX6_plan_222 ?_
            obtain ⟨X_41, e_42, h⟩ := zlet_ex h
            rw [← e_42]
            refine g_aload_n (j := 4) C dX6_plan_223 rfl rfl ?_
            refine g_getr (k := 1) (N := 27) C sM_0 rfl zin_RX6 (by decide) rfl zfl_RX6_9 rfl dX6_plan_224 ?_
            refine g_iconst (v := (nI 4)) C dX6_plan_227 (by decide) ?_
            refine g_dup2 C dX6_plan_228 rfl rfl ?_
            refine g_iald C sM_1 (by decide) dX6_plan_229 ?_
            refine g_iconst (v := (nI 1)) C dX6_plan_230 (by decide) ?_
            refine g_iadd C dX6_plan_231 ?_
            refine g_iast C sM_1 (by decide) dX6_plan_232 ?_
            obtain ⟨X_43, e_44, h⟩ := zlet_ex h
            rw [← e_44]
            refine g_aload_n (j := 4) C dX6_plan_233 rfl rfl ?_
            refine g_iload (j := 2) C dX6_plan_234 rfl ?_
            obtain ⟨q_45, e_46, h⟩ := zlet_ex h
            refine g_vi (ws' := (zW cy ad shM E q_45.2)) (As := [.int (q_10 1 (nI 4).toNatClampNeg)]) (rest := []) (res := q_45.1) C ((by rw [e_46]; exact c_X6_done l D cy ad E X_43 (q_10 1 (nI 4).toNatClampNeg))) zml_RX6_71 zcv_X6_done (zW_get X_43 sM_0) rfl rfl rfl ⟨Nat.le_of_ble_eq_true rfl, Nat.le_of_ble_eq_true rfl⟩ rfl rfl (Nat.le_of_ble_eq_true rfl) ⟨Nat.zero_le _, Nat.zero_le _⟩ dX6_plan_236 ?_
            obtain rfl := Option.some.inj h
            exact g_iret rfl C hr rfl dX6_plan_239
          · replace h := (if_pos hc_9).symm.trans h
            refine g_aload_n (j := 1) C dX6_plan_76 rfl rfl ?_
            refine g_bipush (v := (nI 10)) C dX6_plan_77 (by decide) ?_
            refine g_bipush (v := (nI 30)) C dX6_plan_79 (by decide) ?_
            refine g_iconst (v := (nI 3)) C dX6_plan_81 (by decide) ?_
            obtain ⟨q_47, e_48, h⟩ := zlet_ex h
            refine g_vi (ws' := (zW cy ad shM E q_47.2)) (As := [.int (nI 10), .int (nI 30), .int (nI 3)]) (rest := []) (res := q_47.1) C ((by rw [e_48]; exact c_X6_refuses l D cy ad E q_6.2 (nI 10) (nI 30) (nI 3))) zml_RX6_199 zcv_X6_refuses (zW_get q_6.2 sM_0) rfl rfl rfl ⟨Nat.le_of_ble_eq_true rfl, Nat.le_of_ble_eq_true rfl⟩ rfl rfl (Nat.le_of_ble_eq_true rfl) ⟨Nat.zero_le _, Nat.zero_le _⟩ dX6_plan_82 ?_
            obtain rfl := Option.some.inj h
            exact g_iret rfl C hr rfl dX6_plan_85
        · replace h := (if_neg hc_8).symm.trans h
          refine g_aload_n (j := 1) C dX6_plan_53 rfl rfl ?_
          refine g_iload (j := 0) C dX6_plan_54 rfl ?_
          refine g_aload_n (j := 1) C dX6_plan_56 rfl rfl ?_
          refine g_geti (k := 21) (N := 27) C sM_0 rfl zin_RX6 (by decide) rfl zfl_RX6_166 rfl dX6_plan_57 ?_
          refine g_iconst (v := (nI 3)) C dX6_plan_60 (by decide) ?_
          obtain ⟨q_49, e_50, h⟩ := zlet_ex h
          refine g_vi (ws' := (zW cy ad shM E q_49.2)) (As := [.int q_6.1, .int (q_6.2 0 21), .int (nI 3)]) (rest := []) (res := q_49.1) C ((by rw [e_50]; exact c_X6_refuses l D cy ad E q_6.2 q_6.1 (q_6.2 0 21) (nI 3))) zml_RX6_199 zcv_X6_refuses (zW_get q_6.2 sM_0) rfl rfl rfl ⟨Nat.le_of_ble_eq_true rfl, Nat.le_of_ble_eq_true rfl⟩ rfl rfl (Nat.le_of_ble_eq_true rfl) ⟨Nat.zero_le _, Nat.zero_le _⟩ dX6_plan_61 ?_
          obtain rfl := Option.some.inj h
          exact g_iret rfl C hr rfl dX6_plan_64
      · replace h := (if_pos hc_5).symm.trans h
        refine g_aload_n (j := 0) C dX6_plan_31 rfl rfl ?_
        refine g_iconst (v := (nI 2)) C dX6_plan_32 (by decide) ?_
        obtain ⟨q_51, e_52, h⟩ := zlet_ex h
        refine g_vi (ws' := (zW cy ad shM E q_51.2)) (As := [.int (nI 2)]) (rest := []) (res := q_51.1) C ((by rw [e_52]; exact c_X6_fails l D cy ad E X (nI 2))) zml_RX6_45 zcv_X6_fails (zW_get X sM_0) rfl rfl rfl ⟨Nat.le_of_ble_eq_true rfl, Nat.le_of_ble_eq_true rfl⟩ rfl rfl (Nat.le_of_ble_eq_true rfl) ⟨Nat.zero_le _, Nat.zero_le _⟩ dX6_plan_33 ?_
        obtain rfl := Option.some.inj h
        exact g_iret rfl C hr rfl dX6_plan_36
    · replace h := (if_pos hc_4).symm.trans h
      refine g_aload_n (j := 0) C dX6_plan_16 rfl rfl ?_
      refine g_iconst (v := (nI 1)) C dX6_plan_17 (by decide) ?_
      obtain ⟨q_53, e_54, h⟩ := zlet_ex h
      refine g_vi (ws' := (zW cy ad shM E q_53.2)) (As := [.int (nI 1)]) (rest := []) (res := q_53.1) C ((by rw [e_54]; exact c_X6_fails l D cy ad E X (nI 1))) zml_RX6_45 zcv_X6_fails (zW_get X sM_0) rfl rfl rfl ⟨Nat.le_of_ble_eq_true rfl, Nat.le_of_ble_eq_true rfl⟩ rfl rfl (Nat.le_of_ble_eq_true rfl) ⟨Nat.zero_le _, Nat.zero_le _⟩ dX6_plan_18 ?_
      obtain rfl := Option.some.inj h
      exact g_iret rfl C hr rfl dX6_plan_21
