/-! laid by wip/whole/mkparts.py -/
def f_X6_refusal (X : Nat → Nat → Int32) (v1 : Int32) : Int32 × (Nat → Nat → Int32) := (if (X 0 8) = 0 then (zlet (f_X6_fails X (nI 1)) fun q_7 => (q_7.1, q_7.2)) else (if v1 = 0 then (zlet (f_X6_done X (X 0 8)) fun q_3 => (q_3.1, q_3.2)) else (zlet (f_X6_done X (X 0 9)) fun q_5 => (q_5.1, q_5.2))))
set_option maxRecDepth 100000 in
set_option maxHeartbeats 4000000 in
theorem c_X6_refusal (l : Launch) (D : va_G) (cy : Nat → ClassId) (ad : Nat → Nat) (E : va_W) (X : Nat → Nat → Int32) (v1 : Int32) : zMi l yX6_refusal cX6_refusal 2 (some .int) (zrm 2) D (zTy cy) (zW cy ad shM E X) [.ref (ad 0), .int v1] ((f_X6_refusal X v1).1) (zW cy ad shM E (f_X6_refusal X v1).2) := by
  refine zMi.of (by decide) (Nat.le_of_ble_eq_true rfl) ?_
  intro p e s m below meth c A C hr
  generalize h : f_X6_refusal X v1 = res
  unfold f_X6_refusal at h
  refine zG_L (L' := [(0, .ref (ad 0)), (1, .int v1)]) rfl ?_
  refine g_aload_n (j := 0) C dX6_refusal_0 rfl rfl ?_
  refine g_geti (k := 8) (N := 27) C sM_0 rfl zin_RX6 (by decide) rfl zfl_RX6_39 rfl dX6_refusal_1 ?_
  refine g_if_ne C dX6_refusal_4 (tgt := 15) (by decide) (fun hc_1 => ?_) (fun hc_1 => ?_)
  · replace h := (if_neg hc_1).symm.trans h
    refine g_aload_n (j := 0) C dX6_refusal_15 rfl rfl ?_
    refine g_iload_n (j := 1) C dX6_refusal_16 rfl rfl ?_
    refine g_if_eq C dX6_refusal_17 (tgt := 27) (by decide) (fun hc_2 => ?_) (fun hc_2 => ?_)
    · replace h := (if_pos hc_2).symm.trans h
      refine g_aload_n (j := 0) C dX6_refusal_27 rfl rfl ?_
      refine g_geti (k := 8) (N := 27) C sM_0 rfl zin_RX6 (by decide) rfl zfl_RX6_39 rfl dX6_refusal_28 ?_
      obtain ⟨q_3, e_4, h⟩ := zlet_ex h
      refine g_vi (ws' := (zW cy ad shM E q_3.2)) (As := [.int (X 0 8)]) (rest := []) (res := q_3.1) C ((by rw [e_4]; exact c_X6_done l D cy ad E X (X 0 8))) zml_RX6_71 zcv_X6_done (zW_get X sM_0) rfl rfl rfl ⟨Nat.le_of_ble_eq_true rfl, Nat.le_of_ble_eq_true rfl⟩ rfl rfl (Nat.le_of_ble_eq_true rfl) ⟨Nat.zero_le _, Nat.zero_le _⟩ dX6_refusal_31 ?_
      subst h
      exact g_iret rfl C hr rfl dX6_refusal_34
    · replace h := (if_neg hc_2).symm.trans h
      refine g_aload_n (j := 0) C dX6_refusal_20 rfl rfl ?_
      refine g_geti (k := 9) (N := 27) C sM_0 rfl zin_RX6 (by decide) rfl zfl_RX6_42 rfl dX6_refusal_21 ?_
      refine g_goto C dX6_refusal_24 (tgt := 31) (by decide) ?_
      obtain ⟨q_5, e_6, h⟩ := zlet_ex h
      refine g_vi (ws' := (zW cy ad shM E q_5.2)) (As := [.int (X 0 9)]) (rest := []) (res := q_5.1) C ((by rw [e_6]; exact c_X6_done l D cy ad E X (X 0 9))) zml_RX6_71 zcv_X6_done (zW_get X sM_0) rfl rfl rfl ⟨Nat.le_of_ble_eq_true rfl, Nat.le_of_ble_eq_true rfl⟩ rfl rfl (Nat.le_of_ble_eq_true rfl) ⟨Nat.zero_le _, Nat.zero_le _⟩ dX6_refusal_31 ?_
      subst h
      exact g_iret rfl C hr rfl dX6_refusal_34
  · replace h := (if_pos hc_1).symm.trans h
    refine g_aload_n (j := 0) C dX6_refusal_7 rfl rfl ?_
    refine g_iconst (v := (nI 1)) C dX6_refusal_8 (by decide) ?_
    obtain ⟨q_7, e_8, h⟩ := zlet_ex h
    refine g_vi (ws' := (zW cy ad shM E q_7.2)) (As := [.int (nI 1)]) (rest := []) (res := q_7.1) C ((by rw [e_8]; exact c_X6_fails l D cy ad E X (nI 1))) zml_RX6_45 zcv_X6_fails (zW_get X sM_0) rfl rfl rfl ⟨Nat.le_of_ble_eq_true rfl, Nat.le_of_ble_eq_true rfl⟩ rfl rfl (Nat.le_of_ble_eq_true rfl) ⟨Nat.zero_le _, Nat.zero_le _⟩ dX6_refusal_9 ?_
    refine g_goto C dX6_refusal_12 (tgt := 34) (by decide) ?_
    subst h
    exact g_iret rfl C hr rfl dX6_refusal_34
def f_X6_advance (X : Nat → Nat → Int32) (v1 : Int32) : Option (Int32 × (Nat → Nat → Int32)) := (if (f_X6_in v1 (nI 1) (nI 30)) = 0 then (zlet (f_X6_fails X (nI 1)) fun q_2 => some (q_2.1, q_2.2)) else (if ((X 1 (nI 0).toNatClampNeg) + v1) < (nI 60) then ((f_X6_remembers X).bind fun q_5 => (zlet (zU q_5 1 (nI 0).toNatClampNeg ((q_5 1 (nI 0).toNatClampNeg) + v1)) fun X_7 => (zlet (f_X6_done X_7 (X_7 1 (nI 0).toNatClampNeg)) fun q_9 => some (q_9.1, q_9.2)))) else (zlet (f_X6_fails X (nI 1)) fun q_11 => some (q_11.1, q_11.2))))
set_option maxRecDepth 100000 in
set_option maxHeartbeats 4000000 in
theorem c_X6_advance (l : Launch) (D : va_G) (cy : Nat → ClassId) (ad : Nat → Nat) (E : va_W) (X : Nat → Nat → Int32) (v1 : Int32) {res : Int32 × (Nat → Nat → Int32)} (h : f_X6_advance X v1 = some res) : zMi l yX6_advance cX6_advance 2 (some .int) (zrm 4) D (zTy cy) (zW cy ad shM E X) [.ref (ad 0), .int v1] res.1 (zW cy ad shM E res.2) := by
  refine zMi.of (by decide) (Nat.le_of_ble_eq_true rfl) ?_
  intro p e s m below meth c A C hr
  unfold f_X6_advance at h
  refine zG_L (L' := [(0, .ref (ad 0)), (1, .int v1)]) rfl ?_
  refine g_iload_n (j := 1) C dX6_advance_0 rfl rfl ?_
  refine g_iconst (v := (nI 1)) C dX6_advance_1 (by decide) ?_
  refine g_bipush (v := (nI 30)) C dX6_advance_2 (by decide) ?_
  refine g_si (ws' := (zW cy ad shM E X)) (As := [.int v1, .int (nI 1), .int (nI 30)]) (rest := []) (res := (f_X6_in v1 (nI 1) (nI 30))) C (c_X6_in l D cy (zW cy ad shM E X) v1 (nI 1) (nI 30)) zml_RX6_64 zcs_X6_in rfl rfl ⟨Nat.le_of_ble_eq_true rfl, Nat.le_of_ble_eq_true rfl⟩ rfl rfl (Nat.le_of_ble_eq_true rfl) ⟨Nat.zero_le _, Nat.zero_le _⟩ dX6_advance_4 ?_
  refine g_if_eq C dX6_advance_7 (tgt := 23) (by decide) (fun hc_1 => ?_) (fun hc_1 => ?_)
  · replace h := (if_pos hc_1).symm.trans h
    refine g_aload_n (j := 0) C dX6_advance_23 rfl rfl ?_
    refine g_iconst (v := (nI 1)) C dX6_advance_24 (by decide) ?_
    obtain ⟨q_2, e_3, h⟩ := zlet_ex h
    refine g_vi (ws' := (zW cy ad shM E q_2.2)) (As := [.int (nI 1)]) (rest := []) (res := q_2.1) C ((by rw [e_3]; exact c_X6_fails l D cy ad E X (nI 1))) zml_RX6_45 zcv_X6_fails (zW_get X sM_0) rfl rfl rfl ⟨Nat.le_of_ble_eq_true rfl, Nat.le_of_ble_eq_true rfl⟩ rfl rfl (Nat.le_of_ble_eq_true rfl) ⟨Nat.zero_le _, Nat.zero_le _⟩ dX6_advance_25 ?_
    obtain rfl := Option.some.inj h
    exact g_iret rfl C hr rfl dX6_advance_28
  · replace h := (if_neg hc_1).symm.trans h
    refine g_aload_n (j := 0) C dX6_advance_10 rfl rfl ?_
    refine g_getr (k := 1) (N := 27) C sM_0 rfl zin_RX6 (by decide) rfl zfl_RX6_9 rfl dX6_advance_11 ?_
    refine g_iconst (v := (nI 0)) C dX6_advance_14 (by decide) ?_
    refine g_iald C sM_1 (by decide) dX6_advance_15 ?_
    refine g_iload_n (j := 1) C dX6_advance_16 rfl rfl ?_
    refine g_iadd C dX6_advance_17 ?_
    refine g_bipush (v := (nI 60)) C dX6_advance_18 (by decide) ?_
    refine g_icmp_lt C dX6_advance_20 (tgt := 29) (by decide) (fun hc_4 => ?_) (fun hc_4 => ?_)
    · replace h := (if_pos hc_4).symm.trans h
      refine g_aload_n (j := 0) C dX6_advance_29 rfl rfl ?_
      obtain ⟨q_5, hq_6, h⟩ := bind_isome h
      refine g_vv (ws' := (zW cy ad shM E q_5)) (As := []) (rest := []) C (c_X6_remembers l D cy ad E X hq_6) zml_RX6_68 zcv_X6_remembers (zW_get X sM_0) rfl rfl rfl ⟨Nat.le_of_ble_eq_true rfl, Nat.le_of_ble_eq_true rfl⟩ rfl rfl (Nat.le_of_ble_eq_true rfl) ⟨Nat.zero_le _, Nat.zero_le _⟩ dX6_advance_30 ?_
      refine g_aload_n (j := 0) C dX6_advance_33 rfl rfl ?_
      refine g_getr (k := 1) (N := 27) C sM_0 rfl zin_RX6 (by decide) rfl zfl_RX6_9 rfl dX6_advance_34 ?_
      refine g_iconst (v := (nI 0)) C dX6_advance_37 (by decide) ?_
      refine g_dup2 C dX6_advance_38 rfl rfl ?_
      refine g_iald C sM_1 (by decide) dX6_advance_39 ?_
      refine g_iload_n (j := 1) C dX6_advance_40 rfl rfl ?_
      refine g_iadd C dX6_advance_41 ?_
      refine g_iast C sM_1 (by decide) dX6_advance_42 ?_
      obtain ⟨X_7, e_8, h⟩ := zlet_ex h
      rw [← e_8]
      refine g_aload_n (j := 0) C dX6_advance_43 rfl rfl ?_
      refine g_aload_n (j := 0) C dX6_advance_44 rfl rfl ?_
      refine g_getr (k := 1) (N := 27) C sM_0 rfl zin_RX6 (by decide) rfl zfl_RX6_9 rfl dX6_advance_45 ?_
      refine g_iconst (v := (nI 0)) C dX6_advance_48 (by decide) ?_
      refine g_iald C sM_1 (by decide) dX6_advance_49 ?_
      obtain ⟨q_9, e_10, h⟩ := zlet_ex h
      refine g_vi (ws' := (zW cy ad shM E q_9.2)) (As := [.int (X_7 1 (nI 0).toNatClampNeg)]) (rest := []) (res := q_9.1) C ((by rw [e_10]; exact c_X6_done l D cy ad E X_7 (X_7 1 (nI 0).toNatClampNeg))) zml_RX6_71 zcv_X6_done (zW_get X_7 sM_0) rfl rfl rfl ⟨Nat.le_of_ble_eq_true rfl, Nat.le_of_ble_eq_true rfl⟩ rfl rfl (Nat.le_of_ble_eq_true rfl) ⟨Nat.zero_le _, Nat.zero_le _⟩ dX6_advance_50 ?_
      obtain rfl := Option.some.inj h
      exact g_iret rfl C hr rfl dX6_advance_53
    · replace h := (if_neg hc_4).symm.trans h
      refine g_aload_n (j := 0) C dX6_advance_23 rfl rfl ?_
      refine g_iconst (v := (nI 1)) C dX6_advance_24 (by decide) ?_
      obtain ⟨q_11, e_12, h⟩ := zlet_ex h
      refine g_vi (ws' := (zW cy ad shM E q_11.2)) (As := [.int (nI 1)]) (rest := []) (res := q_11.1) C ((by rw [e_12]; exact c_X6_fails l D cy ad E X (nI 1))) zml_RX6_45 zcv_X6_fails (zW_get X sM_0) rfl rfl rfl ⟨Nat.le_of_ble_eq_true rfl, Nat.le_of_ble_eq_true rfl⟩ rfl rfl (Nat.le_of_ble_eq_true rfl) ⟨Nat.zero_le _, Nat.zero_le _⟩ dX6_advance_25 ?_
      obtain rfl := Option.some.inj h
      exact g_iret rfl C hr rfl dX6_advance_28
def f_X6_sumOf_L4 (X : Nat → Nat → Int32) (v1 : Int32) : Nat → Int32 → Int32 → Option Int32
  | 0, _, _ => none
  | fu + 1, v2, v3 => (if (X 1 (nI 4).toNatClampNeg) ≤ v3 then some v2 else (if v1 = (nI 4) then ((f_X6_stands X v3).bind fun q_1017 => (if q_1017 = 0 then f_X6_sumOf_L4 X v1 fu (v2 + (nI 1)) (v3 + 1) else f_X6_sumOf_L4 X v1 fu (v2 + (nI 0)) (v3 + 1))) else ((f_X6_stands X v3).bind fun q_1003 => (if q_1003 = 0 then f_X6_sumOf_L4 X v1 fu v2 (v3 + 1) else (if v1 = (nI 5) then ((f_X6_showAt X v3 (nI 7)).bind fun q_1015 => f_X6_sumOf_L4 X v1 fu (v2 + q_1015) (v3 + 1)) else (if v1 = (nI 6) then ((f_X6_receiptsOf X v3).bind fun q_1013 => f_X6_sumOf_L4 X v1 fu (v2 + q_1013) (v3 + 1)) else (if v1 = (nI 7) then ((f_X6_partOf X v3).bind fun q_1011 => f_X6_sumOf_L4 X v1 fu (v2 + q_1011) (v3 + 1)) else ((f_X6_minutesOf X v3).bind fun q_1009 => f_X6_sumOf_L4 X v1 fu (v2 + q_1009) (v3 + 1)))))))))
set_option maxRecDepth 100000 in
set_option maxHeartbeats 4000000 in
theorem w_X6_sumOf_L4 {p : Program} {e : Env} {s : State} {m : MethodId} {args : Array Value} {below : List Frame} {meth : Method} {c : Code} {A : Nat → Prop} (l : Launch) (D : va_G) (cy : Nat → ClassId) (ad : Nat → Nat) (E : va_W) (X : Nat → Nat → Int32) (v1 : Int32) {res : Int32} (C : zC p s m args meth c cX6_sumOf 4 RX6 D (zTy cy) A) (hr : meth.sig.returnType = (some .int)) : ∀ (fu : Nat) (v2 v3 : Int32) (h : f_X6_sumOf_L4 X v1 fu v2 v3 = some res), zG p l e (zrm 4) s m args below meth c 4 D A 0 0 (MQ below (va_Qi (fun (r : Int32) (_ : Unit) => r = res) (fun _ t => zB D (zTy cy) A (zW cy ad shM E X) t) A) args s 0 0 A) (zW cy ad shM E X) 4 [(0, .ref (ad 0)), (1, .int v1), (2, .int v2), (3, .int v3)] [] := by
  intro fu
  induction fu with
  | zero => intro v2 v3 h; simp [f_X6_sumOf_L4] at h
  | succ fu ih =>
    intro v2 v3 h
    rw [f_X6_sumOf_L4] at h
    refine g_iload_n (j := 3) C dX6_sumOf_4 rfl rfl ?_
    refine g_aload_n (j := 0) C dX6_sumOf_5 rfl rfl ?_
    refine g_getr (k := 1) (N := 27) C sM_0 rfl zin_RX6 (by decide) rfl zfl_RX6_9 rfl dX6_sumOf_6 ?_
    refine g_iconst (v := (nI 4)) C dX6_sumOf_9 (by decide) ?_
    refine g_iald C sM_1 (by decide) dX6_sumOf_10 ?_
    refine g_icmp_ge C dX6_sumOf_11 (tgt := 103) (by decide) (fun hc_1001 => ?_) (fun hc_1001 => ?_)
    · replace h := (if_pos hc_1001).symm.trans h
      refine g_iload_n (j := 2) C dX6_sumOf_103 rfl rfl ?_
      obtain rfl := Option.some.inj h
      exact g_iret rfl C hr rfl dX6_sumOf_104
    · replace h := (if_neg hc_1001).symm.trans h
      refine g_iload_n (j := 1) C dX6_sumOf_14 rfl rfl ?_
      refine g_iconst (v := (nI 4)) C dX6_sumOf_15 (by decide) ?_
      refine g_icmp_ne C dX6_sumOf_16 (tgt := 38) (by decide) (fun hc_1002 => ?_) (fun hc_1002 => ?_)
      · replace h := (if_neg hc_1002).symm.trans h
        refine g_aload_n (j := 0) C dX6_sumOf_38 rfl rfl ?_
        refine g_iload_n (j := 3) C dX6_sumOf_39 rfl rfl ?_
        obtain ⟨q_1003, hq_1004, h⟩ := bind_isome h
        refine g_vi (ws' := (zW cy ad shM E X)) (As := [.int v3]) (rest := []) (res := q_1003) C (c_X6_stands l D cy ad E X v3 hq_1004) zml_RX6_107 zcv_X6_stands (zW_get X sM_0) rfl rfl rfl ⟨Nat.le_of_ble_eq_true rfl, Nat.le_of_ble_eq_true rfl⟩ rfl rfl (Nat.le_of_ble_eq_true rfl) ⟨Nat.zero_le _, Nat.zero_le _⟩ dX6_sumOf_40 ?_
        refine g_if_eq C dX6_sumOf_43 (tgt := 97) (by decide) (fun hc_1005 => ?_) (fun hc_1005 => ?_)
        · replace h := (if_pos hc_1005).symm.trans h
          refine g_iinc (k := 3) (L' := [(3, .int (v3 + 1)), (0, .ref (ad 0)), (1, .int v1), (2, .int v2)]) C dX6_sumOf_97 rfl (z_iinc (by decide)) (by decide) rfl ?_
          refine g_goto C dX6_sumOf_100 (tgt := 4) (by decide) ?_
          refine zG_sub (L' := [(0, .ref (ad 0)), (1, .int v1), (2, .int v2), (3, .int (v3 + 1))]) [1, 2, 3, 0] rfl ?_
          exact ih v2 (v3 + 1) h
        · replace h := (if_neg hc_1005).symm.trans h
          refine g_iload_n (j := 2) C dX6_sumOf_46 rfl rfl ?_
          refine g_iload_n (j := 1) C dX6_sumOf_47 rfl rfl ?_
          refine g_iconst (v := (nI 5)) C dX6_sumOf_48 (by decide) ?_
          refine g_icmp_ne C dX6_sumOf_49 (tgt := 62) (by decide) (fun hc_1006 => ?_) (fun hc_1006 => ?_)
          · replace h := (if_neg hc_1006).symm.trans h
            refine g_iload_n (j := 1) C dX6_sumOf_62 rfl rfl ?_
            refine g_bipush (v := (nI 6)) C dX6_sumOf_63 (by decide) ?_
            refine g_icmp_ne C dX6_sumOf_65 (tgt := 76) (by decide) (fun hc_1007 => ?_) (fun hc_1007 => ?_)
            · replace h := (if_neg hc_1007).symm.trans h
              refine g_iload_n (j := 1) C dX6_sumOf_76 rfl rfl ?_
              refine g_bipush (v := (nI 7)) C dX6_sumOf_77 (by decide) ?_
              refine g_icmp_ne C dX6_sumOf_79 (tgt := 90) (by decide) (fun hc_1008 => ?_) (fun hc_1008 => ?_)
              · replace h := (if_neg hc_1008).symm.trans h
                refine g_aload_n (j := 0) C dX6_sumOf_90 rfl rfl ?_
                refine g_iload_n (j := 3) C dX6_sumOf_91 rfl rfl ?_
                obtain ⟨q_1009, hq_1010, h⟩ := bind_isome h
                refine g_vi (ws' := (zW cy ad shM E X)) (As := [.int v3]) (rest := [.int v2]) (res := q_1009) C (c_X6_minutesOf l D cy ad E X v3 hq_1010) zml_RX6_92 zcv_X6_minutesOf (zW_get X sM_0) rfl rfl rfl ⟨Nat.le_of_ble_eq_true rfl, Nat.le_of_ble_eq_true rfl⟩ rfl rfl (Nat.le_of_ble_eq_true rfl) ⟨Nat.zero_le _, Nat.zero_le _⟩ dX6_sumOf_92 ?_
                refine g_iadd C dX6_sumOf_95 ?_
                refine g_istore_n (L' := [(2, .int (v2 + q_1009)), (0, .ref (ad 0)), (1, .int v1), (3, .int v3)]) C dX6_sumOf_96 rfl (by decide) rfl ?_
                refine g_iinc (k := 3) (L' := [(3, .int (v3 + 1)), (2, .int (v2 + q_1009)), (0, .ref (ad 0)), (1, .int v1)]) C dX6_sumOf_97 rfl (z_iinc (by decide)) (by decide) rfl ?_
                refine g_goto C dX6_sumOf_100 (tgt := 4) (by decide) ?_
                refine zG_sub (L' := [(0, .ref (ad 0)), (1, .int v1), (2, .int (v2 + q_1009)), (3, .int (v3 + 1))]) [2, 3, 1, 0] rfl ?_
                exact ih (v2 + q_1009) (v3 + 1) h
              · replace h := (if_pos hc_1008).symm.trans h
                refine g_aload_n (j := 0) C dX6_sumOf_82 rfl rfl ?_
                refine g_iload_n (j := 3) C dX6_sumOf_83 rfl rfl ?_
                obtain ⟨q_1011, hq_1012, h⟩ := bind_isome h
                refine g_vi (ws' := (zW cy ad shM E X)) (As := [.int v3]) (rest := [.int v2]) (res := q_1011) C (c_X6_partOf l D cy ad E X v3 hq_1012) zml_RX6_110 zcv_X6_partOf (zW_get X sM_0) rfl rfl rfl ⟨Nat.le_of_ble_eq_true rfl, Nat.le_of_ble_eq_true rfl⟩ rfl rfl (Nat.le_of_ble_eq_true rfl) ⟨Nat.zero_le _, Nat.zero_le _⟩ dX6_sumOf_84 ?_
                refine g_goto C dX6_sumOf_87 (tgt := 95) (by decide) ?_
                refine g_iadd C dX6_sumOf_95 ?_
                refine g_istore_n (L' := [(2, .int (v2 + q_1011)), (0, .ref (ad 0)), (1, .int v1), (3, .int v3)]) C dX6_sumOf_96 rfl (by decide) rfl ?_
                refine g_iinc (k := 3) (L' := [(3, .int (v3 + 1)), (2, .int (v2 + q_1011)), (0, .ref (ad 0)), (1, .int v1)]) C dX6_sumOf_97 rfl (z_iinc (by decide)) (by decide) rfl ?_
                refine g_goto C dX6_sumOf_100 (tgt := 4) (by decide) ?_
                refine zG_sub (L' := [(0, .ref (ad 0)), (1, .int v1), (2, .int (v2 + q_1011)), (3, .int (v3 + 1))]) [2, 3, 1, 0] rfl ?_
                exact ih (v2 + q_1011) (v3 + 1) h
            · replace h := (if_pos hc_1007).symm.trans h
              refine g_aload_n (j := 0) C dX6_sumOf_68 rfl rfl ?_
              refine g_iload_n (j := 3) C dX6_sumOf_69 rfl rfl ?_
              obtain ⟨q_1013, hq_1014, h⟩ := bind_isome h
              refine g_vi (ws' := (zW cy ad shM E X)) (As := [.int v3]) (rest := [.int v2]) (res := q_1013) C (c_X6_receiptsOf l D cy ad E X v3 hq_1014) zml_RX6_98 zcv_X6_receiptsOf (zW_get X sM_0) rfl rfl rfl ⟨Nat.le_of_ble_eq_true rfl, Nat.le_of_ble_eq_true rfl⟩ rfl rfl (Nat.le_of_ble_eq_true rfl) ⟨Nat.zero_le _, Nat.zero_le _⟩ dX6_sumOf_70 ?_
              refine g_goto C dX6_sumOf_73 (tgt := 95) (by decide) ?_
              refine g_iadd C dX6_sumOf_95 ?_
              refine g_istore_n (L' := [(2, .int (v2 + q_1013)), (0, .ref (ad 0)), (1, .int v1), (3, .int v3)]) C dX6_sumOf_96 rfl (by decide) rfl ?_
              refine g_iinc (k := 3) (L' := [(3, .int (v3 + 1)), (2, .int (v2 + q_1013)), (0, .ref (ad 0)), (1, .int v1)]) C dX6_sumOf_97 rfl (z_iinc (by decide)) (by decide) rfl ?_
              refine g_goto C dX6_sumOf_100 (tgt := 4) (by decide) ?_
              refine zG_sub (L' := [(0, .ref (ad 0)), (1, .int v1), (2, .int (v2 + q_1013)), (3, .int (v3 + 1))]) [2, 3, 1, 0] rfl ?_
              exact ih (v2 + q_1013) (v3 + 1) h
          · replace h := (if_pos hc_1006).symm.trans h
            refine g_aload_n (j := 0) C dX6_sumOf_52 rfl rfl ?_
            refine g_iload_n (j := 3) C dX6_sumOf_53 rfl rfl ?_
            refine g_bipush (v := (nI 7)) C dX6_sumOf_54 (by decide) ?_
            obtain ⟨q_1015, hq_1016, h⟩ := bind_isome h
            refine g_vi (ws' := (zW cy ad shM E X)) (As := [.int v3, .int (nI 7)]) (rest := [.int v2]) (res := q_1015) C (c_X6_showAt l D cy ad E X v3 (nI 7) hq_1016) zml_RX6_89 zcv_X6_showAt (zW_get X sM_0) rfl rfl rfl ⟨Nat.le_of_ble_eq_true rfl, Nat.le_of_ble_eq_true rfl⟩ rfl rfl (Nat.le_of_ble_eq_true rfl) ⟨Nat.zero_le _, Nat.zero_le _⟩ dX6_sumOf_56 ?_
            refine g_goto C dX6_sumOf_59 (tgt := 95) (by decide) ?_
            refine g_iadd C dX6_sumOf_95 ?_
            refine g_istore_n (L' := [(2, .int (v2 + q_1015)), (0, .ref (ad 0)), (1, .int v1), (3, .int v3)]) C dX6_sumOf_96 rfl (by decide) rfl ?_
            refine g_iinc (k := 3) (L' := [(3, .int (v3 + 1)), (2, .int (v2 + q_1015)), (0, .ref (ad 0)), (1, .int v1)]) C dX6_sumOf_97 rfl (z_iinc (by decide)) (by decide) rfl ?_
            refine g_goto C dX6_sumOf_100 (tgt := 4) (by decide) ?_
            refine zG_sub (L' := [(0, .ref (ad 0)), (1, .int v1), (2, .int (v2 + q_1015)), (3, .int (v3 + 1))]) [2, 3, 1, 0] rfl ?_
            exact ih (v2 + q_1015) (v3 + 1) h
      · replace h := (if_pos hc_1002).symm.trans h
        refine g_iload_n (j := 2) C dX6_sumOf_19 rfl rfl ?_
        refine g_aload_n (j := 0) C dX6_sumOf_20 rfl rfl ?_
        refine g_iload_n (j := 3) C dX6_sumOf_21 rfl rfl ?_
        obtain ⟨q_1017, hq_1018, h⟩ := bind_isome h
        refine g_vi (ws' := (zW cy ad shM E X)) (As := [.int v3]) (rest := [.int v2]) (res := q_1017) C (c_X6_stands l D cy ad E X v3 hq_1018) zml_RX6_107 zcv_X6_stands (zW_get X sM_0) rfl rfl rfl ⟨Nat.le_of_ble_eq_true rfl, Nat.le_of_ble_eq_true rfl⟩ rfl rfl (Nat.le_of_ble_eq_true rfl) ⟨Nat.zero_le _, Nat.zero_le _⟩ dX6_sumOf_22 ?_
        refine g_if_eq C dX6_sumOf_25 (tgt := 32) (by decide) (fun hc_1019 => ?_) (fun hc_1019 => ?_)
        · replace h := (if_pos hc_1019).symm.trans h
          refine g_iconst (v := (nI 1)) C dX6_sumOf_32 (by decide) ?_
          refine g_iadd C dX6_sumOf_33 ?_
          refine g_istore_n (L' := [(2, .int (v2 + (nI 1))), (0, .ref (ad 0)), (1, .int v1), (3, .int v3)]) C dX6_sumOf_34 rfl (by decide) rfl ?_
          refine g_goto C dX6_sumOf_35 (tgt := 97) (by decide) ?_
          refine g_iinc (k := 3) (L' := [(3, .int (v3 + 1)), (2, .int (v2 + (nI 1))), (0, .ref (ad 0)), (1, .int v1)]) C dX6_sumOf_97 rfl (z_iinc (by decide)) (by decide) rfl ?_
          refine g_goto C dX6_sumOf_100 (tgt := 4) (by decide) ?_
          refine zG_sub (L' := [(0, .ref (ad 0)), (1, .int v1), (2, .int (v2 + (nI 1))), (3, .int (v3 + 1))]) [2, 3, 1, 0] rfl ?_
          exact ih (v2 + (nI 1)) (v3 + 1) h
        · replace h := (if_neg hc_1019).symm.trans h
          refine g_iconst (v := (nI 0)) C dX6_sumOf_28 (by decide) ?_
          refine g_goto C dX6_sumOf_29 (tgt := 33) (by decide) ?_
          refine g_iadd C dX6_sumOf_33 ?_
          refine g_istore_n (L' := [(2, .int (v2 + (nI 0))), (0, .ref (ad 0)), (1, .int v1), (3, .int v3)]) C dX6_sumOf_34 rfl (by decide) rfl ?_
          refine g_goto C dX6_sumOf_35 (tgt := 97) (by decide) ?_
          refine g_iinc (k := 3) (L' := [(3, .int (v3 + 1)), (2, .int (v2 + (nI 0))), (0, .ref (ad 0)), (1, .int v1)]) C dX6_sumOf_97 rfl (z_iinc (by decide)) (by decide) rfl ?_
          refine g_goto C dX6_sumOf_100 (tgt := 4) (by decide) ?_
          refine zG_sub (L' := [(0, .ref (ad 0)), (1, .int v1), (2, .int (v2 + (nI 0))), (3, .int (v3 + 1))]) [2, 3, 1, 0] rfl ?_
          exact ih (v2 + (nI 0)) (v3 + 1) h
def f_X6_sumOf (X : Nat → Nat → Int32) (v1 : Int32) : Option Int32 := f_X6_sumOf_L4 X v1 zFuel (nI 0) (nI 0)
set_option maxRecDepth 100000 in
set_option maxHeartbeats 4000000 in
theorem c_X6_sumOf (l : Launch) (D : va_G) (cy : Nat → ClassId) (ad : Nat → Nat) (E : va_W) (X : Nat → Nat → Int32) (v1 : Int32) {res : Int32} (h : f_X6_sumOf X v1 = some res) : zMi l yX6_sumOf cX6_sumOf 4 (some .int) (zrm 4) D (zTy cy) (zW cy ad shM E X) [.ref (ad 0), .int v1] res (zW cy ad shM E X) := by
  refine zMi.of (by decide) (Nat.le_of_ble_eq_true rfl) ?_
  intro p e s m below meth c A C hr
  unfold f_X6_sumOf at h
  refine zG_L (L' := [(0, .ref (ad 0)), (1, .int v1)]) rfl ?_
  refine g_iconst (v := (nI 0)) C dX6_sumOf_0 (by decide) ?_
  refine g_istore_n (L' := [(2, .int (nI 0)), (0, .ref (ad 0)), (1, .int v1)]) C dX6_sumOf_1 rfl (by decide) rfl ?_
  refine g_iconst (v := (nI 0)) C dX6_sumOf_2 (by decide) ?_
  refine g_istore_n (L' := [(3, .int (nI 0)), (2, .int (nI 0)), (0, .ref (ad 0)), (1, .int v1)]) C dX6_sumOf_3 rfl (by decide) rfl ?_
  refine zG_sub (L' := [(0, .ref (ad 0)), (1, .int v1), (2, .int (nI 0)), (3, .int (nI 0))]) [2, 3, 1, 0] rfl ?_
  exact w_X6_sumOf_L4 l D cy ad E X v1 C hr zFuel (nI 0) (nI 0) h
def f_X6_account (X : Nat → Nat → Int32) (v1 : Int32) : Option (Int32 × (Nat → Nat → Int32)) := (if (f_X6_in v1 (nI 0) (nI 11)) = 0 then (zlet (f_X6_fails X (nI 1)) fun q_23 => some (q_23.1, q_23.2)) else (if (nI 4) ≤ v1 then (if v1 = (nI 8) then ((f_X6_sumOf X (nI 6)).bind fun q_14 => ((f_X6_sumOf X (nI 7)).bind fun q_16 => (zlet (f_X6_done X (q_14 - q_16)) fun q_18 => some (q_18.1, q_18.2)))) else (if v1 = (nI 9) then (zlet (f_X6_done X (X 1 (nI 5).toNatClampNeg)) fun q_12 => some (q_12.1, q_12.2)) else (if v1 = (nI 11) then (zlet (f_X6_done X (X 1 (nI 0).toNatClampNeg)) fun q_10 => some (q_10.1, q_10.2)) else ((f_X6_sumOf X v1).bind fun q_6 => (zlet (f_X6_done X q_6) fun q_8 => some (q_8.1, q_8.2)))))) else (if ((nI 1) + v1) < 0 ∨ 580 ≤ ((nI 1) + v1).toNatClampNeg then none else (zlet (f_X6_done X (X 1 ((nI 1) + v1).toNatClampNeg)) fun q_21 => some (q_21.1, q_21.2)))))
set_option maxRecDepth 100000 in
set_option maxHeartbeats 4000000 in
theorem c_X6_account (l : Launch) (D : va_G) (cy : Nat → ClassId) (ad : Nat → Nat) (E : va_W) (X : Nat → Nat → Int32) (v1 : Int32) {res : Int32 × (Nat → Nat → Int32)} (h : f_X6_account X v1 = some res) : zMi l yX6_account cX6_account 2 (some .int) (zrm 5) D (zTy cy) (zW cy ad shM E X) [.ref (ad 0), .int v1] res.1 (zW cy ad shM E res.2) := by
  refine zMi.of (by decide) (Nat.le_of_ble_eq_true rfl) ?_
  intro p e s m below meth c A C hr
  unfold f_X6_account at h
  refine zG_L (L' := [(0, .ref (ad 0)), (1, .int v1)]) rfl ?_
  refine g_iload_n (j := 1) C dX6_account_0 rfl rfl ?_
  refine g_iconst (v := (nI 0)) C dX6_account_1 (by decide) ?_
  refine g_bipush (v := (nI 11)) C dX6_account_2 (by decide) ?_
  refine g_si (ws' := (zW cy ad shM E X)) (As := [.int v1, .int (nI 0), .int (nI 11)]) (rest := []) (res := (f_X6_in v1 (nI 0) (nI 11))) C (c_X6_in l D cy (zW cy ad shM E X) v1 (nI 0) (nI 11)) zml_RX6_64 zcs_X6_in rfl rfl ⟨Nat.le_of_ble_eq_true rfl, Nat.le_of_ble_eq_true rfl⟩ rfl rfl (Nat.le_of_ble_eq_true rfl) ⟨Nat.zero_le _, Nat.zero_le _⟩ dX6_account_4 ?_
  refine g_if_ne C dX6_account_7 (tgt := 16) (by decide) (fun hc_1 => ?_) (fun hc_1 => ?_)
  · replace h := (if_neg hc_1).symm.trans h
    refine g_iload_n (j := 1) C dX6_account_16 rfl rfl ?_
    refine g_iconst (v := (nI 4)) C dX6_account_17 (by decide) ?_
    refine g_icmp_ge C dX6_account_18 (tgt := 34) (by decide) (fun hc_2 => ?_) (fun hc_2 => ?_)
    · replace h := (if_pos hc_2).symm.trans h
      refine g_aload_n (j := 0) C dX6_account_34 rfl rfl ?_
      refine g_iload_n (j := 1) C dX6_account_35 rfl rfl ?_
      refine g_bipush (v := (nI 8)) C dX6_account_36 (by decide) ?_
      refine g_icmp_ne C dX6_account_38 (tgt := 57) (by decide) (fun hc_3 => ?_) (fun hc_3 => ?_)
      · replace h := (if_neg hc_3).symm.trans h
        refine g_iload_n (j := 1) C dX6_account_57 rfl rfl ?_
        refine g_bipush (v := (nI 9)) C dX6_account_58 (by decide) ?_
        refine g_icmp_ne C dX6_account_60 (tgt := 72) (by decide) (fun hc_4 => ?_) (fun hc_4 => ?_)
        · replace h := (if_neg hc_4).symm.trans h
          refine g_iload_n (j := 1) C dX6_account_72 rfl rfl ?_
          refine g_bipush (v := (nI 11)) C dX6_account_73 (by decide) ?_
          refine g_icmp_ne C dX6_account_75 (tgt := 87) (by decide) (fun hc_5 => ?_) (fun hc_5 => ?_)
          · replace h := (if_neg hc_5).symm.trans h
            refine g_aload_n (j := 0) C dX6_account_87 rfl rfl ?_
            refine g_iload_n (j := 1) C dX6_account_88 rfl rfl ?_
            obtain ⟨q_6, hq_7, h⟩ := bind_isome h
            refine g_vi (ws' := (zW cy ad shM E X)) (As := [.int v1]) (rest := [.ref (ad 0)]) (res := q_6) C (c_X6_sumOf l D cy ad E X v1 hq_7) zml_RX6_233 zcv_X6_sumOf (zW_get X sM_0) rfl rfl rfl ⟨Nat.le_of_ble_eq_true rfl, Nat.le_of_ble_eq_true rfl⟩ rfl rfl (Nat.le_of_ble_eq_true rfl) ⟨Nat.zero_le _, Nat.zero_le _⟩ dX6_account_89 ?_
            obtain ⟨q_8, e_9, h⟩ := zlet_ex h
            refine g_vi (ws' := (zW cy ad shM E q_8.2)) (As := [.int q_6]) (rest := []) (res := q_8.1) C ((by rw [e_9]; exact c_X6_done l D cy ad E X q_6)) zml_RX6_71 zcv_X6_done (zW_get X sM_0) rfl rfl rfl ⟨Nat.le_of_ble_eq_true rfl, Nat.le_of_ble_eq_true rfl⟩ rfl rfl (Nat.le_of_ble_eq_true rfl) ⟨Nat.zero_le _, Nat.zero_le _⟩ dX6_account_92 ?_
            obtain rfl := Option.some.inj h
            exact g_iret rfl C hr rfl dX6_account_95
          · replace h := (if_pos hc_5).symm.trans h
            refine g_aload_n (j := 0) C dX6_account_78 rfl rfl ?_
            refine g_getr (k := 1) (N := 27) C sM_0 rfl zin_RX6 (by decide) rfl zfl_RX6_9 rfl dX6_account_79 ?_
            refine g_iconst (v := (nI 0)) C dX6_account_82 (by decide) ?_
            refine g_iald C sM_1 (by decide) dX6_account_83 ?_
            refine g_goto C dX6_account_84 (tgt := 92) (by decide) ?_
            obtain ⟨q_10, e_11, h⟩ := zlet_ex h
            refine g_vi (ws' := (zW cy ad shM E q_10.2)) (As := [.int (X 1 (nI 0).toNatClampNeg)]) (rest := []) (res := q_10.1) C ((by rw [e_11]; exact c_X6_done l D cy ad E X (X 1 (nI 0).toNatClampNeg))) zml_RX6_71 zcv_X6_done (zW_get X sM_0) rfl rfl rfl ⟨Nat.le_of_ble_eq_true rfl, Nat.le_of_ble_eq_true rfl⟩ rfl rfl (Nat.le_of_ble_eq_true rfl) ⟨Nat.zero_le _, Nat.zero_le _⟩ dX6_account_92 ?_
            obtain rfl := Option.some.inj h
            exact g_iret rfl C hr rfl dX6_account_95
        · replace h := (if_pos hc_4).symm.trans h
          refine g_aload_n (j := 0) C dX6_account_63 rfl rfl ?_
          refine g_getr (k := 1) (N := 27) C sM_0 rfl zin_RX6 (by decide) rfl zfl_RX6_9 rfl dX6_account_64 ?_
          refine g_iconst (v := (nI 5)) C dX6_account_67 (by decide) ?_
          refine g_iald C sM_1 (by decide) dX6_account_68 ?_
          refine g_goto C dX6_account_69 (tgt := 92) (by decide) ?_
          obtain ⟨q_12, e_13, h⟩ := zlet_ex h
          refine g_vi (ws' := (zW cy ad shM E q_12.2)) (As := [.int (X 1 (nI 5).toNatClampNeg)]) (rest := []) (res := q_12.1) C ((by rw [e_13]; exact c_X6_done l D cy ad E X (X 1 (nI 5).toNatClampNeg))) zml_RX6_71 zcv_X6_done (zW_get X sM_0) rfl rfl rfl ⟨Nat.le_of_ble_eq_true rfl, Nat.le_of_ble_eq_true rfl⟩ rfl rfl (Nat.le_of_ble_eq_true rfl) ⟨Nat.zero_le _, Nat.zero_le _⟩ dX6_account_92 ?_
          obtain rfl := Option.some.inj h
          exact g_iret rfl C hr rfl dX6_account_95
      · replace h := (if_pos hc_3).symm.trans h
        refine g_aload_n (j := 0) C dX6_account_41 rfl rfl ?_
        refine g_bipush (v := (nI 6)) C dX6_account_42 (by decide) ?_
        obtain ⟨q_14, hq_15, h⟩ := bind_isome h
        refine g_vi (ws' := (zW cy ad shM E X)) (As := [.int (nI 6)]) (rest := [.ref (ad 0)]) (res := q_14) C (c_X6_sumOf l D cy ad E X (nI 6) hq_15) zml_RX6_233 zcv_X6_sumOf (zW_get X sM_0) rfl rfl rfl ⟨Nat.le_of_ble_eq_true rfl, Nat.le_of_ble_eq_true rfl⟩ rfl rfl (Nat.le_of_ble_eq_true rfl) ⟨Nat.zero_le _, Nat.zero_le _⟩ dX6_account_44 ?_
        refine g_aload_n (j := 0) C dX6_account_47 rfl rfl ?_
        refine g_bipush (v := (nI 7)) C dX6_account_48 (by decide) ?_
        obtain ⟨q_16, hq_17, h⟩ := bind_isome h
        refine g_vi (ws' := (zW cy ad shM E X)) (As := [.int (nI 7)]) (rest := [.int q_14, .ref (ad 0)]) (res := q_16) C (c_X6_sumOf l D cy ad E X (nI 7) hq_17) zml_RX6_233 zcv_X6_sumOf (zW_get X sM_0) rfl rfl rfl ⟨Nat.le_of_ble_eq_true rfl, Nat.le_of_ble_eq_true rfl⟩ rfl rfl (Nat.le_of_ble_eq_true rfl) ⟨Nat.zero_le _, Nat.zero_le _⟩ dX6_account_50 ?_
        refine g_isub C dX6_account_53 ?_
        refine g_goto C dX6_account_54 (tgt := 92) (by decide) ?_
        obtain ⟨q_18, e_19, h⟩ := zlet_ex h
        refine g_vi (ws' := (zW cy ad shM E q_18.2)) (As := [.int (q_14 - q_16)]) (rest := []) (res := q_18.1) C ((by rw [e_19]; exact c_X6_done l D cy ad E X (q_14 - q_16))) zml_RX6_71 zcv_X6_done (zW_get X sM_0) rfl rfl rfl ⟨Nat.le_of_ble_eq_true rfl, Nat.le_of_ble_eq_true rfl⟩ rfl rfl (Nat.le_of_ble_eq_true rfl) ⟨Nat.zero_le _, Nat.zero_le _⟩ dX6_account_92 ?_
        obtain rfl := Option.some.inj h
        exact g_iret rfl C hr rfl dX6_account_95
    · replace h := (if_neg hc_2).symm.trans h
      refine g_aload_n (j := 0) C dX6_account_21 rfl rfl ?_
      refine g_aload_n (j := 0) C dX6_account_22 rfl rfl ?_
      refine g_getr (k := 1) (N := 27) C sM_0 rfl zin_RX6 (by decide) rfl zfl_RX6_9 rfl dX6_account_23 ?_
      refine g_iconst (v := (nI 1)) C dX6_account_26 (by decide) ?_
      refine g_iload_n (j := 1) C dX6_account_27 rfl rfl ?_
      refine g_iadd C dX6_account_28 ?_
      obtain ⟨hi_20, h⟩ := ite_inone h
      refine g_iald C sM_1 hi_20 dX6_account_29 ?_
      obtain ⟨q_21, e_22, h⟩ := zlet_ex h
      refine g_vi (ws' := (zW cy ad shM E q_21.2)) (As := [.int (X 1 ((nI 1) + v1).toNatClampNeg)]) (rest := []) (res := q_21.1) C ((by rw [e_22]; exact c_X6_done l D cy ad E X (X 1 ((nI 1) + v1).toNatClampNeg))) zml_RX6_71 zcv_X6_done (zW_get X sM_0) rfl rfl rfl ⟨Nat.le_of_ble_eq_true rfl, Nat.le_of_ble_eq_true rfl⟩ rfl rfl (Nat.le_of_ble_eq_true rfl) ⟨Nat.zero_le _, Nat.zero_le _⟩ dX6_account_30 ?_
      obtain rfl := Option.some.inj h
      exact g_iret rfl C hr rfl dX6_account_33
  · replace h := (if_pos hc_1).symm.trans h
    refine g_aload_n (j := 0) C dX6_account_10 rfl rfl ?_
    refine g_iconst (v := (nI 1)) C dX6_account_11 (by decide) ?_
    obtain ⟨q_23, e_24, h⟩ := zlet_ex h
    refine g_vi (ws' := (zW cy ad shM E q_23.2)) (As := [.int (nI 1)]) (rest := []) (res := q_23.1) C ((by rw [e_24]; exact c_X6_fails l D cy ad E X (nI 1))) zml_RX6_45 zcv_X6_fails (zW_get X sM_0) rfl rfl rfl ⟨Nat.le_of_ble_eq_true rfl, Nat.le_of_ble_eq_true rfl⟩ rfl rfl (Nat.le_of_ble_eq_true rfl) ⟨Nat.zero_le _, Nat.zero_le _⟩ dX6_account_12 ?_
    obtain rfl := Option.some.inj h
    exact g_iret rfl C hr rfl dX6_account_15
def f_X6_bestFilm_L6 (k : (Nat → Nat → Int32) → Int32 → Option (Int32 × (Nat → Nat → Int32))) : Nat → (Nat → Nat → Int32) → Int32 → Int32 → Int32 → Option (Int32 × (Nat → Nat → Int32))
  | 0, _, _, _, _ => none
  | fu + 1, X, v1, v2, v3 => (if (X 1 (nI 2).toNatClampNeg) ≤ v3 then k X v1 else ((f_X6_film X v3 (nI 6)).bind fun q_1002 => (if v1 = (-1 : Int32) then f_X6_bestFilm_L6 k fu q_1002.2 v3 q_1002.1 (v3 + 1) else (if q_1002.1 ≤ v2 then f_X6_bestFilm_L6 k fu q_1002.2 v1 v2 (v3 + 1) else f_X6_bestFilm_L6 k fu q_1002.2 v3 q_1002.1 (v3 + 1)))))
set_option maxRecDepth 100000 in
set_option maxHeartbeats 4000000 in
theorem w_X6_bestFilm_L6 {p : Program} {e : Env} {s : State} {m : MethodId} {args : Array Value} {below : List Frame} {meth : Method} {c : Code} {A : Nat → Prop} (l : Launch) (D : va_G) (cy : Nat → ClassId) (ad : Nat → Nat) (E : va_W) (k : (Nat → Nat → Int32) → Int32 → Option (Int32 × (Nat → Nat → Int32))) {res : Int32 × (Nat → Nat → Int32)} (C : zC p s m args meth c cX6_bestFilm 5 RX6 D (zTy cy) A) (hr : meth.sig.returnType = (some .int)) : ∀ (fu : Nat) (X : Nat → Nat → Int32) (v1 v2 v3 : Int32) (h : f_X6_bestFilm_L6 k fu X v1 v2 v3 = some res) (hk : ∀ (X : Nat → Nat → Int32) (v1 : Int32), k X v1 = some res → zG p l e (zrm 5) s m args below meth c 5 D A 0 0 (MQ below (va_Qi (fun (r : Int32) (_ : Unit) => r = res.1) (fun _ t => zB D (zTy cy) A (zW cy ad shM E res.2) t) A) args s 0 0 A) (zW cy ad shM E X) 47 [(0, .ref (ad 0)), (1, .int v1)] []), zG p l e (zrm 5) s m args below meth c 5 D A 0 0 (MQ below (va_Qi (fun (r : Int32) (_ : Unit) => r = res.1) (fun _ t => zB D (zTy cy) A (zW cy ad shM E res.2) t) A) args s 0 0 A) (zW cy ad shM E X) 6 [(0, .ref (ad 0)), (1, .int v1), (2, .int v2), (3, .int v3)] [] := by
  intro fu
  induction fu with
  | zero => intro X v1 v2 v3 h hk; simp [f_X6_bestFilm_L6] at h
  | succ fu ih =>
    intro X v1 v2 v3 h hk
    rw [f_X6_bestFilm_L6] at h
    refine g_iload_n (j := 3) C dX6_bestFilm_6 rfl rfl ?_
    refine g_aload_n (j := 0) C dX6_bestFilm_7 rfl rfl ?_
    refine g_getr (k := 1) (N := 27) C sM_0 rfl zin_RX6 (by decide) rfl zfl_RX6_9 rfl dX6_bestFilm_8 ?_
    refine g_iconst (v := (nI 2)) C dX6_bestFilm_11 (by decide) ?_
    refine g_iald C sM_1 (by decide) dX6_bestFilm_12 ?_
    refine g_icmp_ge C dX6_bestFilm_13 (tgt := 47) (by decide) (fun hc_1001 => ?_) (fun hc_1001 => ?_)
    · replace h := (if_pos hc_1001).symm.trans h
      refine zG_sub (L' := [(0, .ref (ad 0)), (1, .int v1)]) [0, 1] rfl ?_
      exact hk X v1 h
    · replace h := (if_neg hc_1001).symm.trans h
      refine g_aload_n (j := 0) C dX6_bestFilm_16 rfl rfl ?_
      refine g_iload_n (j := 3) C dX6_bestFilm_17 rfl rfl ?_
      refine g_bipush (v := (nI 6)) C dX6_bestFilm_18 (by decide) ?_
      obtain ⟨q_1002, hq_1003, h⟩ := bind_isome h
      refine g_vi (ws' := (zW cy ad shM E q_1002.2)) (As := [.int v3, .int (nI 6)]) (rest := []) (res := q_1002.1) C (c_X6_film l D cy ad E X v3 (nI 6) hq_1003) zml_RX6_236 zcv_X6_film (zW_get X sM_0) rfl rfl rfl ⟨Nat.le_of_ble_eq_true rfl, Nat.le_of_ble_eq_true rfl⟩ rfl rfl (Nat.le_of_ble_eq_true rfl) ⟨Nat.zero_le _, Nat.zero_le _⟩ dX6_bestFilm_20 ?_
      refine g_istore (L' := [(4, .int q_1002.1), (0, .ref (ad 0)), (1, .int v1), (2, .int v2), (3, .int v3)]) C dX6_bestFilm_23 (by decide) rfl ?_
      refine g_iload_n (j := 2) C dX6_bestFilm_25 rfl rfl ?_
      refine g_iconst (v := (-1 : Int32)) C dX6_bestFilm_26 (by decide) ?_
      refine g_icmp_eq C dX6_bestFilm_27 (tgt := 36) (by decide) (fun hc_1004 => ?_) (fun hc_1004 => ?_)
      · replace h := (if_pos hc_1004).symm.trans h
        refine g_iload_n (j := 4) C dX6_bestFilm_36 rfl rfl ?_
        refine g_istore_n (L' := [(1, .int v3), (4, .int q_1002.1), (0, .ref (ad 0)), (2, .int v2), (3, .int v3)]) C dX6_bestFilm_37 rfl (by decide) rfl ?_
        refine g_iload (j := 1) C dX6_bestFilm_38 rfl ?_
        refine g_istore_n (L' := [(2, .int q_1002.1), (1, .int v3), (4, .int q_1002.1), (0, .ref (ad 0)), (3, .int v3)]) C dX6_bestFilm_40 rfl (by decide) rfl ?_
        refine g_iinc (k := 4) (L' := [(3, .int (v3 + 1)), (2, .int q_1002.1), (1, .int v3), (4, .int q_1002.1), (0, .ref (ad 0))]) C dX6_bestFilm_41 rfl (z_iinc (by decide)) (by decide) rfl ?_
        refine g_goto C dX6_bestFilm_44 (tgt := 6) (by decide) ?_
        refine zG_sub (L' := [(0, .ref (ad 0)), (1, .int v3), (2, .int q_1002.1), (3, .int (v3 + 1))]) [4, 2, 1, 0] rfl ?_
        exact ih q_1002.2 v3 q_1002.1 (v3 + 1) h hk
      · replace h := (if_neg hc_1004).symm.trans h
        refine g_iload (j := 0) C dX6_bestFilm_30 rfl ?_
        refine g_iload_n (j := 3) C dX6_bestFilm_32 rfl rfl ?_
        refine g_icmp_le C dX6_bestFilm_33 (tgt := 41) (by decide) (fun hc_1005 => ?_) (fun hc_1005 => ?_)
        · replace h := (if_pos hc_1005).symm.trans h
          refine g_iinc (k := 4) (L' := [(3, .int (v3 + 1)), (4, .int q_1002.1), (0, .ref (ad 0)), (1, .int v1), (2, .int v2)]) C dX6_bestFilm_41 rfl (z_iinc (by decide)) (by decide) rfl ?_
          refine g_goto C dX6_bestFilm_44 (tgt := 6) (by decide) ?_
          refine zG_sub (L' := [(0, .ref (ad 0)), (1, .int v1), (2, .int v2), (3, .int (v3 + 1))]) [2, 3, 4, 0] rfl ?_
          exact ih q_1002.2 v1 v2 (v3 + 1) h hk
        · replace h := (if_neg hc_1005).symm.trans h
          refine g_iload_n (j := 4) C dX6_bestFilm_36 rfl rfl ?_
          refine g_istore_n (L' := [(1, .int v3), (4, .int q_1002.1), (0, .ref (ad 0)), (2, .int v2), (3, .int v3)]) C dX6_bestFilm_37 rfl (by decide) rfl ?_
          refine g_iload (j := 1) C dX6_bestFilm_38 rfl ?_
          refine g_istore_n (L' := [(2, .int q_1002.1), (1, .int v3), (4, .int q_1002.1), (0, .ref (ad 0)), (3, .int v3)]) C dX6_bestFilm_40 rfl (by decide) rfl ?_
          refine g_iinc (k := 4) (L' := [(3, .int (v3 + 1)), (2, .int q_1002.1), (1, .int v3), (4, .int q_1002.1), (0, .ref (ad 0))]) C dX6_bestFilm_41 rfl (z_iinc (by decide)) (by decide) rfl ?_
          refine g_goto C dX6_bestFilm_44 (tgt := 6) (by decide) ?_
          refine zG_sub (L' := [(0, .ref (ad 0)), (1, .int v3), (2, .int q_1002.1), (3, .int (v3 + 1))]) [4, 2, 1, 0] rfl ?_
          exact ih q_1002.2 v3 q_1002.1 (v3 + 1) h hk
def f_X6_bestFilm (X : Nat → Nat → Int32) : Option (Int32 × (Nat → Nat → Int32)) := f_X6_bestFilm_L6 (fun X_1007 v1_1006 => (if v1_1006 = (-1 : Int32) then (zlet (f_X6_fails X_1007 (nI 1)) fun q_1011 => some (q_1011.1, q_1011.2)) else (zlet (f_X6_done X_1007 v1_1006) fun q_1009 => some (q_1009.1, q_1009.2)))) zFuel X (-1 : Int32) (nI 0) (nI 0)
set_option maxRecDepth 100000 in
set_option maxHeartbeats 4000000 in
theorem c_X6_bestFilm (l : Launch) (D : va_G) (cy : Nat → ClassId) (ad : Nat → Nat) (E : va_W) (X : Nat → Nat → Int32) {res : Int32 × (Nat → Nat → Int32)} (h : f_X6_bestFilm X = some res) : zMi l yX6_bestFilm cX6_bestFilm 5 (some .int) (zrm 5) D (zTy cy) (zW cy ad shM E X) [.ref (ad 0)] res.1 (zW cy ad shM E res.2) := by
  refine zMi.of (by decide) (Nat.le_of_ble_eq_true rfl) ?_
  intro p e s m below meth c A C hr
  unfold f_X6_bestFilm at h
  refine zG_L (L' := [(0, .ref (ad 0))]) rfl ?_
  refine g_iconst (v := (-1 : Int32)) C dX6_bestFilm_0 (by decide) ?_
  refine g_istore_n (L' := [(1, .int (-1 : Int32)), (0, .ref (ad 0))]) C dX6_bestFilm_1 rfl (by decide) rfl ?_
  refine g_iconst (v := (nI 0)) C dX6_bestFilm_2 (by decide) ?_
  refine g_istore_n (L' := [(2, .int (nI 0)), (1, .int (-1 : Int32)), (0, .ref (ad 0))]) C dX6_bestFilm_3 rfl (by decide) rfl ?_
  refine g_iconst (v := (nI 0)) C dX6_bestFilm_4 (by decide) ?_
  refine g_istore_n (L' := [(3, .int (nI 0)), (2, .int (nI 0)), (1, .int (-1 : Int32)), (0, .ref (ad 0))]) C dX6_bestFilm_5 rfl (by decide) rfl ?_
  refine zG_sub (L' := [(0, .ref (ad 0)), (1, .int (-1 : Int32)), (2, .int (nI 0)), (3, .int (nI 0))]) [3, 2, 1, 0] rfl ?_
  refine w_X6_bestFilm_L6 l D cy ad E _ C hr zFuel X (-1 : Int32) (nI 0) (nI 0) h ?_
  intro X_1007 v1_1006 h
  refine g_iload_n (j := 1) C dX6_bestFilm_47 rfl rfl ?_
  refine g_iconst (v := (-1 : Int32)) C dX6_bestFilm_48 (by decide) ?_
  refine g_icmp_ne C dX6_bestFilm_49 (tgt := 60) (by decide) (fun hc_1008 => ?_) (fun hc_1008 => ?_)
  · replace h := (if_neg hc_1008).symm.trans h
    refine g_aload_n (j := 0) C dX6_bestFilm_60 rfl rfl ?_
    refine g_iload_n (j := 1) C dX6_bestFilm_61 rfl rfl ?_
    obtain ⟨q_1009, e_1010, h⟩ := zlet_ex h
    refine g_vi (ws' := (zW cy ad shM E q_1009.2)) (As := [.int v1_1006]) (rest := []) (res := q_1009.1) C ((by rw [e_1010]; exact c_X6_done l D cy ad E X_1007 v1_1006)) zml_RX6_71 zcv_X6_done (zW_get X_1007 sM_0) rfl rfl rfl ⟨Nat.le_of_ble_eq_true rfl, Nat.le_of_ble_eq_true rfl⟩ rfl rfl (Nat.le_of_ble_eq_true rfl) ⟨Nat.zero_le _, Nat.zero_le _⟩ dX6_bestFilm_62 ?_
    obtain rfl := Option.some.inj h
    exact g_iret rfl C hr rfl dX6_bestFilm_65
  · replace h := (if_pos hc_1008).symm.trans h
    refine g_aload_n (j := 0) C dX6_bestFilm_52 rfl rfl ?_
    refine g_iconst (v := (nI 1)) C dX6_bestFilm_53 (by decide) ?_
    obtain ⟨q_1011, e_1012, h⟩ := zlet_ex h
    refine g_vi (ws' := (zW cy ad shM E q_1011.2)) (As := [.int (nI 1)]) (rest := []) (res := q_1011.1) C ((by rw [e_1012]; exact c_X6_fails l D cy ad E X_1007 (nI 1))) zml_RX6_45 zcv_X6_fails (zW_get X_1007 sM_0) rfl rfl rfl ⟨Nat.le_of_ble_eq_true rfl, Nat.le_of_ble_eq_true rfl⟩ rfl rfl (Nat.le_of_ble_eq_true rfl) ⟨Nat.zero_le _, Nat.zero_le _⟩ dX6_bestFilm_54 ?_
    refine g_goto C dX6_bestFilm_57 (tgt := 65) (by decide) ?_
    obtain rfl := Option.some.inj h
    exact g_iret rfl C hr rfl dX6_bestFilm_65
def f_X6_writesLetter (X : Nat → Nat → Int32) (v1 : Int32) : Option (Nat → Nat → Int32) := (if (X 0 14) < 0 ∨ 1200 ≤ (X 0 14).toNatClampNeg then none else (zlet (zU X 6 (X 0 14).toNatClampNeg (vp_nar .char v1)) fun X_2 => (zlet (zU X_2 0 14 ((X_2 0 14) + (nI 1))) fun X_4 => some X_4)))
set_option maxRecDepth 100000 in
set_option maxHeartbeats 4000000 in
theorem c_X6_writesLetter (l : Launch) (D : va_G) (cy : Nat → ClassId) (ad : Nat → Nat) (E : va_W) (X : Nat → Nat → Int32) (v1 : Int32) {res : (Nat → Nat → Int32)} (h : f_X6_writesLetter X v1 = some res) : zMv l yX6_writesLetter cX6_writesLetter 2 none (zrm 1) D (zTy cy) (zW cy ad shM E X) [.ref (ad 0), .int v1] (zW cy ad shM E res) := by
  refine zMv.of (by decide) (Nat.le_of_ble_eq_true rfl) ?_
  intro p e s m below meth c A C hr
  unfold f_X6_writesLetter at h
  refine zG_L (L' := [(0, .ref (ad 0)), (1, .int v1)]) rfl ?_
  refine g_aload_n (j := 0) C dX6_writesLetter_0 rfl rfl ?_
  refine g_getr (k := 13) (N := 27) C sM_0 rfl zin_RX6 (by decide) rfl zfl_RX6_30 rfl dX6_writesLetter_1 ?_
  refine g_aload_n (j := 0) C dX6_writesLetter_4 rfl rfl ?_
  refine g_geti (k := 14) (N := 27) C sM_0 rfl zin_RX6 (by decide) rfl zfl_RX6_239 rfl dX6_writesLetter_5 ?_
  refine g_iload_n (j := 1) C dX6_writesLetter_8 rfl rfl ?_
  obtain ⟨hi_1, h⟩ := ite_inone h
  refine g_cast C sM_6 hi_1 dX6_writesLetter_9 ?_
  obtain ⟨X_2, e_3, h⟩ := zlet_ex h
  rw [← e_3]
  refine g_aload_n (j := 0) C dX6_writesLetter_10 rfl rfl ?_
  refine g_dup C dX6_writesLetter_11 rfl ?_
  refine g_geti (k := 14) (N := 27) C sM_0 rfl zin_RX6 (by decide) rfl zfl_RX6_239 rfl dX6_writesLetter_12 ?_
  refine g_iconst (v := (nI 1)) C dX6_writesLetter_15 (by decide) ?_
  refine g_iadd C dX6_writesLetter_16 ?_
  refine g_puti (k := 14) (N := 27) (ty := .int) C sM_0 rfl zin_RX6 (by decide) rfl zfl_RX6_239 rfl tyX6_ok nmX6 rfl (by decide +kernel) rfl rfl dX6_writesLetter_17 ?_
  obtain ⟨X_4, e_5, h⟩ := zlet_ex h
  rw [← e_5]
  obtain rfl := Option.some.inj h
  exact g_vret rfl C hr dX6_writesLetter_20
def f_X6_writesNumber_L2 (k : Int32 → Option (Nat → Nat → Int32)) (X : Nat → Nat → Int32) (v1 : Int32) : Nat → Int32 → Option (Nat → Nat → Int32)
  | 0, _ => none
  | fu + 1, v2 => (if v1 < (v2 * (nI 10)) then k v2 else f_X6_writesNumber_L2 k X v1 fu (v2 * (nI 10)))
set_option maxRecDepth 100000 in
set_option maxHeartbeats 4000000 in
theorem w_X6_writesNumber_L2 {p : Program} {e : Env} {s : State} {m : MethodId} {args : Array Value} {below : List Frame} {meth : Method} {c : Code} {A : Nat → Prop} (l : Launch) (D : va_G) (cy : Nat → ClassId) (ad : Nat → Nat) (E : va_W) (k : Int32 → Option (Nat → Nat → Int32)) (X : Nat → Nat → Int32) (v1 : Int32) {res : (Nat → Nat → Int32)} (C : zC p s m args meth c cX6_writesNumber 4 RX6 D (zTy cy) A) (hr : meth.sig.returnType = none) : ∀ (fu : Nat) (v2 : Int32) (h : f_X6_writesNumber_L2 k X v1 fu v2 = some res) (hk : ∀ (v2 : Int32), k v2 = some res → zG p l e (zrm 2) s m args below meth c 4 D A 0 0 (MQ below (va_Qv (fun (_ : Unit) => True) (fun _ t => zB D (zTy cy) A (zW cy ad shM E res) t) A) args s 0 0 A) (zW cy ad shM E X) 18 [(0, .ref (ad 0)), (1, .int v1), (2, .int v2)] []), zG p l e (zrm 2) s m args below meth c 4 D A 0 0 (MQ below (va_Qv (fun (_ : Unit) => True) (fun _ t => zB D (zTy cy) A (zW cy ad shM E res) t) A) args s 0 0 A) (zW cy ad shM E X) 2 [(0, .ref (ad 0)), (1, .int v1), (2, .int v2)] [] := by
  intro fu
  induction fu with
  | zero => intro v2 h hk; simp [f_X6_writesNumber_L2] at h
  | succ fu ih =>
    intro v2 h hk
    rw [f_X6_writesNumber_L2] at h
    refine g_iload_n (j := 2) C dX6_writesNumber_2 rfl rfl ?_
    refine g_bipush (v := (nI 10)) C dX6_writesNumber_3 (by decide) ?_
    refine g_imul C dX6_writesNumber_5 ?_
    refine g_iload_n (j := 1) C dX6_writesNumber_6 rfl rfl ?_
    refine g_icmp_gt C dX6_writesNumber_7 (tgt := 18) (by decide) (fun hc_1001 => ?_) (fun hc_1001 => ?_)
    · replace h := (if_pos hc_1001).symm.trans h
      refine zG_sub (L' := [(0, .ref (ad 0)), (1, .int v1), (2, .int v2)]) [0, 1, 2] rfl ?_
      exact hk v2 h
    · replace h := (if_neg hc_1001).symm.trans h
      refine g_iload_n (j := 2) C dX6_writesNumber_10 rfl rfl ?_
      refine g_bipush (v := (nI 10)) C dX6_writesNumber_11 (by decide) ?_
      refine g_imul C dX6_writesNumber_13 ?_
      refine g_istore_n (L' := [(2, .int (v2 * (nI 10))), (0, .ref (ad 0)), (1, .int v1)]) C dX6_writesNumber_14 rfl (by decide) rfl ?_
      refine g_goto C dX6_writesNumber_15 (tgt := 2) (by decide) ?_
      refine zG_sub (L' := [(0, .ref (ad 0)), (1, .int v1), (2, .int (v2 * (nI 10)))]) [1, 2, 0] rfl ?_
      exact ih (v2 * (nI 10)) h hk
def f_X6_writesNumber_L20 (v1 : Int32) : Nat → (Nat → Nat → Int32) → Int32 → Option (Nat → Nat → Int32)
  | 0, _, _ => none
  | fu + 1, X, v3 => (if v3 ≤ 0 then some X else (if v3 = 0 then none else ((f_X6_writesLetter X ((((nI 48) + ((v1 / v3) - (v1 / v3) / (nI 10) * (nI 10))).toUInt32 % 65536).toInt32)).bind fun q_2005 => f_X6_writesNumber_L20 v1 fu q_2005 (v3 / (nI 10)))))
set_option maxRecDepth 100000 in
set_option maxHeartbeats 4000000 in
theorem w_X6_writesNumber_L20 {p : Program} {e : Env} {s : State} {m : MethodId} {args : Array Value} {below : List Frame} {meth : Method} {c : Code} {A : Nat → Prop} (l : Launch) (D : va_G) (cy : Nat → ClassId) (ad : Nat → Nat) (E : va_W) (v1 : Int32) {res : (Nat → Nat → Int32)} (C : zC p s m args meth c cX6_writesNumber 4 RX6 D (zTy cy) A) (hr : meth.sig.returnType = none) : ∀ (fu : Nat) (X : Nat → Nat → Int32) (v3 : Int32) (h : f_X6_writesNumber_L20 v1 fu X v3 = some res), zG p l e (zrm 2) s m args below meth c 4 D A 0 0 (MQ below (va_Qv (fun (_ : Unit) => True) (fun _ t => zB D (zTy cy) A (zW cy ad shM E res) t) A) args s 0 0 A) (zW cy ad shM E X) 20 [(0, .ref (ad 0)), (1, .int v1), (3, .int v3)] [] := by
  intro fu
  induction fu with
  | zero => intro X v3 h; simp [f_X6_writesNumber_L20] at h
  | succ fu ih =>
    intro X v3 h
    rw [f_X6_writesNumber_L20] at h
    refine g_iload_n (j := 2) C dX6_writesNumber_20 rfl rfl ?_
    refine g_if_le C dX6_writesNumber_21 (tgt := 46) (by decide) (fun hc_2003 => ?_) (fun hc_2003 => ?_)
    · replace h := (if_pos hc_2003).symm.trans h
      obtain rfl := Option.some.inj h
      exact g_vret rfl C hr dX6_writesNumber_46
    · replace h := (if_neg hc_2003).symm.trans h
      refine g_aload_n (j := 0) C dX6_writesNumber_24 rfl rfl ?_
      refine g_bipush (v := (nI 48)) C dX6_writesNumber_25 (by decide) ?_
      refine g_iload_n (j := 1) C dX6_writesNumber_27 rfl rfl ?_
      refine g_iload_n (j := 2) C dX6_writesNumber_28 rfl rfl ?_
      obtain ⟨hg_2004, h⟩ := ite_inone h
      refine g_idiv C dX6_writesNumber_29 hg_2004 ?_
      refine g_bipush (v := (nI 10)) C dX6_writesNumber_30 (by decide) ?_
      refine g_irem C dX6_writesNumber_32 (by decide) ?_
      refine g_iadd C dX6_writesNumber_33 ?_
      refine g_i2c C dX6_writesNumber_34 rfl ?_
      obtain ⟨q_2005, hq_2006, h⟩ := bind_isome h
      refine g_vv (ws' := (zW cy ad shM E q_2005)) (As := [.int ((((nI 48) + ((v1 / v3) - (v1 / v3) / (nI 10) * (nI 10))).toUInt32 % 65536).toInt32)]) (rest := []) C (c_X6_writesLetter l D cy ad E X ((((nI 48) + ((v1 / v3) - (v1 / v3) / (nI 10) * (nI 10))).toUInt32 % 65536).toInt32) hq_2006) zml_RX6_251 zcv_X6_writesLetter (zW_get X sM_0) rfl rfl rfl ⟨Nat.le_of_ble_eq_true rfl, Nat.le_of_ble_eq_true rfl⟩ rfl rfl (Nat.le_of_ble_eq_true rfl) ⟨Nat.zero_le _, Nat.zero_le _⟩ dX6_writesNumber_35 ?_
      refine g_iload_n (j := 2) C dX6_writesNumber_38 rfl rfl ?_
      refine g_bipush (v := (nI 10)) C dX6_writesNumber_39 (by decide) ?_
      refine g_idiv C dX6_writesNumber_41 (by decide) ?_
      refine g_istore_n (L' := [(3, .int (v3 / (nI 10))), (0, .ref (ad 0)), (1, .int v1)]) C dX6_writesNumber_42 rfl (by decide) rfl ?_
      refine g_goto C dX6_writesNumber_43 (tgt := 20) (by decide) ?_
      refine zG_sub (L' := [(0, .ref (ad 0)), (1, .int v1), (3, .int (v3 / (nI 10)))]) [1, 2, 0] rfl ?_
      exact ih q_2005 (v3 / (nI 10)) h
def f_X6_writesNumber (X : Nat → Nat → Int32) (v1 : Int32) : Option (Nat → Nat → Int32) := f_X6_writesNumber_L2 (fun v2_1002 => f_X6_writesNumber_L20 v1 zFuel X v2_1002) X v1 zFuel (nI 1)
set_option maxRecDepth 100000 in
set_option maxHeartbeats 4000000 in
theorem c_X6_writesNumber (l : Launch) (D : va_G) (cy : Nat → ClassId) (ad : Nat → Nat) (E : va_W) (X : Nat → Nat → Int32) (v1 : Int32) {res : (Nat → Nat → Int32)} (h : f_X6_writesNumber X v1 = some res) : zMv l yX6_writesNumber cX6_writesNumber 4 none (zrm 2) D (zTy cy) (zW cy ad shM E X) [.ref (ad 0), .int v1] (zW cy ad shM E res) := by
  refine zMv.of (by decide) (Nat.le_of_ble_eq_true rfl) ?_
  intro p e s m below meth c A C hr
  unfold f_X6_writesNumber at h
  refine zG_L (L' := [(0, .ref (ad 0)), (1, .int v1)]) rfl ?_
  refine g_iconst (v := (nI 1)) C dX6_writesNumber_0 (by decide) ?_
  refine g_istore_n (L' := [(2, .int (nI 1)), (0, .ref (ad 0)), (1, .int v1)]) C dX6_writesNumber_1 rfl (by decide) rfl ?_
  refine zG_sub (L' := [(0, .ref (ad 0)), (1, .int v1), (2, .int (nI 1))]) [1, 2, 0] rfl ?_
  refine w_X6_writesNumber_L2 l D cy ad E _ X v1 C hr zFuel (nI 1) h ?_
  intro v2_1002 h
  refine g_iload_n (j := 2) C dX6_writesNumber_18 rfl rfl ?_
  refine g_istore_n (L' := [(3, .int v2_1002), (0, .ref (ad 0)), (1, .int v1), (2, .int v2_1002)]) C dX6_writesNumber_19 rfl (by decide) rfl ?_
  refine zG_sub (L' := [(0, .ref (ad 0)), (1, .int v1), (3, .int v2_1002)]) [1, 2, 0] rfl ?_
  exact w_X6_writesNumber_L20 l D cy ad E v1 C hr zFuel X v2_1002 h
def f_X6_nextShow_L6 (X : Nat → Nat → Int32) (v1 : Int32) (v2 : Int32) (v3 : Int32) : Nat → Int32 → Int32 → Option Int32
  | 0, _, _ => none
  | fu + 1, v4, v5 => (if (X 1 (nI 4).toNatClampNeg) ≤ v5 then some v4 else ((f_X6_stands X v5).bind fun q_1002 => (if q_1002 = 0 then f_X6_nextShow_L6 X v1 v2 v3 fu v4 (v5 + 1) else ((f_X6_showAt X v5 (nI 0)).bind fun q_1005 => (if q_1005 = v1 then ((f_X6_showAt X v5 (nI 2)).bind fun q_1008 => (if q_1008 = v2 then ((f_X6_showAt X v5 (nI 3)).bind fun q_1011 => (if q_1011 ≤ v3 then f_X6_nextShow_L6 X v1 v2 v3 fu v4 (v5 + 1) else (if v4 = (-1 : Int32) then f_X6_nextShow_L6 X v1 v2 v3 fu v5 (v5 + 1) else ((f_X6_showAt X v5 (nI 3)).bind fun q_1015 => ((f_X6_showAt X v4 (nI 3)).bind fun q_1017 => (if q_1017 ≤ q_1015 then f_X6_nextShow_L6 X v1 v2 v3 fu v4 (v5 + 1) else f_X6_nextShow_L6 X v1 v2 v3 fu v5 (v5 + 1))))))) else f_X6_nextShow_L6 X v1 v2 v3 fu v4 (v5 + 1))) else f_X6_nextShow_L6 X v1 v2 v3 fu v4 (v5 + 1))))))
set_option maxRecDepth 100000 in
set_option maxHeartbeats 4000000 in
theorem w_X6_nextShow_L6 {p : Program} {e : Env} {s : State} {m : MethodId} {args : Array Value} {below : List Frame} {meth : Method} {c : Code} {A : Nat → Prop} (l : Launch) (D : va_G) (cy : Nat → ClassId) (ad : Nat → Nat) (E : va_W) (X : Nat → Nat → Int32) (v1 : Int32) (v2 : Int32) (v3 : Int32) {res : Int32} (C : zC p s m args meth c cX6_nextShow 7 RX6 D (zTy cy) A) (hr : meth.sig.returnType = (some .int)) : ∀ (fu : Nat) (v4 v5 : Int32) (h : f_X6_nextShow_L6 X v1 v2 v3 fu v4 v5 = some res), zG p l e (zrm 3) s m args below meth c 7 D A 0 0 (MQ below (va_Qi (fun (r : Int32) (_ : Unit) => r = res) (fun _ t => zB D (zTy cy) A (zW cy ad shM E X) t) A) args s 0 0 A) (zW cy ad shM E X) 6 [(0, .ref (ad 0)), (1, .int v1), (2, .int v2), (3, .int v3), (4, .int v4), (5, .int v5)] [] := by
  intro fu
  induction fu with
  | zero => intro v4 v5 h; simp [f_X6_nextShow_L6] at h
  | succ fu ih =>
    intro v4 v5 h
    rw [f_X6_nextShow_L6] at h
    refine g_iload (j := 5) C dX6_nextShow_6 rfl ?_
    refine g_aload_n (j := 0) C dX6_nextShow_8 rfl rfl ?_
    refine g_getr (k := 1) (N := 27) C sM_0 rfl zin_RX6 (by decide) rfl zfl_RX6_9 rfl dX6_nextShow_9 ?_
    refine g_iconst (v := (nI 4)) C dX6_nextShow_12 (by decide) ?_
    refine g_iald C sM_1 (by decide) dX6_nextShow_13 ?_
    refine g_icmp_ge C dX6_nextShow_14 (tgt := 109) (by decide) (fun hc_1001 => ?_) (fun hc_1001 => ?_)
    · replace h := (if_pos hc_1001).symm.trans h
      refine g_iload (j := 4) C dX6_nextShow_109 rfl ?_
      obtain rfl := Option.some.inj h
      exact g_iret rfl C hr rfl dX6_nextShow_111
    · replace h := (if_neg hc_1001).symm.trans h
      refine g_aload_n (j := 0) C dX6_nextShow_17 rfl rfl ?_
      refine g_iload (j := 5) C dX6_nextShow_18 rfl ?_
      obtain ⟨q_1002, hq_1003, h⟩ := bind_isome h
      refine g_vi (ws' := (zW cy ad shM E X)) (As := [.int v5]) (rest := []) (res := q_1002) C (c_X6_stands l D cy ad E X v5 hq_1003) zml_RX6_107 zcv_X6_stands (zW_get X sM_0) rfl rfl rfl ⟨Nat.le_of_ble_eq_true rfl, Nat.le_of_ble_eq_true rfl⟩ rfl rfl (Nat.le_of_ble_eq_true rfl) ⟨Nat.zero_le _, Nat.zero_le _⟩ dX6_nextShow_20 ?_
      refine g_if_eq C dX6_nextShow_23 (tgt := 63) (by decide) (fun hc_1004 => ?_) (fun hc_1004 => ?_)
      · replace h := (if_pos hc_1004).symm.trans h
        refine g_iconst (v := (nI 0)) C dX6_nextShow_63 (by decide) ?_
        refine g_istore (L' := [(6, .int (nI 0)), (0, .ref (ad 0)), (1, .int v1), (2, .int v2), (3, .int v3), (4, .int v4), (5, .int v5)]) C dX6_nextShow_64 (by decide) rfl ?_
        refine g_iload (j := 0) C dX6_nextShow_66 rfl ?_
        refine g_if_eq C dX6_nextShow_68 (tgt := 99) (by decide) (fun _ => ?_) (fun h9 => absurd h9 (by decide))
        refine g_iload (j := 5) C dX6_nextShow_99 rfl ?_
        refine g_istore (L' := [(4, .int v4), (6, .int (nI 0)), (0, .ref (ad 0)), (1, .int v1), (2, .int v2), (3, .int v3), (5, .int v5)]) C dX6_nextShow_101 (by decide) rfl ?_
        refine g_iinc (k := 6) (L' := [(5, .int (v5 + 1)), (4, .int v4), (6, .int (nI 0)), (0, .ref (ad 0)), (1, .int v1), (2, .int v2), (3, .int v3)]) C dX6_nextShow_103 rfl (z_iinc (by decide)) (by decide) rfl ?_
        refine g_goto C dX6_nextShow_106 (tgt := 6) (by decide) ?_
        refine zG_sub (L' := [(0, .ref (ad 0)), (1, .int v1), (2, .int v2), (3, .int v3), (4, .int v4), (5, .int (v5 + 1))]) [3, 4, 5, 6, 1, 0] rfl ?_
        exact ih v4 (v5 + 1) h
      · replace h := (if_neg hc_1004).symm.trans h
        refine g_aload_n (j := 0) C dX6_nextShow_26 rfl rfl ?_
        refine g_iload (j := 5) C dX6_nextShow_27 rfl ?_
        refine g_iconst (v := (nI 0)) C dX6_nextShow_29 (by decide) ?_
        obtain ⟨q_1005, hq_1006, h⟩ := bind_isome h
        refine g_vi (ws' := (zW cy ad shM E X)) (As := [.int v5, .int (nI 0)]) (rest := []) (res := q_1005) C (c_X6_showAt l D cy ad E X v5 (nI 0) hq_1006) zml_RX6_89 zcv_X6_showAt (zW_get X sM_0) rfl rfl rfl ⟨Nat.le_of_ble_eq_true rfl, Nat.le_of_ble_eq_true rfl⟩ rfl rfl (Nat.le_of_ble_eq_true rfl) ⟨Nat.zero_le _, Nat.zero_le _⟩ dX6_nextShow_30 ?_
        refine g_iload_n (j := 1) C dX6_nextShow_33 rfl rfl ?_
        refine g_icmp_ne C dX6_nextShow_34 (tgt := 63) (by decide) (fun hc_1007 => ?_) (fun hc_1007 => ?_)
        · replace h := (if_neg hc_1007).symm.trans h
          refine g_iconst (v := (nI 0)) C dX6_nextShow_63 (by decide) ?_
          refine g_istore (L' := [(6, .int (nI 0)), (0, .ref (ad 0)), (1, .int v1), (2, .int v2), (3, .int v3), (4, .int v4), (5, .int v5)]) C dX6_nextShow_64 (by decide) rfl ?_
          refine g_iload (j := 0) C dX6_nextShow_66 rfl ?_
          refine g_if_eq C dX6_nextShow_68 (tgt := 99) (by decide) (fun _ => ?_) (fun h9 => absurd h9 (by decide))
          refine g_iload (j := 5) C dX6_nextShow_99 rfl ?_
          refine g_istore (L' := [(4, .int v4), (6, .int (nI 0)), (0, .ref (ad 0)), (1, .int v1), (2, .int v2), (3, .int v3), (5, .int v5)]) C dX6_nextShow_101 (by decide) rfl ?_
          refine g_iinc (k := 6) (L' := [(5, .int (v5 + 1)), (4, .int v4), (6, .int (nI 0)), (0, .ref (ad 0)), (1, .int v1), (2, .int v2), (3, .int v3)]) C dX6_nextShow_103 rfl (z_iinc (by decide)) (by decide) rfl ?_
          refine g_goto C dX6_nextShow_106 (tgt := 6) (by decide) ?_
          refine zG_sub (L' := [(0, .ref (ad 0)), (1, .int v1), (2, .int v2), (3, .int v3), (4, .int v4), (5, .int (v5 + 1))]) [3, 4, 5, 6, 1, 0] rfl ?_
          exact ih v4 (v5 + 1) h
        · replace h := (if_pos hc_1007).symm.trans h
          refine g_aload_n (j := 0) C dX6_nextShow_37 rfl rfl ?_
          refine g_iload (j := 5) C dX6_nextShow_38 rfl ?_
          refine g_iconst (v := (nI 2)) C dX6_nextShow_40 (by decide) ?_
          obtain ⟨q_1008, hq_1009, h⟩ := bind_isome h
          refine g_vi (ws' := (zW cy ad shM E X)) (As := [.int v5, .int (nI 2)]) (rest := []) (res := q_1008) C (c_X6_showAt l D cy ad E X v5 (nI 2) hq_1009) zml_RX6_89 zcv_X6_showAt (zW_get X sM_0) rfl rfl rfl ⟨Nat.le_of_ble_eq_true rfl, Nat.le_of_ble_eq_true rfl⟩ rfl rfl (Nat.le_of_ble_eq_true rfl) ⟨Nat.zero_le _, Nat.zero_le _⟩ dX6_nextShow_41 ?_
          refine g_iload_n (j := 2) C dX6_nextShow_44 rfl rfl ?_
          refine g_icmp_ne C dX6_nextShow_45 (tgt := 63) (by decide) (fun hc_1010 => ?_) (fun hc_1010 => ?_)
          · replace h := (if_neg hc_1010).symm.trans h
            refine g_iconst (v := (nI 0)) C dX6_nextShow_63 (by decide) ?_
            refine g_istore (L' := [(6, .int (nI 0)), (0, .ref (ad 0)), (1, .int v1), (2, .int v2), (3, .int v3), (4, .int v4), (5, .int v5)]) C dX6_nextShow_64 (by decide) rfl ?_
            refine g_iload (j := 0) C dX6_nextShow_66 rfl ?_
            refine g_if_eq C dX6_nextShow_68 (tgt := 99) (by decide) (fun _ => ?_) (fun h9 => absurd h9 (by decide))
            refine g_iload (j := 5) C dX6_nextShow_99 rfl ?_
            refine g_istore (L' := [(4, .int v4), (6, .int (nI 0)), (0, .ref (ad 0)), (1, .int v1), (2, .int v2), (3, .int v3), (5, .int v5)]) C dX6_nextShow_101 (by decide) rfl ?_
            refine g_iinc (k := 6) (L' := [(5, .int (v5 + 1)), (4, .int v4), (6, .int (nI 0)), (0, .ref (ad 0)), (1, .int v1), (2, .int v2), (3, .int v3)]) C dX6_nextShow_103 rfl (z_iinc (by decide)) (by decide) rfl ?_
            refine g_goto C dX6_nextShow_106 (tgt := 6) (by decide) ?_
            refine zG_sub (L' := [(0, .ref (ad 0)), (1, .int v1), (2, .int v2), (3, .int v3), (4, .int v4), (5, .int (v5 + 1))]) [3, 4, 5, 6, 1, 0] rfl ?_
            exact ih v4 (v5 + 1) h
          · replace h := (if_pos hc_1010).symm.trans h
            refine g_aload_n (j := 0) C dX6_nextShow_48 rfl rfl ?_
            refine g_iload (j := 5) C dX6_nextShow_49 rfl ?_
            refine g_iconst (v := (nI 3)) C dX6_nextShow_51 (by decide) ?_
            obtain ⟨q_1011, hq_1012, h⟩ := bind_isome h
            refine g_vi (ws' := (zW cy ad shM E X)) (As := [.int v5, .int (nI 3)]) (rest := []) (res := q_1011) C (c_X6_showAt l D cy ad E X v5 (nI 3) hq_1012) zml_RX6_89 zcv_X6_showAt (zW_get X sM_0) rfl rfl rfl ⟨Nat.le_of_ble_eq_true rfl, Nat.le_of_ble_eq_true rfl⟩ rfl rfl (Nat.le_of_ble_eq_true rfl) ⟨Nat.zero_le _, Nat.zero_le _⟩ dX6_nextShow_52 ?_
            refine g_iload_n (j := 3) C dX6_nextShow_55 rfl rfl ?_
            refine g_icmp_le C dX6_nextShow_56 (tgt := 63) (by decide) (fun hc_1013 => ?_) (fun hc_1013 => ?_)
            · replace h := (if_pos hc_1013).symm.trans h
              refine g_iconst (v := (nI 0)) C dX6_nextShow_63 (by decide) ?_
              refine g_istore (L' := [(6, .int (nI 0)), (0, .ref (ad 0)), (1, .int v1), (2, .int v2), (3, .int v3), (4, .int v4), (5, .int v5)]) C dX6_nextShow_64 (by decide) rfl ?_
              refine g_iload (j := 0) C dX6_nextShow_66 rfl ?_
              refine g_if_eq C dX6_nextShow_68 (tgt := 99) (by decide) (fun _ => ?_) (fun h9 => absurd h9 (by decide))
              refine g_iload (j := 5) C dX6_nextShow_99 rfl ?_
              refine g_istore (L' := [(4, .int v4), (6, .int (nI 0)), (0, .ref (ad 0)), (1, .int v1), (2, .int v2), (3, .int v3), (5, .int v5)]) C dX6_nextShow_101 (by decide) rfl ?_
              refine g_iinc (k := 6) (L' := [(5, .int (v5 + 1)), (4, .int v4), (6, .int (nI 0)), (0, .ref (ad 0)), (1, .int v1), (2, .int v2), (3, .int v3)]) C dX6_nextShow_103 rfl (z_iinc (by decide)) (by decide) rfl ?_
              refine g_goto C dX6_nextShow_106 (tgt := 6) (by decide) ?_
              refine zG_sub (L' := [(0, .ref (ad 0)), (1, .int v1), (2, .int v2), (3, .int v3), (4, .int v4), (5, .int (v5 + 1))]) [3, 4, 5, 6, 1, 0] rfl ?_
              exact ih v4 (v5 + 1) h
            · replace h := (if_neg hc_1013).symm.trans h
              refine g_iconst (v := (nI 1)) C dX6_nextShow_59 (by decide) ?_
              refine g_goto C dX6_nextShow_60 (tgt := 64) (by decide) ?_
              refine g_istore (L' := [(6, .int (nI 1)), (0, .ref (ad 0)), (1, .int v1), (2, .int v2), (3, .int v3), (4, .int v4), (5, .int v5)]) C dX6_nextShow_64 (by decide) rfl ?_
              refine g_iload (j := 0) C dX6_nextShow_66 rfl ?_
              refine g_if_eq C dX6_nextShow_68 (tgt := 99) (by decide) (fun h9 => absurd h9 (by decide)) (fun _ => ?_)
              refine g_iload (j := 5) C dX6_nextShow_71 rfl ?_
              refine g_iconst (v := (-1 : Int32)) C dX6_nextShow_73 (by decide) ?_
              refine g_icmp_eq C dX6_nextShow_74 (tgt := 94) (by decide) (fun hc_1014 => ?_) (fun hc_1014 => ?_)
              · replace h := (if_pos hc_1014).symm.trans h
                refine g_iload (j := 6) C dX6_nextShow_94 rfl ?_
                refine g_goto C dX6_nextShow_96 (tgt := 101) (by decide) ?_
                refine g_istore (L' := [(4, .int v5), (6, .int (nI 1)), (0, .ref (ad 0)), (1, .int v1), (2, .int v2), (3, .int v3), (5, .int v5)]) C dX6_nextShow_101 (by decide) rfl ?_
                refine g_iinc (k := 6) (L' := [(5, .int (v5 + 1)), (4, .int v5), (6, .int (nI 1)), (0, .ref (ad 0)), (1, .int v1), (2, .int v2), (3, .int v3)]) C dX6_nextShow_103 rfl (z_iinc (by decide)) (by decide) rfl ?_
                refine g_goto C dX6_nextShow_106 (tgt := 6) (by decide) ?_
                refine zG_sub (L' := [(0, .ref (ad 0)), (1, .int v1), (2, .int v2), (3, .int v3), (4, .int v5), (5, .int (v5 + 1))]) [3, 4, 5, 6, 1, 0] rfl ?_
                exact ih v5 (v5 + 1) h
              · replace h := (if_neg hc_1014).symm.trans h
                refine g_aload_n (j := 1) C dX6_nextShow_77 rfl rfl ?_
                refine g_iload (j := 6) C dX6_nextShow_78 rfl ?_
                refine g_iconst (v := (nI 3)) C dX6_nextShow_80 (by decide) ?_
                obtain ⟨q_1015, hq_1016, h⟩ := bind_isome h
                refine g_vi (ws' := (zW cy ad shM E X)) (As := [.int v5, .int (nI 3)]) (rest := []) (res := q_1015) C (c_X6_showAt l D cy ad E X v5 (nI 3) hq_1016) zml_RX6_89 zcv_X6_showAt (zW_get X sM_0) rfl rfl rfl ⟨Nat.le_of_ble_eq_true rfl, Nat.le_of_ble_eq_true rfl⟩ rfl rfl (Nat.le_of_ble_eq_true rfl) ⟨Nat.zero_le _, Nat.zero_le _⟩ dX6_nextShow_81 ?_
                refine g_aload_n (j := 1) C dX6_nextShow_84 rfl rfl ?_
                refine g_iload (j := 5) C dX6_nextShow_85 rfl ?_
                refine g_iconst (v := (nI 3)) C dX6_nextShow_87 (by decide) ?_
                obtain ⟨q_1017, hq_1018, h⟩ := bind_isome h
                refine g_vi (ws' := (zW cy ad shM E X)) (As := [.int v4, .int (nI 3)]) (rest := [.int q_1015]) (res := q_1017) C (c_X6_showAt l D cy ad E X v4 (nI 3) hq_1018) zml_RX6_89 zcv_X6_showAt (zW_get X sM_0) rfl rfl rfl ⟨Nat.le_of_ble_eq_true rfl, Nat.le_of_ble_eq_true rfl⟩ rfl rfl (Nat.le_of_ble_eq_true rfl) ⟨Nat.zero_le _, Nat.zero_le _⟩ dX6_nextShow_88 ?_
                refine g_icmp_ge C dX6_nextShow_91 (tgt := 99) (by decide) (fun hc_1019 => ?_) (fun hc_1019 => ?_)
                · replace h := (if_pos hc_1019).symm.trans h
                  refine g_iload (j := 5) C dX6_nextShow_99 rfl ?_
                  refine g_istore (L' := [(4, .int v4), (6, .int (nI 1)), (0, .ref (ad 0)), (1, .int v1), (2, .int v2), (3, .int v3), (5, .int v5)]) C dX6_nextShow_101 (by decide) rfl ?_
                  refine g_iinc (k := 6) (L' := [(5, .int (v5 + 1)), (4, .int v4), (6, .int (nI 1)), (0, .ref (ad 0)), (1, .int v1), (2, .int v2), (3, .int v3)]) C dX6_nextShow_103 rfl (z_iinc (by decide)) (by decide) rfl ?_
                  refine g_goto C dX6_nextShow_106 (tgt := 6) (by decide) ?_
                  refine zG_sub (L' := [(0, .ref (ad 0)), (1, .int v1), (2, .int v2), (3, .int v3), (4, .int v4), (5, .int (v5 + 1))]) [3, 4, 5, 6, 1, 0] rfl ?_
                  exact ih v4 (v5 + 1) h
                · replace h := (if_neg hc_1019).symm.trans h
                  refine g_iload (j := 6) C dX6_nextShow_94 rfl ?_
                  refine g_goto C dX6_nextShow_96 (tgt := 101) (by decide) ?_
                  refine g_istore (L' := [(4, .int v5), (6, .int (nI 1)), (0, .ref (ad 0)), (1, .int v1), (2, .int v2), (3, .int v3), (5, .int v5)]) C dX6_nextShow_101 (by decide) rfl ?_
                  refine g_iinc (k := 6) (L' := [(5, .int (v5 + 1)), (4, .int v5), (6, .int (nI 1)), (0, .ref (ad 0)), (1, .int v1), (2, .int v2), (3, .int v3)]) C dX6_nextShow_103 rfl (z_iinc (by decide)) (by decide) rfl ?_
                  refine g_goto C dX6_nextShow_106 (tgt := 6) (by decide) ?_
                  refine zG_sub (L' := [(0, .ref (ad 0)), (1, .int v1), (2, .int v2), (3, .int v3), (4, .int v5), (5, .int (v5 + 1))]) [3, 4, 5, 6, 1, 0] rfl ?_
                  exact ih v5 (v5 + 1) h
def f_X6_nextShow (X : Nat → Nat → Int32) (v1 v2 v3 : Int32) : Option Int32 := f_X6_nextShow_L6 X v1 v2 v3 zFuel (-1 : Int32) (nI 0)
set_option maxRecDepth 100000 in
set_option maxHeartbeats 4000000 in
theorem c_X6_nextShow (l : Launch) (D : va_G) (cy : Nat → ClassId) (ad : Nat → Nat) (E : va_W) (X : Nat → Nat → Int32) (v1 v2 v3 : Int32) {res : Int32} (h : f_X6_nextShow X v1 v2 v3 = some res) : zMi l yX6_nextShow cX6_nextShow 7 (some .int) (zrm 3) D (zTy cy) (zW cy ad shM E X) [.ref (ad 0), .int v1, .int v2, .int v3] res (zW cy ad shM E X) := by
  refine zMi.of (by decide) (Nat.le_of_ble_eq_true rfl) ?_
  intro p e s m below meth c A C hr
  unfold f_X6_nextShow at h
  refine zG_L (L' := [(0, .ref (ad 0)), (1, .int v1), (2, .int v2), (3, .int v3)]) rfl ?_
  refine g_iconst (v := (-1 : Int32)) C dX6_nextShow_0 (by decide) ?_
  refine g_istore (L' := [(4, .int (-1 : Int32)), (0, .ref (ad 0)), (1, .int v1), (2, .int v2), (3, .int v3)]) C dX6_nextShow_1 (by decide) rfl ?_
  refine g_iconst (v := (nI 0)) C dX6_nextShow_3 (by decide) ?_
  refine g_istore (L' := [(5, .int (nI 0)), (4, .int (-1 : Int32)), (0, .ref (ad 0)), (1, .int v1), (2, .int v2), (3, .int v3)]) C dX6_nextShow_4 (by decide) rfl ?_
  refine zG_sub (L' := [(0, .ref (ad 0)), (1, .int v1), (2, .int v2), (3, .int v3), (4, .int (-1 : Int32)), (5, .int (nI 0))]) [2, 3, 4, 5, 1, 0] rfl ?_
  exact w_X6_nextShow_L6 l D cy ad E X v1 v2 v3 C hr zFuel (-1 : Int32) (nI 0) h
def f_X6_written (X : Nat → Nat → Int32) (v1 : Int32) : Option (Int32 × (Nat → Nat → Int32)) := (if (f_X6_in v1 (nI 0) ((X 0 14) - (nI 1))) = 0 then (zlet (f_X6_fails X (nI 1)) fun q_6 => some ((q_6.1.toUInt32 % 65536).toInt32, q_6.2)) else (zlet (zU X 0 0 (nI 0)) fun X_2 => (if v1 < 0 ∨ 1200 ≤ v1.toNatClampNeg then none else (if ¬ ((X_2 6 v1.toNatClampNeg).toUInt32 % 65536).toInt32 = (X_2 6 v1.toNatClampNeg) then none else some ((X_2 6 v1.toNatClampNeg), X_2)))))
set_option maxRecDepth 100000 in
set_option maxHeartbeats 4000000 in
theorem c_X6_written (l : Launch) (D : va_G) (cy : Nat → ClassId) (ad : Nat → Nat) (E : va_W) (X : Nat → Nat → Int32) (v1 : Int32) {res : Int32 × (Nat → Nat → Int32)} (h : f_X6_written X v1 = some res) : zMi l yX6_written cX6_written 2 (some .char) (zrm 2) D (zTy cy) (zW cy ad shM E X) [.ref (ad 0), .int v1] res.1 (zW cy ad shM E res.2) := by
  refine zMi.of (by decide) (Nat.le_of_ble_eq_true rfl) ?_
  intro p e s m below meth c A C hr
  unfold f_X6_written at h
  refine zG_L (L' := [(0, .ref (ad 0)), (1, .int v1)]) rfl ?_
  refine g_iload_n (j := 1) C dX6_written_0 rfl rfl ?_
  refine g_iconst (v := (nI 0)) C dX6_written_1 (by decide) ?_
  refine g_aload_n (j := 0) C dX6_written_2 rfl rfl ?_
  refine g_geti (k := 14) (N := 27) C sM_0 rfl zin_RX6 (by decide) rfl zfl_RX6_239 rfl dX6_written_3 ?_
  refine g_iconst (v := (nI 1)) C dX6_written_6 (by decide) ?_
  refine g_isub C dX6_written_7 ?_
  refine g_si (ws' := (zW cy ad shM E X)) (As := [.int v1, .int (nI 0), .int ((X 0 14) - (nI 1))]) (rest := []) (res := (f_X6_in v1 (nI 0) ((X 0 14) - (nI 1)))) C (c_X6_in l D cy (zW cy ad shM E X) v1 (nI 0) ((X 0 14) - (nI 1))) zml_RX6_64 zcs_X6_in rfl rfl ⟨Nat.le_of_ble_eq_true rfl, Nat.le_of_ble_eq_true rfl⟩ rfl rfl (Nat.le_of_ble_eq_true rfl) ⟨Nat.zero_le _, Nat.zero_le _⟩ dX6_written_8 ?_
  refine g_if_ne C dX6_written_11 (tgt := 21) (by decide) (fun hc_1 => ?_) (fun hc_1 => ?_)
  · replace h := (if_neg hc_1).symm.trans h
    refine g_aload_n (j := 0) C dX6_written_21 rfl rfl ?_
    refine g_iconst (v := (nI 0)) C dX6_written_22 (by decide) ?_
    refine g_puti (k := 0) (N := 27) (ty := .int) C sM_0 rfl zin_RX6 (by decide) rfl zfl_RX6_36 rfl tyX6_ok nmX6 rfl (by decide +kernel) rfl rfl dX6_written_23 ?_
    obtain ⟨X_2, e_3, h⟩ := zlet_ex h
    rw [← e_3]
    refine g_aload_n (j := 0) C dX6_written_26 rfl rfl ?_
    refine g_getr (k := 13) (N := 27) C sM_0 rfl zin_RX6 (by decide) rfl zfl_RX6_30 rfl dX6_written_27 ?_
    refine g_iload_n (j := 1) C dX6_written_30 rfl rfl ?_
    obtain ⟨hi_4, h⟩ := ite_inone h
    refine g_cald C sM_6 hi_4 dX6_written_31 ?_
    obtain ⟨hg_5, h⟩ := ite_inone h
    obtain rfl := Option.some.inj h
    exact g_iret rfl C hr (z_nc (Decidable.not_not.mp hg_5)) dX6_written_32
  · replace h := (if_pos hc_1).symm.trans h
    refine g_aload_n (j := 0) C dX6_written_14 rfl rfl ?_
    refine g_iconst (v := (nI 1)) C dX6_written_15 (by decide) ?_
    obtain ⟨q_6, e_7, h⟩ := zlet_ex h
    refine g_vi (ws' := (zW cy ad shM E q_6.2)) (As := [.int (nI 1)]) (rest := []) (res := q_6.1) C ((by rw [e_7]; exact c_X6_fails l D cy ad E X (nI 1))) zml_RX6_45 zcv_X6_fails (zW_get X sM_0) rfl rfl rfl ⟨Nat.le_of_ble_eq_true rfl, Nat.le_of_ble_eq_true rfl⟩ rfl rfl (Nat.le_of_ble_eq_true rfl) ⟨Nat.zero_le _, Nat.zero_le _⟩ dX6_written_16 ?_
    refine g_i2c C dX6_written_19 rfl ?_
    obtain rfl := Option.some.inj h
    exact g_iret rfl C hr (pk_nc _) dX6_written_20
def f_X6_append (X : Nat → Nat → Int32) (v1 : Int32) : Option (Int32 × (Nat → Nat → Int32)) := (if (f_X6_in v1 (nI 32) (nI 126)) = 0 then (zlet (f_X6_fails X (nI 1)) fun q_12 => some (q_12.1, q_12.2)) else (if (X 0 11) = (nI 60) then (zlet (f_X6_fails X (nI 2)) fun q_10 => some (q_10.1, q_10.2)) else (if (X 0 11) < 0 ∨ 60 ≤ (X 0 11).toNatClampNeg then none else (zlet (zU X 5 (X 0 11).toNatClampNeg (vp_nar .char v1)) fun X_4 => (zlet (zU X_4 0 11 ((X_4 0 11) + (nI 1))) fun X_6 => (zlet (f_X6_done X_6 (X_6 0 11)) fun q_8 => some (q_8.1, q_8.2)))))))
set_option maxRecDepth 100000 in
set_option maxHeartbeats 4000000 in
theorem c_X6_append (l : Launch) (D : va_G) (cy : Nat → ClassId) (ad : Nat → Nat) (E : va_W) (X : Nat → Nat → Int32) (v1 : Int32) {res : Int32 × (Nat → Nat → Int32)} (h : f_X6_append X v1 = some res) : zMi l yX6_append cX6_append 2 (some .int) (zrm 2) D (zTy cy) (zW cy ad shM E X) [.ref (ad 0), .int v1] res.1 (zW cy ad shM E res.2) := by
  refine zMi.of (by decide) (Nat.le_of_ble_eq_true rfl) ?_
  intro p e s m below meth c A C hr
  unfold f_X6_append at h
  refine zG_L (L' := [(0, .ref (ad 0)), (1, .int v1)]) rfl ?_
  refine g_iload_n (j := 1) C dX6_append_0 rfl rfl ?_
  refine g_bipush (v := (nI 32)) C dX6_append_1 (by decide) ?_
  refine g_bipush (v := (nI 126)) C dX6_append_3 (by decide) ?_
  refine g_si (ws' := (zW cy ad shM E X)) (As := [.int v1, .int (nI 32), .int (nI 126)]) (rest := []) (res := (f_X6_in v1 (nI 32) (nI 126))) C (c_X6_in l D cy (zW cy ad shM E X) v1 (nI 32) (nI 126)) zml_RX6_64 zcs_X6_in rfl rfl ⟨Nat.le_of_ble_eq_true rfl, Nat.le_of_ble_eq_true rfl⟩ rfl rfl (Nat.le_of_ble_eq_true rfl) ⟨Nat.zero_le _, Nat.zero_le _⟩ dX6_append_5 ?_
  refine g_if_ne C dX6_append_8 (tgt := 17) (by decide) (fun hc_1 => ?_) (fun hc_1 => ?_)
  · replace h := (if_neg hc_1).symm.trans h
    refine g_aload_n (j := 0) C dX6_append_17 rfl rfl ?_
    refine g_geti (k := 11) (N := 27) C sM_0 rfl zin_RX6 (by decide) rfl zfl_RX6_274 rfl dX6_append_18 ?_
    refine g_bipush (v := (nI 60)) C dX6_append_21 (by decide) ?_
    refine g_icmp_ne C dX6_append_23 (tgt := 32) (by decide) (fun hc_2 => ?_) (fun hc_2 => ?_)
    · replace h := (if_neg hc_2).symm.trans h
      refine g_aload_n (j := 0) C dX6_append_32 rfl rfl ?_
      refine g_getr (k := 10) (N := 27) C sM_0 rfl zin_RX6 (by decide) rfl zfl_RX6_22 rfl dX6_append_33 ?_
      refine g_aload_n (j := 0) C dX6_append_36 rfl rfl ?_
      refine g_geti (k := 11) (N := 27) C sM_0 rfl zin_RX6 (by decide) rfl zfl_RX6_274 rfl dX6_append_37 ?_
      refine g_iload_n (j := 1) C dX6_append_40 rfl rfl ?_
      obtain ⟨hi_3, h⟩ := ite_inone h
      refine g_cast C sM_5 hi_3 dX6_append_41 ?_
      obtain ⟨X_4, e_5, h⟩ := zlet_ex h
      rw [← e_5]
      refine g_aload_n (j := 0) C dX6_append_42 rfl rfl ?_
      refine g_dup C dX6_append_43 rfl ?_
      refine g_geti (k := 11) (N := 27) C sM_0 rfl zin_RX6 (by decide) rfl zfl_RX6_274 rfl dX6_append_44 ?_
      refine g_iconst (v := (nI 1)) C dX6_append_47 (by decide) ?_
      refine g_iadd C dX6_append_48 ?_
      refine g_puti (k := 11) (N := 27) (ty := .int) C sM_0 rfl zin_RX6 (by decide) rfl zfl_RX6_274 rfl tyX6_ok nmX6 rfl (by decide +kernel) rfl rfl dX6_append_49 ?_
      obtain ⟨X_6, e_7, h⟩ := zlet_ex h
      rw [← e_7]
      refine g_aload_n (j := 0) C dX6_append_52 rfl rfl ?_
      refine g_aload_n (j := 0) C dX6_append_53 rfl rfl ?_
      refine g_geti (k := 11) (N := 27) C sM_0 rfl zin_RX6 (by decide) rfl zfl_RX6_274 rfl dX6_append_54 ?_
      obtain ⟨q_8, e_9, h⟩ := zlet_ex h
      refine g_vi (ws' := (zW cy ad shM E q_8.2)) (As := [.int (X_6 0 11)]) (rest := []) (res := q_8.1) C ((by rw [e_9]; exact c_X6_done l D cy ad E X_6 (X_6 0 11))) zml_RX6_71 zcv_X6_done (zW_get X_6 sM_0) rfl rfl rfl ⟨Nat.le_of_ble_eq_true rfl, Nat.le_of_ble_eq_true rfl⟩ rfl rfl (Nat.le_of_ble_eq_true rfl) ⟨Nat.zero_le _, Nat.zero_le _⟩ dX6_append_57 ?_
      obtain rfl := Option.some.inj h
      exact g_iret rfl C hr rfl dX6_append_60
    · replace h := (if_pos hc_2).symm.trans h
      refine g_aload_n (j := 0) C dX6_append_26 rfl rfl ?_
      refine g_iconst (v := (nI 2)) C dX6_append_27 (by decide) ?_
      obtain ⟨q_10, e_11, h⟩ := zlet_ex h
      refine g_vi (ws' := (zW cy ad shM E q_10.2)) (As := [.int (nI 2)]) (rest := []) (res := q_10.1) C ((by rw [e_11]; exact c_X6_fails l D cy ad E X (nI 2))) zml_RX6_45 zcv_X6_fails (zW_get X sM_0) rfl rfl rfl ⟨Nat.le_of_ble_eq_true rfl, Nat.le_of_ble_eq_true rfl⟩ rfl rfl (Nat.le_of_ble_eq_true rfl) ⟨Nat.zero_le _, Nat.zero_le _⟩ dX6_append_28 ?_
      obtain rfl := Option.some.inj h
      exact g_iret rfl C hr rfl dX6_append_31
  · replace h := (if_pos hc_1).symm.trans h
    refine g_aload_n (j := 0) C dX6_append_11 rfl rfl ?_
    refine g_iconst (v := (nI 1)) C dX6_append_12 (by decide) ?_
    obtain ⟨q_12, e_13, h⟩ := zlet_ex h
    refine g_vi (ws' := (zW cy ad shM E q_12.2)) (As := [.int (nI 1)]) (rest := []) (res := q_12.1) C ((by rw [e_13]; exact c_X6_fails l D cy ad E X (nI 1))) zml_RX6_45 zcv_X6_fails (zW_get X sM_0) rfl rfl rfl ⟨Nat.le_of_ble_eq_true rfl, Nat.le_of_ble_eq_true rfl⟩ rfl rfl (Nat.le_of_ble_eq_true rfl) ⟨Nat.zero_le _, Nat.zero_le _⟩ dX6_append_13 ?_
    obtain rfl := Option.some.inj h
    exact g_iret rfl C hr rfl dX6_append_16
def f_X6_here (X : Nat → Nat → Int32) : Option Int32 := (if (X 0 11) ≤ (X 0 24) then some (-1 : Int32) else (if (X 0 24) < 0 ∨ 60 ≤ (X 0 24).toNatClampNeg then none else some (X 5 (X 0 24).toNatClampNeg)))
set_option maxRecDepth 100000 in
set_option maxHeartbeats 4000000 in
theorem c_X6_here (l : Launch) (D : va_G) (cy : Nat → ClassId) (ad : Nat → Nat) (E : va_W) (X : Nat → Nat → Int32) {res : Int32} (h : f_X6_here X = some res) : zMi l yX6_here cX6_here 1 (some .int) (zrm 1) D (zTy cy) (zW cy ad shM E X) [.ref (ad 0)] res (zW cy ad shM E X) := by
  refine zMi.of (by decide) (Nat.le_of_ble_eq_true rfl) ?_
  intro p e s m below meth c A C hr
  unfold f_X6_here at h
  refine zG_L (L' := [(0, .ref (ad 0))]) rfl ?_
  refine g_aload_n (j := 0) C dX6_here_0 rfl rfl ?_
  refine g_geti (k := 24) (N := 27) C sM_0 rfl zin_RX6 (by decide) rfl zfl_RX6_277 rfl dX6_here_1 ?_
  refine g_aload_n (j := 0) C dX6_here_4 rfl rfl ?_
  refine g_geti (k := 11) (N := 27) C sM_0 rfl zin_RX6 (by decide) rfl zfl_RX6_274 rfl dX6_here_5 ?_
  refine g_icmp_ge C dX6_here_8 (tgt := 23) (by decide) (fun hc_1 => ?_) (fun hc_1 => ?_)
  · replace h := (if_pos hc_1).symm.trans h
    refine g_iconst (v := (-1 : Int32)) C dX6_here_23 (by decide) ?_
    obtain rfl := Option.some.inj h
    exact g_iret rfl C hr rfl dX6_here_24
  · replace h := (if_neg hc_1).symm.trans h
    refine g_aload_n (j := 0) C dX6_here_11 rfl rfl ?_
    refine g_getr (k := 10) (N := 27) C sM_0 rfl zin_RX6 (by decide) rfl zfl_RX6_22 rfl dX6_here_12 ?_
    refine g_aload_n (j := 0) C dX6_here_15 rfl rfl ?_
    refine g_geti (k := 24) (N := 27) C sM_0 rfl zin_RX6 (by decide) rfl zfl_RX6_277 rfl dX6_here_16 ?_
    obtain ⟨hi_2, h⟩ := ite_inone h
    refine g_cald C sM_5 hi_2 dX6_here_19 ?_
    refine g_goto C dX6_here_20 (tgt := 24) (by decide) ?_
    obtain rfl := Option.some.inj h
    exact g_iret rfl C hr rfl dX6_here_24
def f_X6_numbersOf (v0 : Int32) : Int32 := (if v0 = 0 then (nI 4) else (if v0 = (nI 1) then (nI 2) else (if v0 = (nI 3) then (nI 2) else (nI 1))))
set_option maxRecDepth 100000 in
set_option maxHeartbeats 4000000 in
theorem c_X6_numbersOf (l : Launch) (D : va_G) (cy : Nat → ClassId) (ws : va_W) (v0 : Int32) : zMi l yX6_numbersOf cX6_numbersOf 1 (some .int) (zrm 1) D (zTy cy) ws [.int v0] (f_X6_numbersOf v0) ws := by
  refine zMi.of (by decide) (Nat.le_of_ble_eq_true rfl) ?_
  intro p e s m below meth c A C hr
  generalize h : f_X6_numbersOf v0 = res
  unfold f_X6_numbersOf at h
  refine zG_L (L' := [(0, .int v0)]) rfl ?_
  refine g_iload_n (j := 0) C dX6_numbersOf_0 rfl rfl ?_
  refine g_if_ne C dX6_numbersOf_1 (tgt := 8) (by decide) (fun hc_1 => ?_) (fun hc_1 => ?_)
  · replace h := (if_neg hc_1).symm.trans h
    refine g_iload_n (j := 0) C dX6_numbersOf_8 rfl rfl ?_
    refine g_iconst (v := (nI 1)) C dX6_numbersOf_9 (by decide) ?_
    refine g_icmp_eq C dX6_numbersOf_10 (tgt := 18) (by decide) (fun hc_2 => ?_) (fun hc_2 => ?_)
    · replace h := (if_pos hc_2).symm.trans h
      refine g_iconst (v := (nI 2)) C dX6_numbersOf_18 (by decide) ?_
      refine g_goto C dX6_numbersOf_19 (tgt := 23) (by decide) ?_
      subst h
      exact g_iret rfl C hr rfl dX6_numbersOf_23
    · replace h := (if_neg hc_2).symm.trans h
      refine g_iload_n (j := 0) C dX6_numbersOf_13 rfl rfl ?_
      refine g_iconst (v := (nI 3)) C dX6_numbersOf_14 (by decide) ?_
      refine g_icmp_ne C dX6_numbersOf_15 (tgt := 22) (by decide) (fun hc_3 => ?_) (fun hc_3 => ?_)
      · replace h := (if_neg hc_3).symm.trans h
        refine g_iconst (v := (nI 1)) C dX6_numbersOf_22 (by decide) ?_
        subst h
        exact g_iret rfl C hr rfl dX6_numbersOf_23
      · replace h := (if_pos hc_3).symm.trans h
        refine g_iconst (v := (nI 2)) C dX6_numbersOf_18 (by decide) ?_
        refine g_goto C dX6_numbersOf_19 (tgt := 23) (by decide) ?_
        subst h
        exact g_iret rfl C hr rfl dX6_numbersOf_23
  · replace h := (if_pos hc_1).symm.trans h
    refine g_iconst (v := (nI 4)) C dX6_numbersOf_4 (by decide) ?_
    refine g_goto C dX6_numbersOf_5 (tgt := 23) (by decide) ?_
    subst h
    exact g_iret rfl C hr rfl dX6_numbersOf_23
def f_X6_isDigit (X : Nat → Nat → Int32) : Option Int32 := ((f_X6_here X).bind fun q_1 => some (f_X6_in q_1 (nI 48) (nI 57)))
set_option maxRecDepth 100000 in
set_option maxHeartbeats 4000000 in
theorem c_X6_isDigit (l : Launch) (D : va_G) (cy : Nat → ClassId) (ad : Nat → Nat) (E : va_W) (X : Nat → Nat → Int32) {res : Int32} (h : f_X6_isDigit X = some res) : zMi l yX6_isDigit cX6_isDigit 1 (some .boolean) (zrm 2) D (zTy cy) (zW cy ad shM E X) [.ref (ad 0)] res (zW cy ad shM E X) := by
  refine zMi.of (by decide) (Nat.le_of_ble_eq_true rfl) ?_
  intro p e s m below meth c A C hr
  unfold f_X6_isDigit at h
  refine zG_L (L' := [(0, .ref (ad 0))]) rfl ?_
  refine g_aload_n (j := 0) C dX6_isDigit_0 rfl rfl ?_
  obtain ⟨q_1, hq_2, h⟩ := bind_isome h
  refine g_vi (ws' := (zW cy ad shM E X)) (As := []) (rest := []) (res := q_1) C (c_X6_here l D cy ad E X hq_2) zml_RX6_293 zcv_X6_here (zW_get X sM_0) rfl rfl rfl ⟨Nat.le_of_ble_eq_true rfl, Nat.le_of_ble_eq_true rfl⟩ rfl rfl (Nat.le_of_ble_eq_true rfl) ⟨Nat.zero_le _, Nat.zero_le _⟩ dX6_isDigit_1 ?_
  refine g_bipush (v := (nI 48)) C dX6_isDigit_4 (by decide) ?_
  refine g_bipush (v := (nI 57)) C dX6_isDigit_6 (by decide) ?_
  refine g_si (ws' := (zW cy ad shM E X)) (As := [.int q_1, .int (nI 48), .int (nI 57)]) (rest := []) (res := (f_X6_in q_1 (nI 48) (nI 57))) C (c_X6_in l D cy (zW cy ad shM E X) q_1 (nI 48) (nI 57)) zml_RX6_64 zcs_X6_in rfl rfl ⟨Nat.le_of_ble_eq_true rfl, Nat.le_of_ble_eq_true rfl⟩ rfl rfl (Nat.le_of_ble_eq_true rfl) ⟨Nat.zero_le _, Nat.zero_le _⟩ dX6_isDigit_8 ?_
  obtain rfl := Option.some.inj h
  exact g_iret rfl C hr (z_nb (b_X6_in q_1 (nI 48) (nI 57))) dX6_isDigit_11
def f_X6_readsNumber_L25 : Nat → (Nat → Nat → Int32) → Int32 → Int32 → Option (Int32 × (Nat → Nat → Int32))
  | 0, _, _, _ => none
  | fu + 1, X, v1, v2 => (if (X 0 25) = 0 then ((f_X6_isDigit X).bind fun q_1008 => (if q_1008 = 0 then some (v1, X) else (if (nI 3) ≤ v2 then some (v1, X) else (if v2 = 0 then ((f_X6_here X).bind fun q_1013 => (zlet (zU X 0 24 ((X 0 24) + (nI 1))) fun X_1015 => f_X6_readsNumber_L25 fu X_1015 ((((nI 10) * v1) + q_1013) - (nI 48)) (v2 + 1))) else (if v1 ≤ 0 then some (v1, X) else ((f_X6_here X).bind fun q_1018 => (zlet (zU X 0 24 ((X 0 24) + (nI 1))) fun X_1020 => f_X6_readsNumber_L25 fu X_1020 ((((nI 10) * v1) + q_1018) - (nI 48)) (v2 + 1)))))))) else some (v1, X))
set_option maxRecDepth 100000 in
set_option maxHeartbeats 4000000 in
theorem w_X6_readsNumber_L25 {p : Program} {e : Env} {s : State} {m : MethodId} {args : Array Value} {below : List Frame} {meth : Method} {c : Code} {A : Nat → Prop} (l : Launch) (D : va_G) (cy : Nat → ClassId) (ad : Nat → Nat) (E : va_W) {res : Int32 × (Nat → Nat → Int32)} (C : zC p s m args meth c cX6_readsNumber 3 RX6 D (zTy cy) A) (hr : meth.sig.returnType = (some .int)) : ∀ (fu : Nat) (X : Nat → Nat → Int32) (v1 v2 : Int32) (h : f_X6_readsNumber_L25 fu X v1 v2 = some res), zG p l e (zrm 3) s m args below meth c 3 D A 0 0 (MQ below (va_Qi (fun (r : Int32) (_ : Unit) => r = res.1) (fun _ t => zB D (zTy cy) A (zW cy ad shM E res.2) t) A) args s 0 0 A) (zW cy ad shM E X) 25 [(0, .ref (ad 0)), (1, .int v1), (2, .int v2)] [] := by
  intro fu
  induction fu with
  | zero => intro X v1 v2 h; simp [f_X6_readsNumber_L25] at h
  | succ fu ih =>
    intro X v1 v2 h
    rw [f_X6_readsNumber_L25] at h
    refine g_aload_n (j := 0) C dX6_readsNumber_25 rfl rfl ?_
    refine g_geti (k := 25) (N := 27) C sM_0 rfl zin_RX6 (by decide) rfl zfl_RX6_296 rfl dX6_readsNumber_26 ?_
    refine g_if_ne C dX6_readsNumber_29 (tgt := 81) (by decide) (fun hc_1007 => ?_) (fun hc_1007 => ?_)
    · replace h := (if_neg hc_1007).symm.trans h
      refine g_iload_n (j := 1) C dX6_readsNumber_81 rfl rfl ?_
      obtain rfl := Option.some.inj h
      exact g_iret rfl C hr rfl dX6_readsNumber_82
    · replace h := (if_pos hc_1007).symm.trans h
      refine g_aload_n (j := 0) C dX6_readsNumber_32 rfl rfl ?_
      obtain ⟨q_1008, hq_1009, h⟩ := bind_isome h
      refine g_vi (ws' := (zW cy ad shM E X)) (As := []) (rest := []) (res := q_1008) C (c_X6_isDigit l D cy ad E X hq_1009) zml_RX6_299 zcv_X6_isDigit (zW_get X sM_0) rfl rfl rfl ⟨Nat.le_of_ble_eq_true rfl, Nat.le_of_ble_eq_true rfl⟩ rfl rfl (Nat.le_of_ble_eq_true rfl) ⟨Nat.zero_le _, Nat.zero_le _⟩ dX6_readsNumber_33 ?_
      refine g_if_eq C dX6_readsNumber_36 (tgt := 81) (by decide) (fun hc_1010 => ?_) (fun hc_1010 => ?_)
      · replace h := (if_pos hc_1010).symm.trans h
        refine g_iload_n (j := 1) C dX6_readsNumber_81 rfl rfl ?_
        obtain rfl := Option.some.inj h
        exact g_iret rfl C hr rfl dX6_readsNumber_82
      · replace h := (if_neg hc_1010).symm.trans h
        refine g_iload_n (j := 2) C dX6_readsNumber_39 rfl rfl ?_
        refine g_iconst (v := (nI 3)) C dX6_readsNumber_40 (by decide) ?_
        refine g_icmp_ge C dX6_readsNumber_41 (tgt := 81) (by decide) (fun hc_1011 => ?_) (fun hc_1011 => ?_)
        · replace h := (if_pos hc_1011).symm.trans h
          refine g_iload_n (j := 1) C dX6_readsNumber_81 rfl rfl ?_
          obtain rfl := Option.some.inj h
          exact g_iret rfl C hr rfl dX6_readsNumber_82
        · replace h := (if_neg hc_1011).symm.trans h
          refine g_iload_n (j := 2) C dX6_readsNumber_44 rfl rfl ?_
          refine g_if_eq C dX6_readsNumber_45 (tgt := 52) (by decide) (fun hc_1012 => ?_) (fun hc_1012 => ?_)
          · replace h := (if_pos hc_1012).symm.trans h
            refine g_bipush (v := (nI 10)) C dX6_readsNumber_52 (by decide) ?_
            refine g_iload_n (j := 1) C dX6_readsNumber_54 rfl rfl ?_
            refine g_imul C dX6_readsNumber_55 ?_
            refine g_aload_n (j := 0) C dX6_readsNumber_56 rfl rfl ?_
            obtain ⟨q_1013, hq_1014, h⟩ := bind_isome h
            refine g_vi (ws' := (zW cy ad shM E X)) (As := []) (rest := [.int ((nI 10) * v1)]) (res := q_1013) C (c_X6_here l D cy ad E X hq_1014) zml_RX6_293 zcv_X6_here (zW_get X sM_0) rfl rfl rfl ⟨Nat.le_of_ble_eq_true rfl, Nat.le_of_ble_eq_true rfl⟩ rfl rfl (Nat.le_of_ble_eq_true rfl) ⟨Nat.zero_le _, Nat.zero_le _⟩ dX6_readsNumber_57 ?_
            refine g_iadd C dX6_readsNumber_60 ?_
            refine g_bipush (v := (nI 48)) C dX6_readsNumber_61 (by decide) ?_
            refine g_isub C dX6_readsNumber_63 ?_
            refine g_istore_n (L' := [(1, .int ((((nI 10) * v1) + q_1013) - (nI 48))), (0, .ref (ad 0)), (2, .int v2)]) C dX6_readsNumber_64 rfl (by decide) rfl ?_
            refine g_aload_n (j := 1) C dX6_readsNumber_65 rfl rfl ?_
            refine g_dup C dX6_readsNumber_66 rfl ?_
            refine g_geti (k := 24) (N := 27) C sM_0 rfl zin_RX6 (by decide) rfl zfl_RX6_277 rfl dX6_readsNumber_67 ?_
            refine g_iconst (v := (nI 1)) C dX6_readsNumber_70 (by decide) ?_
            refine g_iadd C dX6_readsNumber_71 ?_
            refine g_puti (k := 24) (N := 27) (ty := .int) C sM_0 rfl zin_RX6 (by decide) rfl zfl_RX6_277 rfl tyX6_ok nmX6 rfl (by decide +kernel) rfl rfl dX6_readsNumber_72 ?_
            obtain ⟨X_1015, e_1016, h⟩ := zlet_ex h
            rw [← e_1016]
            refine g_iinc (k := 2) (L' := [(2, .int (v2 + 1)), (1, .int ((((nI 10) * v1) + q_1013) - (nI 48))), (0, .ref (ad 0))]) C dX6_readsNumber_75 rfl (z_iinc (by decide)) (by decide) rfl ?_
            refine g_goto C dX6_readsNumber_78 (tgt := 25) (by decide) ?_
            refine zG_sub (L' := [(0, .ref (ad 0)), (1, .int ((((nI 10) * v1) + q_1013) - (nI 48))), (2, .int (v2 + 1))]) [2, 1, 0] rfl ?_
            exact ih X_1015 ((((nI 10) * v1) + q_1013) - (nI 48)) (v2 + 1) h
          · replace h := (if_neg hc_1012).symm.trans h
            refine g_iload_n (j := 1) C dX6_readsNumber_48 rfl rfl ?_
            refine g_if_le C dX6_readsNumber_49 (tgt := 81) (by decide) (fun hc_1017 => ?_) (fun hc_1017 => ?_)
            · replace h := (if_pos hc_1017).symm.trans h
              refine g_iload_n (j := 1) C dX6_readsNumber_81 rfl rfl ?_
              obtain rfl := Option.some.inj h
              exact g_iret rfl C hr rfl dX6_readsNumber_82
            · replace h := (if_neg hc_1017).symm.trans h
              refine g_bipush (v := (nI 10)) C dX6_readsNumber_52 (by decide) ?_
              refine g_iload_n (j := 1) C dX6_readsNumber_54 rfl rfl ?_
              refine g_imul C dX6_readsNumber_55 ?_
              refine g_aload_n (j := 0) C dX6_readsNumber_56 rfl rfl ?_
              obtain ⟨q_1018, hq_1019, h⟩ := bind_isome h
              refine g_vi (ws' := (zW cy ad shM E X)) (As := []) (rest := [.int ((nI 10) * v1)]) (res := q_1018) C (c_X6_here l D cy ad E X hq_1019) zml_RX6_293 zcv_X6_here (zW_get X sM_0) rfl rfl rfl ⟨Nat.le_of_ble_eq_true rfl, Nat.le_of_ble_eq_true rfl⟩ rfl rfl (Nat.le_of_ble_eq_true rfl) ⟨Nat.zero_le _, Nat.zero_le _⟩ dX6_readsNumber_57 ?_
              refine g_iadd C dX6_readsNumber_60 ?_
              refine g_bipush (v := (nI 48)) C dX6_readsNumber_61 (by decide) ?_
              refine g_isub C dX6_readsNumber_63 ?_
              refine g_istore_n (L' := [(1, .int ((((nI 10) * v1) + q_1018) - (nI 48))), (0, .ref (ad 0)), (2, .int v2)]) C dX6_readsNumber_64 rfl (by decide) rfl ?_
              refine g_aload_n (j := 1) C dX6_readsNumber_65 rfl rfl ?_
              refine g_dup C dX6_readsNumber_66 rfl ?_
              refine g_geti (k := 24) (N := 27) C sM_0 rfl zin_RX6 (by decide) rfl zfl_RX6_277 rfl dX6_readsNumber_67 ?_
              refine g_iconst (v := (nI 1)) C dX6_readsNumber_70 (by decide) ?_
              refine g_iadd C dX6_readsNumber_71 ?_
              refine g_puti (k := 24) (N := 27) (ty := .int) C sM_0 rfl zin_RX6 (by decide) rfl zfl_RX6_277 rfl tyX6_ok nmX6 rfl (by decide +kernel) rfl rfl dX6_readsNumber_72 ?_
              obtain ⟨X_1020, e_1021, h⟩ := zlet_ex h
              rw [← e_1021]
              refine g_iinc (k := 2) (L' := [(2, .int (v2 + 1)), (1, .int ((((nI 10) * v1) + q_1018) - (nI 48))), (0, .ref (ad 0))]) C dX6_readsNumber_75 rfl (z_iinc (by decide)) (by decide) rfl ?_
              refine g_goto C dX6_readsNumber_78 (tgt := 25) (by decide) ?_
              refine zG_sub (L' := [(0, .ref (ad 0)), (1, .int ((((nI 10) * v1) + q_1018) - (nI 48))), (2, .int (v2 + 1))]) [2, 1, 0] rfl ?_
              exact ih X_1020 ((((nI 10) * v1) + q_1018) - (nI 48)) (v2 + 1) h
def f_X6_readsNumber (X : Nat → Nat → Int32) : Option (Int32 × (Nat → Nat → Int32)) := ((f_X6_isDigit X).bind fun q_1 => (if q_1 = 0 then (if ¬ (((X 0 25) ||| (nI 1)) = 0 ∨ ((X 0 25) ||| (nI 1)) = 1) then none else (zlet (zU X 0 25 ((X 0 25) ||| (nI 1))) fun X_1023 => f_X6_readsNumber_L25 zFuel X_1023 (nI 0) (nI 0))) else (if ¬ (((X 0 25) ||| (nI 0)) = 0 ∨ ((X 0 25) ||| (nI 0)) = 1) then none else (zlet (zU X 0 25 ((X 0 25) ||| (nI 0))) fun X_5 => f_X6_readsNumber_L25 zFuel X_5 (nI 0) (nI 0)))))
set_option maxRecDepth 100000 in
set_option maxHeartbeats 4000000 in
theorem c_X6_readsNumber (l : Launch) (D : va_G) (cy : Nat → ClassId) (ad : Nat → Nat) (E : va_W) (X : Nat → Nat → Int32) {res : Int32 × (Nat → Nat → Int32)} (h : f_X6_readsNumber X = some res) : zMi l yX6_readsNumber cX6_readsNumber 3 (some .int) (zrm 3) D (zTy cy) (zW cy ad shM E X) [.ref (ad 0)] res.1 (zW cy ad shM E res.2) := by
  refine zMi.of (by decide) (Nat.le_of_ble_eq_true rfl) ?_
  intro p e s m below meth c A C hr
  unfold f_X6_readsNumber at h
  refine zG_L (L' := [(0, .ref (ad 0))]) rfl ?_
  refine g_aload_n (j := 0) C dX6_readsNumber_0 rfl rfl ?_
  refine g_dup C dX6_readsNumber_1 rfl ?_
  refine g_geti (k := 25) (N := 27) C sM_0 rfl zin_RX6 (by decide) rfl zfl_RX6_296 rfl dX6_readsNumber_2 ?_
  refine g_aload_n (j := 0) C dX6_readsNumber_5 rfl rfl ?_
  obtain ⟨q_1, hq_2, h⟩ := bind_isome h
  refine g_vi (ws' := (zW cy ad shM E X)) (As := []) (rest := [.int (X 0 25), .ref (ad 0)]) (res := q_1) C (c_X6_isDigit l D cy ad E X hq_2) zml_RX6_299 zcv_X6_isDigit (zW_get X sM_0) rfl rfl rfl ⟨Nat.le_of_ble_eq_true rfl, Nat.le_of_ble_eq_true rfl⟩ rfl rfl (Nat.le_of_ble_eq_true rfl) ⟨Nat.zero_le _, Nat.zero_le _⟩ dX6_readsNumber_6 ?_
  refine g_if_ne C dX6_readsNumber_9 (tgt := 16) (by decide) (fun hc_3 => ?_) (fun hc_3 => ?_)
  · replace h := (if_neg hc_3).symm.trans h
    refine g_iconst (v := (nI 0)) C dX6_readsNumber_16 (by decide) ?_
    refine g_ior C dX6_readsNumber_17 ?_
    obtain ⟨hg_4, h⟩ := ite_inone h
    refine g_puti (k := 25) (N := 27) (ty := .boolean) C sM_0 rfl zin_RX6 (by decide) rfl zfl_RX6_296 rfl tyX6_ok nmX6 rfl (by decide +kernel) (z_nb (Decidable.not_not.mp hg_4)) (z_fb (Decidable.not_not.mp hg_4)) dX6_readsNumber_18 ?_
    obtain ⟨X_5, e_6, h⟩ := zlet_ex h
    rw [← e_6]
    refine g_iconst (v := (nI 0)) C dX6_readsNumber_21 (by decide) ?_
    refine g_istore_n (L' := [(1, .int (nI 0)), (0, .ref (ad 0))]) C dX6_readsNumber_22 rfl (by decide) rfl ?_
    refine g_iconst (v := (nI 0)) C dX6_readsNumber_23 (by decide) ?_
    refine g_istore_n (L' := [(2, .int (nI 0)), (1, .int (nI 0)), (0, .ref (ad 0))]) C dX6_readsNumber_24 rfl (by decide) rfl ?_
    refine zG_sub (L' := [(0, .ref (ad 0)), (1, .int (nI 0)), (2, .int (nI 0))]) [2, 1, 0] rfl ?_
    exact w_X6_readsNumber_L25 l D cy ad E C hr zFuel X_5 (nI 0) (nI 0) h
  · replace h := (if_pos hc_3).symm.trans h
    refine g_iconst (v := (nI 1)) C dX6_readsNumber_12 (by decide) ?_
    refine g_goto C dX6_readsNumber_13 (tgt := 17) (by decide) ?_
    refine g_ior C dX6_readsNumber_17 ?_
    obtain ⟨hg_1022, h⟩ := ite_inone h
    refine g_puti (k := 25) (N := 27) (ty := .boolean) C sM_0 rfl zin_RX6 (by decide) rfl zfl_RX6_296 rfl tyX6_ok nmX6 rfl (by decide +kernel) (z_nb (Decidable.not_not.mp hg_1022)) (z_fb (Decidable.not_not.mp hg_1022)) dX6_readsNumber_18 ?_
    obtain ⟨X_1023, e_1024, h⟩ := zlet_ex h
    rw [← e_1024]
    refine g_iconst (v := (nI 0)) C dX6_readsNumber_21 (by decide) ?_
    refine g_istore_n (L' := [(1, .int (nI 0)), (0, .ref (ad 0))]) C dX6_readsNumber_22 rfl (by decide) rfl ?_
    refine g_iconst (v := (nI 0)) C dX6_readsNumber_23 (by decide) ?_
    refine g_istore_n (L' := [(2, .int (nI 0)), (1, .int (nI 0)), (0, .ref (ad 0))]) C dX6_readsNumber_24 rfl (by decide) rfl ?_
    refine zG_sub (L' := [(0, .ref (ad 0)), (1, .int (nI 0)), (2, .int (nI 0))]) [2, 1, 0] rfl ?_
    exact w_X6_readsNumber_L25 l D cy ad E C hr zFuel X_1023 (nI 0) (nI 0) h
def f_X6_does (X : Nat → Nat → Int32) (v1 : Int32) : Option (Int32 × (Nat → Nat → Int32)) := (if (v1 + (nI 1)) < 0 ∨ 300 ≤ (v1 + (nI 1)).toNatClampNeg then none else (if (v1 + (nI 2)) < 0 ∨ 300 ≤ (v1 + (nI 2)).toNatClampNeg then none else (if v1 < 0 ∨ 300 ≤ v1.toNatClampNeg then none else (if (X 7 v1.toNatClampNeg) = (nI 0) then (if (v1 + (nI 3)) < 0 ∨ 300 ≤ (v1 + (nI 3)).toNatClampNeg then none else (if (v1 + (nI 4)) < 0 ∨ 300 ≤ (v1 + (nI 4)).toNatClampNeg then none else ((f_X6_plan X (X 7 (v1 + (nI 1)).toNatClampNeg) (X 7 (v1 + (nI 2)).toNatClampNeg) (X 7 (v1 + (nI 3)).toNatClampNeg) (X 7 (v1 + (nI 4)).toNatClampNeg)).bind fun q_7 => (if (q_7.2 0 0) = 0 then some ((nI 1), q_7.2) else some ((nI 0), q_7.2))))) else (if (X 7 v1.toNatClampNeg) = (nI 1) then ((f_X6_sell X (X 7 (v1 + (nI 1)).toNatClampNeg) (X 7 (v1 + (nI 2)).toNatClampNeg)).bind fun q_11 => (if (q_11.2 0 0) = 0 then some ((nI 1), q_11.2) else some ((nI 0), q_11.2))) else (if (X 7 v1.toNatClampNeg) = (nI 2) then ((f_X6_cancel X (X 7 (v1 + (nI 1)).toNatClampNeg)).bind fun q_15 => (if (q_15.2 0 0) = 0 then some ((nI 1), q_15.2) else some ((nI 0), q_15.2))) else (if (X 7 v1.toNatClampNeg) = (nI 3) then ((f_X6_fail X (X 7 (v1 + (nI 1)).toNatClampNeg) (X 7 (v1 + (nI 2)).toNatClampNeg)).bind fun q_19 => (if (q_19.2 0 0) = 0 then some ((nI 1), q_19.2) else some ((nI 0), q_19.2))) else ((f_X6_advance X (X 7 (v1 + (nI 1)).toNatClampNeg)).bind fun q_22 => (if (q_22.2 0 0) = 0 then some ((nI 1), q_22.2) else some ((nI 0), q_22.2))))))))))
set_option maxRecDepth 100000 in
set_option maxHeartbeats 4000000 in
theorem c_X6_does (l : Launch) (D : va_G) (cy : Nat → ClassId) (ad : Nat → Nat) (E : va_W) (X : Nat → Nat → Int32) (v1 : Int32) {res : Int32 × (Nat → Nat → Int32)} (h : f_X6_does X v1 = some res) : zMi l yX6_does cX6_does 5 (some .boolean) (zrm 11) D (zTy cy) (zW cy ad shM E X) [.ref (ad 0), .int v1] res.1 (zW cy ad shM E res.2) := by
  refine zMi.of (by decide) (Nat.le_of_ble_eq_true rfl) ?_
  intro p e s m below meth c A C hr
  unfold f_X6_does at h
  refine zG_L (L' := [(0, .ref (ad 0)), (1, .int v1)]) rfl ?_
  refine g_aload_n (j := 0) C dX6_does_0 rfl rfl ?_
  refine g_getr (k := 26) (N := 27) C sM_0 rfl zin_RX6 (by decide) rfl zfl_RX6_33 rfl dX6_does_1 ?_
  refine g_iload_n (j := 1) C dX6_does_4 rfl rfl ?_
  refine g_iconst (v := (nI 1)) C dX6_does_5 (by decide) ?_
  refine g_iadd C dX6_does_6 ?_
  obtain ⟨hi_1, h⟩ := ite_inone h
  refine g_iald C sM_7 hi_1 dX6_does_7 ?_
  refine g_istore_n (L' := [(2, .int (X 7 (v1 + (nI 1)).toNatClampNeg)), (0, .ref (ad 0)), (1, .int v1)]) C dX6_does_8 rfl (by decide) rfl ?_
  refine g_aload_n (j := 1) C dX6_does_9 rfl rfl ?_
  refine g_getr (k := 26) (N := 27) C sM_0 rfl zin_RX6 (by decide) rfl zfl_RX6_33 rfl dX6_does_10 ?_
  refine g_iload_n (j := 2) C dX6_does_13 rfl rfl ?_
  refine g_iconst (v := (nI 2)) C dX6_does_14 (by decide) ?_
  refine g_iadd C dX6_does_15 ?_
  obtain ⟨hi_2, h⟩ := ite_inone h
  refine g_iald C sM_7 hi_2 dX6_does_16 ?_
  refine g_istore_n (L' := [(3, .int (X 7 (v1 + (nI 2)).toNatClampNeg)), (2, .int (X 7 (v1 + (nI 1)).toNatClampNeg)), (0, .ref (ad 0)), (1, .int v1)]) C dX6_does_17 rfl (by decide) rfl ?_
  refine g_iconst (v := (nI 0)) C dX6_does_18 (by decide) ?_
  refine g_istore (L' := [(4, .int (nI 0)), (3, .int (X 7 (v1 + (nI 2)).toNatClampNeg)), (2, .int (X 7 (v1 + (nI 1)).toNatClampNeg)), (0, .ref (ad 0)), (1, .int v1)]) C dX6_does_19 (by decide) rfl ?_
  refine g_aload_n (j := 3) C dX6_does_21 rfl rfl ?_
  refine g_getr (k := 26) (N := 27) C sM_0 rfl zin_RX6 (by decide) rfl zfl_RX6_33 rfl dX6_does_22 ?_
  refine g_iload_n (j := 4) C dX6_does_25 rfl rfl ?_
  obtain ⟨hi_3, h⟩ := ite_inone h
  refine g_iald C sM_7 hi_3 dX6_does_26 ?_
  by_cases hc_4 : (X 7 v1.toNatClampNeg) = (nI 0)
  · replace h := (if_pos hc_4).symm.trans h
    refine g_tabEq C dX6_does_27 hc_4 (by decide) (by decide) rfl (tgt := 56) (by decide) ?_
    refine g_aload_n (j := 3) C dX6_does_56 rfl rfl ?_
    refine g_iload_n (j := 2) C dX6_does_57 rfl rfl ?_
    refine g_iload_n (j := 1) C dX6_does_58 rfl rfl ?_
    refine g_aload_n (j := 3) C dX6_does_59 rfl rfl ?_
    refine g_getr (k := 26) (N := 27) C sM_0 rfl zin_RX6 (by decide) rfl zfl_RX6_33 rfl dX6_does_60 ?_
    refine g_iload_n (j := 4) C dX6_does_63 rfl rfl ?_
    refine g_iconst (v := (nI 3)) C dX6_does_64 (by decide) ?_
    refine g_iadd C dX6_does_65 ?_
    obtain ⟨hi_5, h⟩ := ite_inone h
    refine g_iald C sM_7 hi_5 dX6_does_66 ?_
    refine g_aload_n (j := 3) C dX6_does_67 rfl rfl ?_
    refine g_getr (k := 26) (N := 27) C sM_0 rfl zin_RX6 (by decide) rfl zfl_RX6_33 rfl dX6_does_68 ?_
    refine g_iload_n (j := 4) C dX6_does_71 rfl rfl ?_
    refine g_iconst (v := (nI 4)) C dX6_does_72 (by decide) ?_
    refine g_iadd C dX6_does_73 ?_
    obtain ⟨hi_6, h⟩ := ite_inone h
    refine g_iald C sM_7 hi_6 dX6_does_74 ?_
    obtain ⟨q_7, hq_8, h⟩ := bind_isome h
    refine g_vi (ws' := (zW cy ad shM E q_7.2)) (As := [.int (X 7 (v1 + (nI 1)).toNatClampNeg), .int (X 7 (v1 + (nI 2)).toNatClampNeg), .int (X 7 (v1 + (nI 3)).toNatClampNeg), .int (X 7 (v1 + (nI 4)).toNatClampNeg)]) (rest := []) (res := q_7.1) C (c_X6_plan l D cy ad E X (X 7 (v1 + (nI 1)).toNatClampNeg) (X 7 (v1 + (nI 2)).toNatClampNeg) (X 7 (v1 + (nI 3)).toNatClampNeg) (X 7 (v1 + (nI 4)).toNatClampNeg) hq_8) zml_RX6_312 zcv_X6_plan (zW_get X sM_0) rfl rfl rfl ⟨Nat.le_of_ble_eq_true rfl, Nat.le_of_ble_eq_true rfl⟩ rfl rfl (Nat.le_of_ble_eq_true rfl) ⟨Nat.zero_le _, Nat.zero_le _⟩ dX6_does_75 ?_
    refine g_istore (L' := [(4, .int q_7.1), (3, .int (X 7 (v1 + (nI 2)).toNatClampNeg)), (2, .int (X 7 (v1 + (nI 1)).toNatClampNeg)), (0, .ref (ad 0)), (1, .int v1)]) C dX6_does_78 (by decide) rfl ?_
    refine g_goto C dX6_does_80 (tgt := 122) (by decide) ?_
    refine g_aload_n (j := 3) C dX6_does_122 rfl rfl ?_
    refine g_geti (k := 0) (N := 27) C sM_0 rfl zin_RX6 (by decide) rfl zfl_RX6_36 rfl dX6_does_123 ?_
    refine g_if_ne C dX6_does_126 (tgt := 133) (by decide) (fun hc_9 => ?_) (fun hc_9 => ?_)
    · replace h := (if_neg hc_9).symm.trans h
      refine g_iconst (v := (nI 0)) C dX6_does_133 (by decide) ?_
      obtain rfl := Option.some.inj h
      exact g_iret rfl C hr (z_nb (Or.inl rfl)) dX6_does_134
    · replace h := (if_pos hc_9).symm.trans h
      refine g_iconst (v := (nI 1)) C dX6_does_129 (by decide) ?_
      refine g_goto C dX6_does_130 (tgt := 134) (by decide) ?_
      obtain rfl := Option.some.inj h
      exact g_iret rfl C hr (z_nb (Or.inr rfl)) dX6_does_134
  replace h := (if_neg hc_4).symm.trans h
  by_cases hc_10 : (X 7 v1.toNatClampNeg) = (nI 1)
  · replace h := (if_pos hc_10).symm.trans h
    refine g_tabEq C dX6_does_27 hc_10 (by decide) (by decide) rfl (tgt := 83) (by decide) ?_
    refine g_aload_n (j := 3) C dX6_does_83 rfl rfl ?_
    refine g_iload_n (j := 2) C dX6_does_84 rfl rfl ?_
    refine g_iload_n (j := 1) C dX6_does_85 rfl rfl ?_
    obtain ⟨q_11, hq_12, h⟩ := bind_isome h
    refine g_vi (ws' := (zW cy ad shM E q_11.2)) (As := [.int (X 7 (v1 + (nI 1)).toNatClampNeg), .int (X 7 (v1 + (nI 2)).toNatClampNeg)]) (rest := []) (res := q_11.1) C (c_X6_sell l D cy ad E X (X 7 (v1 + (nI 1)).toNatClampNeg) (X 7 (v1 + (nI 2)).toNatClampNeg) hq_12) zml_RX6_314 zcv_X6_sell (zW_get X sM_0) rfl rfl rfl ⟨Nat.le_of_ble_eq_true rfl, Nat.le_of_ble_eq_true rfl⟩ rfl rfl (Nat.le_of_ble_eq_true rfl) ⟨Nat.zero_le _, Nat.zero_le _⟩ dX6_does_86 ?_
    refine g_istore (L' := [(4, .int q_11.1), (3, .int (X 7 (v1 + (nI 2)).toNatClampNeg)), (2, .int (X 7 (v1 + (nI 1)).toNatClampNeg)), (0, .ref (ad 0)), (1, .int v1)]) C dX6_does_89 (by decide) rfl ?_
    refine g_goto C dX6_does_91 (tgt := 122) (by decide) ?_
    refine g_aload_n (j := 3) C dX6_does_122 rfl rfl ?_
    refine g_geti (k := 0) (N := 27) C sM_0 rfl zin_RX6 (by decide) rfl zfl_RX6_36 rfl dX6_does_123 ?_
    refine g_if_ne C dX6_does_126 (tgt := 133) (by decide) (fun hc_13 => ?_) (fun hc_13 => ?_)
    · replace h := (if_neg hc_13).symm.trans h
      refine g_iconst (v := (nI 0)) C dX6_does_133 (by decide) ?_
      obtain rfl := Option.some.inj h
      exact g_iret rfl C hr (z_nb (Or.inl rfl)) dX6_does_134
    · replace h := (if_pos hc_13).symm.trans h
      refine g_iconst (v := (nI 1)) C dX6_does_129 (by decide) ?_
      refine g_goto C dX6_does_130 (tgt := 134) (by decide) ?_
      obtain rfl := Option.some.inj h
      exact g_iret rfl C hr (z_nb (Or.inr rfl)) dX6_does_134
  replace h := (if_neg hc_10).symm.trans h
  by_cases hc_14 : (X 7 v1.toNatClampNeg) = (nI 2)
  · replace h := (if_pos hc_14).symm.trans h
    refine g_tabEq C dX6_does_27 hc_14 (by decide) (by decide) rfl (tgt := 94) (by decide) ?_
    refine g_aload_n (j := 3) C dX6_does_94 rfl rfl ?_
    refine g_iload_n (j := 2) C dX6_does_95 rfl rfl ?_
    obtain ⟨q_15, hq_16, h⟩ := bind_isome h
    refine g_vi (ws' := (zW cy ad shM E q_15.2)) (As := [.int (X 7 (v1 + (nI 1)).toNatClampNeg)]) (rest := []) (res := q_15.1) C (c_X6_cancel l D cy ad E X (X 7 (v1 + (nI 1)).toNatClampNeg) hq_16) zml_RX6_316 zcv_X6_cancel (zW_get X sM_0) rfl rfl rfl ⟨Nat.le_of_ble_eq_true rfl, Nat.le_of_ble_eq_true rfl⟩ rfl rfl (Nat.le_of_ble_eq_true rfl) ⟨Nat.zero_le _, Nat.zero_le _⟩ dX6_does_96 ?_
    refine g_istore (L' := [(4, .int q_15.1), (3, .int (X 7 (v1 + (nI 2)).toNatClampNeg)), (2, .int (X 7 (v1 + (nI 1)).toNatClampNeg)), (0, .ref (ad 0)), (1, .int v1)]) C dX6_does_99 (by decide) rfl ?_
    refine g_goto C dX6_does_101 (tgt := 122) (by decide) ?_
    refine g_aload_n (j := 3) C dX6_does_122 rfl rfl ?_
    refine g_geti (k := 0) (N := 27) C sM_0 rfl zin_RX6 (by decide) rfl zfl_RX6_36 rfl dX6_does_123 ?_
    refine g_if_ne C dX6_does_126 (tgt := 133) (by decide) (fun hc_17 => ?_) (fun hc_17 => ?_)
    · replace h := (if_neg hc_17).symm.trans h
      refine g_iconst (v := (nI 0)) C dX6_does_133 (by decide) ?_
      obtain rfl := Option.some.inj h
      exact g_iret rfl C hr (z_nb (Or.inl rfl)) dX6_does_134
    · replace h := (if_pos hc_17).symm.trans h
      refine g_iconst (v := (nI 1)) C dX6_does_129 (by decide) ?_
      refine g_goto C dX6_does_130 (tgt := 134) (by decide) ?_
      obtain rfl := Option.some.inj h
      exact g_iret rfl C hr (z_nb (Or.inr rfl)) dX6_does_134
  replace h := (if_neg hc_14).symm.trans h
  by_cases hc_18 : (X 7 v1.toNatClampNeg) = (nI 3)
  · replace h := (if_pos hc_18).symm.trans h
    refine g_tabEq C dX6_does_27 hc_18 (by decide) (by decide) rfl (tgt := 104) (by decide) ?_
    refine g_aload_n (j := 3) C dX6_does_104 rfl rfl ?_
    refine g_iload_n (j := 2) C dX6_does_105 rfl rfl ?_
    refine g_iload_n (j := 1) C dX6_does_106 rfl rfl ?_
    obtain ⟨q_19, hq_20, h⟩ := bind_isome h
    refine g_vi (ws' := (zW cy ad shM E q_19.2)) (As := [.int (X 7 (v1 + (nI 1)).toNatClampNeg), .int (X 7 (v1 + (nI 2)).toNatClampNeg)]) (rest := []) (res := q_19.1) C (c_X6_fail l D cy ad E X (X 7 (v1 + (nI 1)).toNatClampNeg) (X 7 (v1 + (nI 2)).toNatClampNeg) hq_20) zml_RX6_319 zcv_X6_fail (zW_get X sM_0) rfl rfl rfl ⟨Nat.le_of_ble_eq_true rfl, Nat.le_of_ble_eq_true rfl⟩ rfl rfl (Nat.le_of_ble_eq_true rfl) ⟨Nat.zero_le _, Nat.zero_le _⟩ dX6_does_107 ?_
    refine g_istore (L' := [(4, .int q_19.1), (3, .int (X 7 (v1 + (nI 2)).toNatClampNeg)), (2, .int (X 7 (v1 + (nI 1)).toNatClampNeg)), (0, .ref (ad 0)), (1, .int v1)]) C dX6_does_110 (by decide) rfl ?_
    refine g_goto C dX6_does_112 (tgt := 122) (by decide) ?_
    refine g_aload_n (j := 3) C dX6_does_122 rfl rfl ?_
    refine g_geti (k := 0) (N := 27) C sM_0 rfl zin_RX6 (by decide) rfl zfl_RX6_36 rfl dX6_does_123 ?_
    refine g_if_ne C dX6_does_126 (tgt := 133) (by decide) (fun hc_21 => ?_) (fun hc_21 => ?_)
    · replace h := (if_neg hc_21).symm.trans h
      refine g_iconst (v := (nI 0)) C dX6_does_133 (by decide) ?_
      obtain rfl := Option.some.inj h
      exact g_iret rfl C hr (z_nb (Or.inl rfl)) dX6_does_134
    · replace h := (if_pos hc_21).symm.trans h
      refine g_iconst (v := (nI 1)) C dX6_does_129 (by decide) ?_
      refine g_goto C dX6_does_130 (tgt := 134) (by decide) ?_
      obtain rfl := Option.some.inj h
      exact g_iret rfl C hr (z_nb (Or.inr rfl)) dX6_does_134
  replace h := (if_neg hc_18).symm.trans h
  refine g_tabOut C dX6_does_27 (z_tabout_4 (lo := 0) (hi := 3) hc_4 hc_10 hc_14 hc_18 (by decide)) (tgt := 115) (by decide) ?_
  refine g_aload_n (j := 3) C dX6_does_115 rfl rfl ?_
  refine g_iload_n (j := 2) C dX6_does_116 rfl rfl ?_
  obtain ⟨q_22, hq_23, h⟩ := bind_isome h
  refine g_vi (ws' := (zW cy ad shM E q_22.2)) (As := [.int (X 7 (v1 + (nI 1)).toNatClampNeg)]) (rest := []) (res := q_22.1) C (c_X6_advance l D cy ad E X (X 7 (v1 + (nI 1)).toNatClampNeg) hq_23) zml_RX6_321 zcv_X6_advance (zW_get X sM_0) rfl rfl rfl ⟨Nat.le_of_ble_eq_true rfl, Nat.le_of_ble_eq_true rfl⟩ rfl rfl (Nat.le_of_ble_eq_true rfl) ⟨Nat.zero_le _, Nat.zero_le _⟩ dX6_does_117 ?_
  refine g_istore (L' := [(4, .int q_22.1), (3, .int (X 7 (v1 + (nI 2)).toNatClampNeg)), (2, .int (X 7 (v1 + (nI 1)).toNatClampNeg)), (0, .ref (ad 0)), (1, .int v1)]) C dX6_does_120 (by decide) rfl ?_
  refine g_aload_n (j := 3) C dX6_does_122 rfl rfl ?_
  refine g_geti (k := 0) (N := 27) C sM_0 rfl zin_RX6 (by decide) rfl zfl_RX6_36 rfl dX6_does_123 ?_
  refine g_if_ne C dX6_does_126 (tgt := 133) (by decide) (fun hc_24 => ?_) (fun hc_24 => ?_)
  · replace h := (if_neg hc_24).symm.trans h
    refine g_iconst (v := (nI 0)) C dX6_does_133 (by decide) ?_
    obtain rfl := Option.some.inj h
    exact g_iret rfl C hr (z_nb (Or.inl rfl)) dX6_does_134
  · replace h := (if_pos hc_24).symm.trans h
    refine g_iconst (v := (nI 1)) C dX6_does_129 (by decide) ?_
    refine g_goto C dX6_does_130 (tgt := 134) (by decide) ?_
    obtain rfl := Option.some.inj h
    exact g_iret rfl C hr (z_nb (Or.inr rfl)) dX6_does_134
def f_X6_errorPosition (X : Nat → Nat → Int32) : Int32 × (Nat → Nat → Int32) := (if (X 0 12) = (-1 : Int32) then (zlet (f_X6_fails X (nI 1)) fun q_4 => (q_4.1, q_4.2)) else (zlet (f_X6_done X (X 0 12)) fun q_2 => (q_2.1, q_2.2)))
set_option maxRecDepth 100000 in
set_option maxHeartbeats 4000000 in
theorem c_X6_errorPosition (l : Launch) (D : va_G) (cy : Nat → ClassId) (ad : Nat → Nat) (E : va_W) (X : Nat → Nat → Int32) : zMi l yX6_errorPosition cX6_errorPosition 1 (some .int) (zrm 2) D (zTy cy) (zW cy ad shM E X) [.ref (ad 0)] ((f_X6_errorPosition X).1) (zW cy ad shM E (f_X6_errorPosition X).2) := by
  refine zMi.of (by decide) (Nat.le_of_ble_eq_true rfl) ?_
  intro p e s m below meth c A C hr
  generalize h : f_X6_errorPosition X = res
  unfold f_X6_errorPosition at h
  refine zG_L (L' := [(0, .ref (ad 0))]) rfl ?_
  refine g_aload_n (j := 0) C dX6_errorPosition_0 rfl rfl ?_
  refine g_geti (k := 12) (N := 27) C sM_0 rfl zin_RX6 (by decide) rfl zfl_RX6_26 rfl dX6_errorPosition_1 ?_
  refine g_iconst (v := (-1 : Int32)) C dX6_errorPosition_4 (by decide) ?_
  refine g_icmp_ne C dX6_errorPosition_5 (tgt := 16) (by decide) (fun hc_1 => ?_) (fun hc_1 => ?_)
  · replace h := (if_neg hc_1).symm.trans h
    refine g_aload_n (j := 0) C dX6_errorPosition_16 rfl rfl ?_
    refine g_aload_n (j := 0) C dX6_errorPosition_17 rfl rfl ?_
    refine g_geti (k := 12) (N := 27) C sM_0 rfl zin_RX6 (by decide) rfl zfl_RX6_26 rfl dX6_errorPosition_18 ?_
    obtain ⟨q_2, e_3, h⟩ := zlet_ex h
    refine g_vi (ws' := (zW cy ad shM E q_2.2)) (As := [.int (X 0 12)]) (rest := []) (res := q_2.1) C ((by rw [e_3]; exact c_X6_done l D cy ad E X (X 0 12))) zml_RX6_71 zcv_X6_done (zW_get X sM_0) rfl rfl rfl ⟨Nat.le_of_ble_eq_true rfl, Nat.le_of_ble_eq_true rfl⟩ rfl rfl (Nat.le_of_ble_eq_true rfl) ⟨Nat.zero_le _, Nat.zero_le _⟩ dX6_errorPosition_21 ?_
    subst h
    exact g_iret rfl C hr rfl dX6_errorPosition_24
  · replace h := (if_pos hc_1).symm.trans h
    refine g_aload_n (j := 0) C dX6_errorPosition_8 rfl rfl ?_
    refine g_iconst (v := (nI 1)) C dX6_errorPosition_9 (by decide) ?_
    obtain ⟨q_4, e_5, h⟩ := zlet_ex h
    refine g_vi (ws' := (zW cy ad shM E q_4.2)) (As := [.int (nI 1)]) (rest := []) (res := q_4.1) C ((by rw [e_5]; exact c_X6_fails l D cy ad E X (nI 1))) zml_RX6_45 zcv_X6_fails (zW_get X sM_0) rfl rfl rfl ⟨Nat.le_of_ble_eq_true rfl, Nat.le_of_ble_eq_true rfl⟩ rfl rfl (Nat.le_of_ble_eq_true rfl) ⟨Nat.zero_le _, Nat.zero_le _⟩ dX6_errorPosition_10 ?_
    refine g_goto C dX6_errorPosition_13 (tgt := 24) (by decide) ?_
    subst h
    exact g_iret rfl C hr rfl dX6_errorPosition_24
def f_X6_undo (X : Nat → Nat → Int32) : Option (Int32 × (Nat → Nat → Int32)) := (if (X 0 3) = 0 then (zlet (f_X6_fails X (nI 1)) fun q_8 => some (q_8.1, q_8.2)) else (zlet (zU X 0 3 ((X 0 3) - (nI 1))) fun X_2 => ((f_X6_copy X_2 2 4640 1 580 ((X_2 0 3) * (nI 580)) (nI 0)).bind fun q_4 => (zlet (f_X6_done q_4 (q_4 0 3)) fun q_6 => some (q_6.1, q_6.2)))))
set_option maxRecDepth 100000 in
set_option maxHeartbeats 4000000 in
theorem c_X6_undo (l : Launch) (D : va_G) (cy : Nat → ClassId) (ad : Nat → Nat) (E : va_W) (X : Nat → Nat → Int32) {res : Int32 × (Nat → Nat → Int32)} (h : f_X6_undo X = some res) : zMi l yX6_undo cX6_undo 1 (some .int) (zrm 2) D (zTy cy) (zW cy ad shM E X) [.ref (ad 0)] res.1 (zW cy ad shM E res.2) := by
  refine zMi.of (by decide) (Nat.le_of_ble_eq_true rfl) ?_
  intro p e s m below meth c A C hr
  unfold f_X6_undo at h
  refine zG_L (L' := [(0, .ref (ad 0))]) rfl ?_
  refine g_aload_n (j := 0) C dX6_undo_0 rfl rfl ?_
  refine g_geti (k := 3) (N := 27) C sM_0 rfl zin_RX6 (by decide) rfl zfl_RX6_49 rfl dX6_undo_1 ?_
  refine g_if_ne C dX6_undo_4 (tgt := 13) (by decide) (fun hc_1 => ?_) (fun hc_1 => ?_)
  · replace h := (if_neg hc_1).symm.trans h
    refine g_aload_n (j := 0) C dX6_undo_13 rfl rfl ?_
    refine g_dup C dX6_undo_14 rfl ?_
    refine g_geti (k := 3) (N := 27) C sM_0 rfl zin_RX6 (by decide) rfl zfl_RX6_49 rfl dX6_undo_15 ?_
    refine g_iconst (v := (nI 1)) C dX6_undo_18 (by decide) ?_
    refine g_isub C dX6_undo_19 ?_
    refine g_puti (k := 3) (N := 27) (ty := .int) C sM_0 rfl zin_RX6 (by decide) rfl zfl_RX6_49 rfl tyX6_ok nmX6 rfl (by decide +kernel) rfl rfl dX6_undo_20 ?_
    obtain ⟨X_2, e_3, h⟩ := zlet_ex h
    rw [← e_3]
    refine g_aload_n (j := 0) C dX6_undo_23 rfl rfl ?_
    refine g_getr (k := 2) (N := 27) C sM_0 rfl zin_RX6 (by decide) rfl zfl_RX6_13 rfl dX6_undo_24 ?_
    refine g_aload_n (j := 0) C dX6_undo_27 rfl rfl ?_
    refine g_geti (k := 3) (N := 27) C sM_0 rfl zin_RX6 (by decide) rfl zfl_RX6_49 rfl dX6_undo_28 ?_
    refine g_sipush (v := (nI 580)) C dX6_undo_31 (by decide) ?_
    refine g_imul C dX6_undo_34 ?_
    refine g_aload_n (j := 0) C dX6_undo_35 rfl rfl ?_
    refine g_getr (k := 1) (N := 27) C sM_0 rfl zin_RX6 (by decide) rfl zfl_RX6_9 rfl dX6_undo_36 ?_
    refine g_iconst (v := (nI 0)) C dX6_undo_39 (by decide) ?_
    obtain ⟨q_4, hq_5, h⟩ := bind_isome h
    refine g_sv (ws' := (zW cy ad shM E q_4)) (As := [.ref (ad 2), .int ((X_2 0 3) * (nI 580)), .ref (ad 1), .int (nI 0)]) (rest := []) C (c_X6_copy l D cy ad E X_2 2 4640 1 580 sM_2 (by decide) sM_1 (by decide) ((X_2 0 3) * (nI 580)) (nI 0) hq_5) zml_RX6_52 zcs_X6_copy rfl rfl ⟨Nat.le_of_ble_eq_true rfl, Nat.le_of_ble_eq_true rfl⟩ rfl rfl (Nat.le_of_ble_eq_true rfl) ⟨Nat.zero_le _, Nat.zero_le _⟩ dX6_undo_40 ?_
    refine g_aload_n (j := 0) C dX6_undo_43 rfl rfl ?_
    refine g_aload_n (j := 0) C dX6_undo_44 rfl rfl ?_
    refine g_geti (k := 3) (N := 27) C sM_0 rfl zin_RX6 (by decide) rfl zfl_RX6_49 rfl dX6_undo_45 ?_
    obtain ⟨q_6, e_7, h⟩ := zlet_ex h
    refine g_vi (ws' := (zW cy ad shM E q_6.2)) (As := [.int (q_4 0 3)]) (rest := []) (res := q_6.1) C ((by rw [e_7]; exact c_X6_done l D cy ad E q_4 (q_4 0 3))) zml_RX6_71 zcv_X6_done (zW_get q_4 sM_0) rfl rfl rfl ⟨Nat.le_of_ble_eq_true rfl, Nat.le_of_ble_eq_true rfl⟩ rfl rfl (Nat.le_of_ble_eq_true rfl) ⟨Nat.zero_le _, Nat.zero_le _⟩ dX6_undo_48 ?_
    obtain rfl := Option.some.inj h
    exact g_iret rfl C hr rfl dX6_undo_51
  · replace h := (if_pos hc_1).symm.trans h
    refine g_aload_n (j := 0) C dX6_undo_7 rfl rfl ?_
    refine g_iconst (v := (nI 1)) C dX6_undo_8 (by decide) ?_
    obtain ⟨q_8, e_9, h⟩ := zlet_ex h
    refine g_vi (ws' := (zW cy ad shM E q_8.2)) (As := [.int (nI 1)]) (rest := []) (res := q_8.1) C ((by rw [e_9]; exact c_X6_fails l D cy ad E X (nI 1))) zml_RX6_45 zcv_X6_fails (zW_get X sM_0) rfl rfl rfl ⟨Nat.le_of_ble_eq_true rfl, Nat.le_of_ble_eq_true rfl⟩ rfl rfl (Nat.le_of_ble_eq_true rfl) ⟨Nat.zero_le _, Nat.zero_le _⟩ dX6_undo_9 ?_
    obtain rfl := Option.some.inj h
    exact g_iret rfl C hr rfl dX6_undo_12
def f_X6_save (X : Nat → Nat → Int32) : Option (Int32 × (Nat → Nat → Int32)) := ((f_X6_copy X 1 580 3 580 (nI 0) (nI 0)).bind fun q_1 => (zlet (zU q_1 0 5 (nI 1)) fun X_3 => (zlet (f_X6_done X_3 (X_3 1 (nI 4).toNatClampNeg)) fun q_5 => some (q_5.1, q_5.2))))
set_option maxRecDepth 100000 in
set_option maxHeartbeats 4000000 in
theorem c_X6_save (l : Launch) (D : va_G) (cy : Nat → ClassId) (ad : Nat → Nat) (E : va_W) (X : Nat → Nat → Int32) {res : Int32 × (Nat → Nat → Int32)} (h : f_X6_save X = some res) : zMi l yX6_save cX6_save 1 (some .int) (zrm 2) D (zTy cy) (zW cy ad shM E X) [.ref (ad 0)] res.1 (zW cy ad shM E res.2) := by
  refine zMi.of (by decide) (Nat.le_of_ble_eq_true rfl) ?_
  intro p e s m below meth c A C hr
  unfold f_X6_save at h
  refine zG_L (L' := [(0, .ref (ad 0))]) rfl ?_
  refine g_aload_n (j := 0) C dX6_save_0 rfl rfl ?_
  refine g_getr (k := 1) (N := 27) C sM_0 rfl zin_RX6 (by decide) rfl zfl_RX6_9 rfl dX6_save_1 ?_
  refine g_iconst (v := (nI 0)) C dX6_save_4 (by decide) ?_
  refine g_aload_n (j := 0) C dX6_save_5 rfl rfl ?_
  refine g_getr (k := 4) (N := 27) C sM_0 rfl zin_RX6 (by decide) rfl zfl_RX6_16 rfl dX6_save_6 ?_
  refine g_iconst (v := (nI 0)) C dX6_save_9 (by decide) ?_
  obtain ⟨q_1, hq_2, h⟩ := bind_isome h
  refine g_sv (ws' := (zW cy ad shM E q_1)) (As := [.ref (ad 1), .int (nI 0), .ref (ad 3), .int (nI 0)]) (rest := []) C (c_X6_copy l D cy ad E X 1 580 3 580 sM_1 (by decide) sM_3 (by decide) (nI 0) (nI 0) hq_2) zml_RX6_52 zcs_X6_copy rfl rfl ⟨Nat.le_of_ble_eq_true rfl, Nat.le_of_ble_eq_true rfl⟩ rfl rfl (Nat.le_of_ble_eq_true rfl) ⟨Nat.zero_le _, Nat.zero_le _⟩ dX6_save_10 ?_
  refine g_aload_n (j := 0) C dX6_save_13 rfl rfl ?_
  refine g_iconst (v := (nI 1)) C dX6_save_14 (by decide) ?_
  refine g_puti (k := 5) (N := 27) (ty := .boolean) C sM_0 rfl zin_RX6 (by decide) rfl zfl_RX6_330 rfl tyX6_ok nmX6 rfl (by decide +kernel) (z_nb (Or.inr rfl)) (z_fb (Or.inr rfl)) dX6_save_15 ?_
  obtain ⟨X_3, e_4, h⟩ := zlet_ex h
  rw [← e_4]
  refine g_aload_n (j := 0) C dX6_save_18 rfl rfl ?_
  refine g_aload_n (j := 0) C dX6_save_19 rfl rfl ?_
  refine g_getr (k := 1) (N := 27) C sM_0 rfl zin_RX6 (by decide) rfl zfl_RX6_9 rfl dX6_save_20 ?_
  refine g_iconst (v := (nI 4)) C dX6_save_23 (by decide) ?_
  refine g_iald C sM_1 (by decide) dX6_save_24 ?_
  obtain ⟨q_5, e_6, h⟩ := zlet_ex h
  refine g_vi (ws' := (zW cy ad shM E q_5.2)) (As := [.int (X_3 1 (nI 4).toNatClampNeg)]) (rest := []) (res := q_5.1) C ((by rw [e_6]; exact c_X6_done l D cy ad E X_3 (X_3 1 (nI 4).toNatClampNeg))) zml_RX6_71 zcv_X6_done (zW_get X_3 sM_0) rfl rfl rfl ⟨Nat.le_of_ble_eq_true rfl, Nat.le_of_ble_eq_true rfl⟩ rfl rfl (Nat.le_of_ble_eq_true rfl) ⟨Nat.zero_le _, Nat.zero_le _⟩ dX6_save_25 ?_
  obtain rfl := Option.some.inj h
  exact g_iret rfl C hr rfl dX6_save_28
def f_X6_restore (X : Nat → Nat → Int32) : Option (Int32 × (Nat → Nat → Int32)) := (if (X 0 5) = 0 then (zlet (f_X6_fails X (nI 1)) fun q_8 => some (q_8.1, q_8.2)) else ((f_X6_copy X 3 580 1 580 (nI 0) (nI 0)).bind fun q_2 => (zlet (zU q_2 0 3 (nI 0)) fun X_4 => (zlet (f_X6_done X_4 (X_4 1 (nI 4).toNatClampNeg)) fun q_6 => some (q_6.1, q_6.2)))))
set_option maxRecDepth 100000 in
set_option maxHeartbeats 4000000 in
theorem c_X6_restore (l : Launch) (D : va_G) (cy : Nat → ClassId) (ad : Nat → Nat) (E : va_W) (X : Nat → Nat → Int32) {res : Int32 × (Nat → Nat → Int32)} (h : f_X6_restore X = some res) : zMi l yX6_restore cX6_restore 1 (some .int) (zrm 2) D (zTy cy) (zW cy ad shM E X) [.ref (ad 0)] res.1 (zW cy ad shM E res.2) := by
  refine zMi.of (by decide) (Nat.le_of_ble_eq_true rfl) ?_
  intro p e s m below meth c A C hr
  unfold f_X6_restore at h
  refine zG_L (L' := [(0, .ref (ad 0))]) rfl ?_
  refine g_aload_n (j := 0) C dX6_restore_0 rfl rfl ?_
  refine g_geti (k := 5) (N := 27) C sM_0 rfl zin_RX6 (by decide) rfl zfl_RX6_330 rfl dX6_restore_1 ?_
  refine g_if_ne C dX6_restore_4 (tgt := 13) (by decide) (fun hc_1 => ?_) (fun hc_1 => ?_)
  · replace h := (if_neg hc_1).symm.trans h
    refine g_aload_n (j := 0) C dX6_restore_13 rfl rfl ?_
    refine g_getr (k := 4) (N := 27) C sM_0 rfl zin_RX6 (by decide) rfl zfl_RX6_16 rfl dX6_restore_14 ?_
    refine g_iconst (v := (nI 0)) C dX6_restore_17 (by decide) ?_
    refine g_aload_n (j := 0) C dX6_restore_18 rfl rfl ?_
    refine g_getr (k := 1) (N := 27) C sM_0 rfl zin_RX6 (by decide) rfl zfl_RX6_9 rfl dX6_restore_19 ?_
    refine g_iconst (v := (nI 0)) C dX6_restore_22 (by decide) ?_
    obtain ⟨q_2, hq_3, h⟩ := bind_isome h
    refine g_sv (ws' := (zW cy ad shM E q_2)) (As := [.ref (ad 3), .int (nI 0), .ref (ad 1), .int (nI 0)]) (rest := []) C (c_X6_copy l D cy ad E X 3 580 1 580 sM_3 (by decide) sM_1 (by decide) (nI 0) (nI 0) hq_3) zml_RX6_52 zcs_X6_copy rfl rfl ⟨Nat.le_of_ble_eq_true rfl, Nat.le_of_ble_eq_true rfl⟩ rfl rfl (Nat.le_of_ble_eq_true rfl) ⟨Nat.zero_le _, Nat.zero_le _⟩ dX6_restore_23 ?_
    refine g_aload_n (j := 0) C dX6_restore_26 rfl rfl ?_
    refine g_iconst (v := (nI 0)) C dX6_restore_27 (by decide) ?_
    refine g_puti (k := 3) (N := 27) (ty := .int) C sM_0 rfl zin_RX6 (by decide) rfl zfl_RX6_49 rfl tyX6_ok nmX6 rfl (by decide +kernel) rfl rfl dX6_restore_28 ?_
    obtain ⟨X_4, e_5, h⟩ := zlet_ex h
    rw [← e_5]
    refine g_aload_n (j := 0) C dX6_restore_31 rfl rfl ?_
    refine g_aload_n (j := 0) C dX6_restore_32 rfl rfl ?_
    refine g_getr (k := 1) (N := 27) C sM_0 rfl zin_RX6 (by decide) rfl zfl_RX6_9 rfl dX6_restore_33 ?_
    refine g_iconst (v := (nI 4)) C dX6_restore_36 (by decide) ?_
    refine g_iald C sM_1 (by decide) dX6_restore_37 ?_
    obtain ⟨q_6, e_7, h⟩ := zlet_ex h
    refine g_vi (ws' := (zW cy ad shM E q_6.2)) (As := [.int (X_4 1 (nI 4).toNatClampNeg)]) (rest := []) (res := q_6.1) C ((by rw [e_7]; exact c_X6_done l D cy ad E X_4 (X_4 1 (nI 4).toNatClampNeg))) zml_RX6_71 zcv_X6_done (zW_get X_4 sM_0) rfl rfl rfl ⟨Nat.le_of_ble_eq_true rfl, Nat.le_of_ble_eq_true rfl⟩ rfl rfl (Nat.le_of_ble_eq_true rfl) ⟨Nat.zero_le _, Nat.zero_le _⟩ dX6_restore_38 ?_
    obtain rfl := Option.some.inj h
    exact g_iret rfl C hr rfl dX6_restore_41
  · replace h := (if_pos hc_1).symm.trans h
    refine g_aload_n (j := 0) C dX6_restore_7 rfl rfl ?_
    refine g_iconst (v := (nI 1)) C dX6_restore_8 (by decide) ?_
    obtain ⟨q_8, e_9, h⟩ := zlet_ex h
    refine g_vi (ws' := (zW cy ad shM E q_8.2)) (As := [.int (nI 1)]) (rest := []) (res := q_8.1) C ((by rw [e_9]; exact c_X6_fails l D cy ad E X (nI 1))) zml_RX6_45 zcv_X6_fails (zW_get X sM_0) rfl rfl rfl ⟨Nat.le_of_ble_eq_true rfl, Nat.le_of_ble_eq_true rfl⟩ rfl rfl (Nat.le_of_ble_eq_true rfl) ⟨Nat.zero_le _, Nat.zero_le _⟩ dX6_restore_9 ?_
    obtain rfl := Option.some.inj h
    exact g_iret rfl C hr rfl dX6_restore_12
