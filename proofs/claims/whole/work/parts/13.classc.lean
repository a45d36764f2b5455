/-! laid by wip/whole/mkparts.py -/
def f_X2_firstCrowded_L72 (k : Int32 → Option Int32) (X : Nat → Nat → Int32) (v1 : Int32) (v2 : Int32) (v3 : Int32) (v4 : Int32) (v5 : Int32) (v6 : Int32) (v7 : Int32) (v8 : Int32) : Nat → Int32 → Int32 → Option Int32
  | 0, _, _ => none
  | fu + 1, v9, v10 => (if (f_X4_size X 147 210) ≤ v10 then k v9 else (if v8 < (f_X4_get X 147 210 v10 v4) then f_X2_firstCrowded_L72 k X v1 v2 v3 v4 v5 v6 v7 v8 fu v9 (v10 + 1) else (if (f_X4_get X 147 210 v10 v5) ≤ v8 then f_X2_firstCrowded_L72 k X v1 v2 v3 v4 v5 v6 v7 v8 fu v9 (v10 + 1) else f_X2_firstCrowded_L72 k X v1 v2 v3 v4 v5 v6 v7 v8 fu (v9 + 1) (v10 + 1))))
set_option maxRecDepth 100000 in
set_option maxHeartbeats 4000000 in
theorem w_X2_firstCrowded_L72 {p : Program} {e : Env} {s : State} {m : MethodId} {args : Array Value} {below : List Frame} {meth : Method} {c : Code} {A : Nat → Prop} (l : Launch) (D : va_G) (cy : Nat → ClassId) (ad : Nat → Nat) (E : va_W) (k : Int32 → Option Int32) (X : Nat → Nat → Int32) (v1 : Int32) (v2 : Int32) (v3 : Int32) (v4 : Int32) (v5 : Int32) (v6 : Int32) (v7 : Int32) (v8 : Int32) {res : Int32} (C : zC p s m args meth c cX2_firstCrowded 11 RX2 D (zTy cy) A) (hr : meth.sig.returnType = (some .int)) : ∀ (fu : Nat) (v9 v10 : Int32) (h : f_X2_firstCrowded_L72 k X v1 v2 v3 v4 v5 v6 v7 v8 fu v9 v10 = some res) (hk : ∀ (v9 : Int32), k v9 = some res → zG p l e (zrm 2) s m args below meth c 11 D A 0 0 (MQ below (va_Qi (fun (r : Int32) (_ : Unit) => r = res) (fun _ t => zB D (zTy cy) A (zW cy ad shC E X) t) A) args s 0 0 A) (zW cy ad shC E X) 125 [(0, .ref (ad 146)), (1, .int v1), (2, .int v2), (3, .int v3), (4, .int v4), (5, .int v5), (6, .int v6), (7, .int v7), (8, .int v8), (9, .int v9)] []), zG p l e (zrm 2) s m args below meth c 11 D A 0 0 (MQ below (va_Qi (fun (r : Int32) (_ : Unit) => r = res) (fun _ t => zB D (zTy cy) A (zW cy ad shC E X) t) A) args s 0 0 A) (zW cy ad shC E X) 72 [(0, .ref (ad 146)), (1, .int v1), (2, .int v2), (3, .int v3), (4, .int v4), (5, .int v5), (6, .int v6), (7, .int v7), (8, .int v8), (9, .int v9), (10, .int v10)] [] := by
  intro fu
  induction fu with
  | zero => intro v9 v10 h hk; simp [f_X2_firstCrowded_L72] at h
  | succ fu ih =>
    intro v9 v10 h hk
    rw [f_X2_firstCrowded_L72] at h
    refine g_iload (j := 10) C dX2_firstCrowded_72 rfl ?_
    refine g_aload_n (j := 0) C dX2_firstCrowded_74 rfl rfl ?_
    refine g_getr (k := 0) (N := 4) C sC_146 rfl zin_RX2 (by decide) rfl zfl_RX2_16 rfl dX2_firstCrowded_75 ?_
    refine g_vi (ws' := (zW cy ad shC E X)) (As := []) (rest := [.int v10]) (res := (f_X4_size X 147 210)) C (c_X4_size l D cy ad E X 147 210 sC_147 sC_148 (by decide)) zml_RX2_42 zcv_X4_size (zW_get X sC_147) rfl rfl rfl ⟨Nat.le_of_ble_eq_true rfl, Nat.le_of_ble_eq_true rfl⟩ rfl rfl (Nat.le_of_ble_eq_true rfl) ⟨Nat.zero_le _, Nat.zero_le _⟩ dX2_firstCrowded_78 ?_
    refine g_icmp_ge C dX2_firstCrowded_81 (tgt := 125) (by decide) (fun hc_2006 => ?_) (fun hc_2006 => ?_)
    · replace h := (if_pos hc_2006).symm.trans h
      refine zG_sub (L' := [(0, .ref (ad 146)), (1, .int v1), (2, .int v2), (3, .int v3), (4, .int v4), (5, .int v5), (6, .int v6), (7, .int v7), (8, .int v8), (9, .int v9)]) [0, 1, 2, 3, 4, 5, 6, 7, 8, 9] rfl ?_
      exact hk v9 h
    · replace h := (if_neg hc_2006).symm.trans h
      refine g_aload_n (j := 0) C dX2_firstCrowded_84 rfl rfl ?_
      refine g_getr (k := 0) (N := 4) C sC_146 rfl zin_RX2 (by decide) rfl zfl_RX2_16 rfl dX2_firstCrowded_85 ?_
      refine g_iload (j := 10) C dX2_firstCrowded_88 rfl ?_
      refine g_iload (j := 4) C dX2_firstCrowded_90 rfl ?_
      refine g_vi (ws' := (zW cy ad shC E X)) (As := [.int v10, .int v4]) (rest := []) (res := (f_X4_get X 147 210 v10 v4)) C (c_X4_get l D cy ad E X 147 210 sC_147 sC_148 (by decide) v10 v4) zml_RX2_54 zcv_X4_get (zW_get X sC_147) rfl rfl rfl ⟨Nat.le_of_ble_eq_true rfl, Nat.le_of_ble_eq_true rfl⟩ rfl rfl (Nat.le_of_ble_eq_true rfl) ⟨Nat.zero_le _, Nat.zero_le _⟩ dX2_firstCrowded_92 ?_
      refine g_iload (j := 8) C dX2_firstCrowded_95 rfl ?_
      refine g_icmp_gt C dX2_firstCrowded_97 (tgt := 119) (by decide) (fun hc_2007 => ?_) (fun hc_2007 => ?_)
      · replace h := (if_pos hc_2007).symm.trans h
        refine g_iinc (k := 10) (L' := [(10, .int (v10 + 1)), (0, .ref (ad 146)), (1, .int v1), (2, .int v2), (3, .int v3), (4, .int v4), (5, .int v5), (6, .int v6), (7, .int v7), (8, .int v8), (9, .int v9)]) C dX2_firstCrowded_119 rfl (z_iinc (by decide)) (by decide) rfl ?_
        refine g_goto C dX2_firstCrowded_122 (tgt := 72) (by decide) ?_
        refine zG_sub (L' := [(0, .ref (ad 146)), (1, .int v1), (2, .int v2), (3, .int v3), (4, .int v4), (5, .int v5), (6, .int v6), (7, .int v7), (8, .int v8), (9, .int v9), (10, .int (v10 + 1))]) [1, 2, 3, 4, 5, 6, 7, 8, 9, 10, 0] rfl ?_
        exact ih v9 (v10 + 1) h hk
      · replace h := (if_neg hc_2007).symm.trans h
        refine g_iload (j := 8) C dX2_firstCrowded_100 rfl ?_
        refine g_aload_n (j := 0) C dX2_firstCrowded_102 rfl rfl ?_
        refine g_getr (k := 0) (N := 4) C sC_146 rfl zin_RX2 (by decide) rfl zfl_RX2_16 rfl dX2_firstCrowded_103 ?_
        refine g_iload (j := 10) C dX2_firstCrowded_106 rfl ?_
        refine g_iload (j := 5) C dX2_firstCrowded_108 rfl ?_
        refine g_vi (ws' := (zW cy ad shC E X)) (As := [.int v10, .int v5]) (rest := [.int v8]) (res := (f_X4_get X 147 210 v10 v5)) C (c_X4_get l D cy ad E X 147 210 sC_147 sC_148 (by decide) v10 v5) zml_RX2_54 zcv_X4_get (zW_get X sC_147) rfl rfl rfl ⟨Nat.le_of_ble_eq_true rfl, Nat.le_of_ble_eq_true rfl⟩ rfl rfl (Nat.le_of_ble_eq_true rfl) ⟨Nat.zero_le _, Nat.zero_le _⟩ dX2_firstCrowded_110 ?_
        refine g_icmp_ge C dX2_firstCrowded_113 (tgt := 119) (by decide) (fun hc_2008 => ?_) (fun hc_2008 => ?_)
        · replace h := (if_pos hc_2008).symm.trans h
          refine g_iinc (k := 10) (L' := [(10, .int (v10 + 1)), (0, .ref (ad 146)), (1, .int v1), (2, .int v2), (3, .int v3), (4, .int v4), (5, .int v5), (6, .int v6), (7, .int v7), (8, .int v8), (9, .int v9)]) C dX2_firstCrowded_119 rfl (z_iinc (by decide)) (by decide) rfl ?_
          refine g_goto C dX2_firstCrowded_122 (tgt := 72) (by decide) ?_
          refine zG_sub (L' := [(0, .ref (ad 146)), (1, .int v1), (2, .int v2), (3, .int v3), (4, .int v4), (5, .int v5), (6, .int v6), (7, .int v7), (8, .int v8), (9, .int v9), (10, .int (v10 + 1))]) [1, 2, 3, 4, 5, 6, 7, 8, 9, 10, 0] rfl ?_
          exact ih v9 (v10 + 1) h hk
        · replace h := (if_neg hc_2008).symm.trans h
          refine g_iinc (k := 9) (L' := [(9, .int (v9 + 1)), (0, .ref (ad 146)), (1, .int v1), (2, .int v2), (3, .int v3), (4, .int v4), (5, .int v5), (6, .int v6), (7, .int v7), (8, .int v8), (10, .int v10)]) C dX2_firstCrowded_116 rfl (z_iinc (by decide)) (by decide) rfl ?_
          refine g_iinc (k := 10) (L' := [(10, .int (v10 + 1)), (9, .int (v9 + 1)), (0, .ref (ad 146)), (1, .int v1), (2, .int v2), (3, .int v3), (4, .int v4), (5, .int v5), (6, .int v6), (7, .int v7), (8, .int v8)]) C dX2_firstCrowded_119 rfl (z_iinc (by decide)) (by decide) rfl ?_
          refine g_goto C dX2_firstCrowded_122 (tgt := 72) (by decide) ?_
          refine zG_sub (L' := [(0, .ref (ad 146)), (1, .int v1), (2, .int v2), (3, .int v3), (4, .int v4), (5, .int v5), (6, .int v6), (7, .int v7), (8, .int v8), (9, .int (v9 + 1)), (10, .int (v10 + 1))]) [2, 3, 4, 5, 6, 7, 8, 9, 10, 1, 0] rfl ?_
          exact ih (v9 + 1) (v10 + 1) h hk
def f_X2_firstCrowded_L6 (X : Nat → Nat → Int32) (v1 : Int32) (v2 : Int32) (v3 : Int32) (v4 : Int32) (v5 : Int32) : Nat → Int32 → Int32 → Option Int32
  | 0, _, _ => none
  | fu + 1, v6, v7 => (if (f_X4_size X 147 210) ≤ v7 then some v6 else (if v7 = (-1 : Int32) then (if v1 < v1 then f_X2_firstCrowded_L6 X v1 v2 v3 v4 v5 fu v6 (v7 + 1) else (if v2 ≤ v1 then f_X2_firstCrowded_L6 X v1 v2 v3 v4 v5 fu v6 (v7 + 1) else (if v6 = (-1 : Int32) then f_X2_firstCrowded_L72 (fun v9_2017 => (if v9_2017 ≤ v3 then f_X2_firstCrowded_L6 X v1 v2 v3 v4 v5 fu v6 (v7 + 1) else f_X2_firstCrowded_L6 X v1 v2 v3 v4 v5 fu v1 (v7 + 1))) X v1 v2 v3 v4 v5 v6 v7 v1 zFuel (nI 1) (nI 0) else (if v6 ≤ v1 then f_X2_firstCrowded_L6 X v1 v2 v3 v4 v5 fu v6 (v7 + 1) else f_X2_firstCrowded_L72 (fun v9_2020 => (if v9_2020 ≤ v3 then f_X2_firstCrowded_L6 X v1 v2 v3 v4 v5 fu v6 (v7 + 1) else f_X2_firstCrowded_L6 X v1 v2 v3 v4 v5 fu v1 (v7 + 1))) X v1 v2 v3 v4 v5 v6 v7 v1 zFuel (nI 1) (nI 0))))) else (if (f_X4_get X 147 210 v7 v4) < v1 then f_X2_firstCrowded_L6 X v1 v2 v3 v4 v5 fu v6 (v7 + 1) else (if v2 ≤ (f_X4_get X 147 210 v7 v4) then f_X2_firstCrowded_L6 X v1 v2 v3 v4 v5 fu v6 (v7 + 1) else (if v6 = (-1 : Int32) then f_X2_firstCrowded_L72 (fun v9_2009 => (if v9_2009 ≤ v3 then f_X2_firstCrowded_L6 X v1 v2 v3 v4 v5 fu v6 (v7 + 1) else f_X2_firstCrowded_L6 X v1 v2 v3 v4 v5 fu (f_X4_get X 147 210 v7 v4) (v7 + 1))) X v1 v2 v3 v4 v5 v6 v7 (f_X4_get X 147 210 v7 v4) zFuel (nI 1) (nI 0) else (if v6 ≤ (f_X4_get X 147 210 v7 v4) then f_X2_firstCrowded_L6 X v1 v2 v3 v4 v5 fu v6 (v7 + 1) else f_X2_firstCrowded_L72 (fun v9_2012 => (if v9_2012 ≤ v3 then f_X2_firstCrowded_L6 X v1 v2 v3 v4 v5 fu v6 (v7 + 1) else f_X2_firstCrowded_L6 X v1 v2 v3 v4 v5 fu (f_X4_get X 147 210 v7 v4) (v7 + 1))) X v1 v2 v3 v4 v5 v6 v7 (f_X4_get X 147 210 v7 v4) zFuel (nI 1) (nI 0)))))))
set_option maxRecDepth 100000 in
set_option maxHeartbeats 4000000 in
theorem w_X2_firstCrowded_L6 {p : Program} {e : Env} {s : State} {m : MethodId} {args : Array Value} {below : List Frame} {meth : Method} {c : Code} {A : Nat → Prop} (l : Launch) (D : va_G) (cy : Nat → ClassId) (ad : Nat → Nat) (E : va_W) (X : Nat → Nat → Int32) (v1 : Int32) (v2 : Int32) (v3 : Int32) (v4 : Int32) (v5 : Int32) {res : Int32} (C : zC p s m args meth c cX2_firstCrowded 11 RX2 D (zTy cy) A) (hr : meth.sig.returnType = (some .int)) : ∀ (fu : Nat) (v6 v7 : Int32) (h : f_X2_firstCrowded_L6 X v1 v2 v3 v4 v5 fu v6 v7 = some res), zG p l e (zrm 2) s m args below meth c 11 D A 0 0 (MQ below (va_Qi (fun (r : Int32) (_ : Unit) => r = res) (fun _ t => zB D (zTy cy) A (zW cy ad shC E X) t) A) args s 0 0 A) (zW cy ad shC E X) 6 [(0, .ref (ad 146)), (1, .int v1), (2, .int v2), (3, .int v3), (4, .int v4), (5, .int v5), (6, .int v6), (7, .int v7)] [] := by
  intro fu
  induction fu with
  | zero => intro v6 v7 h; simp [f_X2_firstCrowded_L6] at h
  | succ fu ih =>
    intro v6 v7 h
    rw [f_X2_firstCrowded_L6] at h
    refine g_iload (j := 7) C dX2_firstCrowded_6 rfl ?_
    refine g_aload_n (j := 0) C dX2_firstCrowded_8 rfl rfl ?_
    refine g_getr (k := 0) (N := 4) C sC_146 rfl zin_RX2 (by decide) rfl zfl_RX2_16 rfl dX2_firstCrowded_9 ?_
    refine g_vi (ws' := (zW cy ad shC E X)) (As := []) (rest := [.int v7]) (res := (f_X4_size X 147 210)) C (c_X4_size l D cy ad E X 147 210 sC_147 sC_148 (by decide)) zml_RX2_42 zcv_X4_size (zW_get X sC_147) rfl rfl rfl ⟨Nat.le_of_ble_eq_true rfl, Nat.le_of_ble_eq_true rfl⟩ rfl rfl (Nat.le_of_ble_eq_true rfl) ⟨Nat.zero_le _, Nat.zero_le _⟩ dX2_firstCrowded_12 ?_
    refine g_icmp_ge C dX2_firstCrowded_15 (tgt := 141) (by decide) (fun hc_1001 => ?_) (fun hc_1001 => ?_)
    · replace h := (if_pos hc_1001).symm.trans h
      refine g_iload (j := 6) C dX2_firstCrowded_141 rfl ?_
      obtain rfl := Option.some.inj h
      exact g_iret rfl C hr rfl dX2_firstCrowded_143
    · replace h := (if_neg hc_1001).symm.trans h
      refine g_iload (j := 7) C dX2_firstCrowded_18 rfl ?_
      refine g_iconst (v := (-1 : Int32)) C dX2_firstCrowded_20 (by decide) ?_
      refine g_icmp_ne C dX2_firstCrowded_21 (tgt := 28) (by decide) (fun hc_1002 => ?_) (fun hc_1002 => ?_)
      · replace h := (if_neg hc_1002).symm.trans h
        refine g_aload_n (j := 0) C dX2_firstCrowded_28 rfl rfl ?_
        refine g_getr (k := 0) (N := 4) C sC_146 rfl zin_RX2 (by decide) rfl zfl_RX2_16 rfl dX2_firstCrowded_29 ?_
        refine g_iload (j := 7) C dX2_firstCrowded_32 rfl ?_
        refine g_iload (j := 4) C dX2_firstCrowded_34 rfl ?_
        refine g_vi (ws' := (zW cy ad shC E X)) (As := [.int v7, .int v4]) (rest := []) (res := (f_X4_get X 147 210 v7 v4)) C (c_X4_get l D cy ad E X 147 210 sC_147 sC_148 (by decide) v7 v4) zml_RX2_54 zcv_X4_get (zW_get X sC_147) rfl rfl rfl ⟨Nat.le_of_ble_eq_true rfl, Nat.le_of_ble_eq_true rfl⟩ rfl rfl (Nat.le_of_ble_eq_true rfl) ⟨Nat.zero_le _, Nat.zero_le _⟩ dX2_firstCrowded_36 ?_
        refine g_istore (L' := [(8, .int (f_X4_get X 147 210 v7 v4)), (0, .ref (ad 146)), (1, .int v1), (2, .int v2), (3, .int v3), (4, .int v4), (5, .int v5), (6, .int v6), (7, .int v7)]) C dX2_firstCrowded_39 (by decide) rfl ?_
        refine g_iload (j := 0) C dX2_firstCrowded_41 rfl ?_
        refine g_iload_n (j := 2) C dX2_firstCrowded_43 rfl rfl ?_
        refine g_icmp_lt C dX2_firstCrowded_44 (tgt := 135) (by decide) (fun hc_1003 => ?_) (fun hc_1003 => ?_)
        · replace h := (if_pos hc_1003).symm.trans h
          refine g_iinc (k := 8) (L' := [(7, .int (v7 + 1)), (8, .int (f_X4_get X 147 210 v7 v4)), (0, .ref (ad 146)), (1, .int v1), (2, .int v2), (3, .int v3), (4, .int v4), (5, .int v5), (6, .int v6)]) C dX2_firstCrowded_135 rfl (z_iinc (by decide)) (by decide) rfl ?_
          refine g_goto C dX2_firstCrowded_138 (tgt := 6) (by decide) ?_
          refine zG_sub (L' := [(0, .ref (ad 146)), (1, .int v1), (2, .int v2), (3, .int v3), (4, .int v4), (5, .int v5), (6, .int v6), (7, .int (v7 + 1))]) [2, 3, 4, 5, 6, 7, 8, 0] rfl ?_
          exact ih v6 (v7 + 1) h
        · replace h := (if_neg hc_1003).symm.trans h
          refine g_iload (j := 0) C dX2_firstCrowded_47 rfl ?_
          refine g_iload_n (j := 3) C dX2_firstCrowded_49 rfl rfl ?_
          refine g_icmp_ge C dX2_firstCrowded_50 (tgt := 135) (by decide) (fun hc_1004 => ?_) (fun hc_1004 => ?_)
          · replace h := (if_pos hc_1004).symm.trans h
            refine g_iinc (k := 8) (L' := [(7, .int (v7 + 1)), (8, .int (f_X4_get X 147 210 v7 v4)), (0, .ref (ad 146)), (1, .int v1), (2, .int v2), (3, .int v3), (4, .int v4), (5, .int v5), (6, .int v6)]) C dX2_firstCrowded_135 rfl (z_iinc (by decide)) (by decide) rfl ?_
            refine g_goto C dX2_firstCrowded_138 (tgt := 6) (by decide) ?_
            refine zG_sub (L' := [(0, .ref (ad 146)), (1, .int v1), (2, .int v2), (3, .int v3), (4, .int v4), (5, .int v5), (6, .int v6), (7, .int (v7 + 1))]) [2, 3, 4, 5, 6, 7, 8, 0] rfl ?_
            exact ih v6 (v7 + 1) h
          · replace h := (if_neg hc_1004).symm.trans h
            refine g_iload (j := 7) C dX2_firstCrowded_53 rfl ?_
            refine g_iconst (v := (-1 : Int32)) C dX2_firstCrowded_55 (by decide) ?_
            refine g_icmp_eq C dX2_firstCrowded_56 (tgt := 66) (by decide) (fun hc_1005 => ?_) (fun hc_1005 => ?_)
            · replace h := (if_pos hc_1005).symm.trans h
              refine g_iconst (v := (nI 1)) C dX2_firstCrowded_66 (by decide) ?_
              refine g_istore (L' := [(9, .int (nI 1)), (8, .int (f_X4_get X 147 210 v7 v4)), (0, .ref (ad 146)), (1, .int v1), (2, .int v2), (3, .int v3), (4, .int v4), (5, .int v5), (6, .int v6), (7, .int v7)]) C dX2_firstCrowded_67 (by decide) rfl ?_
              refine g_iconst (v := (nI 0)) C dX2_firstCrowded_69 (by decide) ?_
              refine g_istore (L' := [(10, .int (nI 0)), (9, .int (nI 1)), (8, .int (f_X4_get X 147 210 v7 v4)), (0, .ref (ad 146)), (1, .int v1), (2, .int v2), (3, .int v3), (4, .int v4), (5, .int v5), (6, .int v6), (7, .int v7)]) C dX2_firstCrowded_70 (by decide) rfl ?_
              refine zG_sub (L' := [(0, .ref (ad 146)), (1, .int v1), (2, .int v2), (3, .int v3), (4, .int v4), (5, .int v5), (6, .int v6), (7, .int v7), (8, .int (f_X4_get X 147 210 v7 v4)), (9, .int (nI 1)), (10, .int (nI 0))]) [3, 4, 5, 6, 7, 8, 9, 10, 2, 1, 0] rfl ?_
              refine w_X2_firstCrowded_L72 l D cy ad E _ X v1 v2 v3 v4 v5 v6 v7 (f_X4_get X 147 210 v7 v4) C hr zFuel (nI 1) (nI 0) h ?_
              intro v9_2009 h
              refine g_iload (j := 9) C dX2_firstCrowded_125 rfl ?_
              refine g_iload_n (j := 3) C dX2_firstCrowded_127 rfl rfl ?_
              refine g_icmp_le C dX2_firstCrowded_128 (tgt := 135) (by decide) (fun hc_2010 => ?_) (fun hc_2010 => ?_)
              · replace h := (if_pos hc_2010).symm.trans h
                refine g_iinc (k := 7) (L' := [(7, .int (v7 + 1)), (0, .ref (ad 146)), (1, .int v1), (2, .int v2), (3, .int v3), (4, .int v4), (5, .int v5), (6, .int v6), (8, .int (f_X4_get X 147 210 v7 v4)), (9, .int v9_2009)]) C dX2_firstCrowded_135 rfl (z_iinc (by decide)) (by decide) rfl ?_
                refine g_goto C dX2_firstCrowded_138 (tgt := 6) (by decide) ?_
                refine zG_sub (L' := [(0, .ref (ad 146)), (1, .int v1), (2, .int v2), (3, .int v3), (4, .int v4), (5, .int v5), (6, .int v6), (7, .int (v7 + 1))]) [1, 2, 3, 4, 5, 6, 7, 0] rfl ?_
                exact ih v6 (v7 + 1) h
              · replace h := (if_neg hc_2010).symm.trans h
                refine g_iload (j := 8) C dX2_firstCrowded_131 rfl ?_
                refine g_istore (L' := [(6, .int (f_X4_get X 147 210 v7 v4)), (0, .ref (ad 146)), (1, .int v1), (2, .int v2), (3, .int v3), (4, .int v4), (5, .int v5), (7, .int v7), (8, .int (f_X4_get X 147 210 v7 v4)), (9, .int v9_2009)]) C dX2_firstCrowded_133 (by decide) rfl ?_
                refine g_iinc (k := 7) (L' := [(7, .int (v7 + 1)), (6, .int (f_X4_get X 147 210 v7 v4)), (0, .ref (ad 146)), (1, .int v1), (2, .int v2), (3, .int v3), (4, .int v4), (5, .int v5), (8, .int (f_X4_get X 147 210 v7 v4)), (9, .int v9_2009)]) C dX2_firstCrowded_135 rfl (z_iinc (by decide)) (by decide) rfl ?_
                refine g_goto C dX2_firstCrowded_138 (tgt := 6) (by decide) ?_
                refine zG_sub (L' := [(0, .ref (ad 146)), (1, .int v1), (2, .int v2), (3, .int v3), (4, .int v4), (5, .int v5), (6, .int (f_X4_get X 147 210 v7 v4)), (7, .int (v7 + 1))]) [2, 3, 4, 5, 6, 7, 1, 0] rfl ?_
                exact ih (f_X4_get X 147 210 v7 v4) (v7 + 1) h
            · replace h := (if_neg hc_1005).symm.trans h
              refine g_iload (j := 0) C dX2_firstCrowded_59 rfl ?_
              refine g_iload (j := 7) C dX2_firstCrowded_61 rfl ?_
              refine g_icmp_ge C dX2_firstCrowded_63 (tgt := 135) (by decide) (fun hc_2011 => ?_) (fun hc_2011 => ?_)
              · replace h := (if_pos hc_2011).symm.trans h
                refine g_iinc (k := 8) (L' := [(7, .int (v7 + 1)), (8, .int (f_X4_get X 147 210 v7 v4)), (0, .ref (ad 146)), (1, .int v1), (2, .int v2), (3, .int v3), (4, .int v4), (5, .int v5), (6, .int v6)]) C dX2_firstCrowded_135 rfl (z_iinc (by decide)) (by decide) rfl ?_
                refine g_goto C dX2_firstCrowded_138 (tgt := 6) (by decide) ?_
                refine zG_sub (L' := [(0, .ref (ad 146)), (1, .int v1), (2, .int v2), (3, .int v3), (4, .int v4), (5, .int v5), (6, .int v6), (7, .int (v7 + 1))]) [2, 3, 4, 5, 6, 7, 8, 0] rfl ?_
                exact ih v6 (v7 + 1) h
              · replace h := (if_neg hc_2011).symm.trans h
                refine g_iconst (v := (nI 1)) C dX2_firstCrowded_66 (by decide) ?_
                refine g_istore (L' := [(9, .int (nI 1)), (8, .int (f_X4_get X 147 210 v7 v4)), (0, .ref (ad 146)), (1, .int v1), (2, .int v2), (3, .int v3), (4, .int v4), (5, .int v5), (6, .int v6), (7, .int v7)]) C dX2_firstCrowded_67 (by decide) rfl ?_
                refine g_iconst (v := (nI 0)) C dX2_firstCrowded_69 (by decide) ?_
                refine g_istore (L' := [(10, .int (nI 0)), (9, .int (nI 1)), (8, .int (f_X4_get X 147 210 v7 v4)), (0, .ref (ad 146)), (1, .int v1), (2, .int v2), (3, .int v3), (4, .int v4), (5, .int v5), (6, .int v6), (7, .int v7)]) C dX2_firstCrowded_70 (by decide) rfl ?_
                refine zG_sub (L' := [(0, .ref (ad 146)), (1, .int v1), (2, .int v2), (3, .int v3), (4, .int v4), (5, .int v5), (6, .int v6), (7, .int v7), (8, .int (f_X4_get X 147 210 v7 v4)), (9, .int (nI 1)), (10, .int (nI 0))]) [3, 4, 5, 6, 7, 8, 9, 10, 2, 1, 0] rfl ?_
                refine w_X2_firstCrowded_L72 l D cy ad E _ X v1 v2 v3 v4 v5 v6 v7 (f_X4_get X 147 210 v7 v4) C hr zFuel (nI 1) (nI 0) h ?_
                intro v9_2012 h
                refine g_iload (j := 9) C dX2_firstCrowded_125 rfl ?_
                refine g_iload_n (j := 3) C dX2_firstCrowded_127 rfl rfl ?_
                refine g_icmp_le C dX2_firstCrowded_128 (tgt := 135) (by decide) (fun hc_2013 => ?_) (fun hc_2013 => ?_)
                · replace h := (if_pos hc_2013).symm.trans h
                  refine g_iinc (k := 7) (L' := [(7, .int (v7 + 1)), (0, .ref (ad 146)), (1, .int v1), (2, .int v2), (3, .int v3), (4, .int v4), (5, .int v5), (6, .int v6), (8, .int (f_X4_get X 147 210 v7 v4)), (9, .int v9_2012)]) C dX2_firstCrowded_135 rfl (z_iinc (by decide)) (by decide) rfl ?_
                  refine g_goto C dX2_firstCrowded_138 (tgt := 6) (by decide) ?_
                  refine zG_sub (L' := [(0, .ref (ad 146)), (1, .int v1), (2, .int v2), (3, .int v3), (4, .int v4), (5, .int v5), (6, .int v6), (7, .int (v7 + 1))]) [1, 2, 3, 4, 5, 6, 7, 0] rfl ?_
                  exact ih v6 (v7 + 1) h
                · replace h := (if_neg hc_2013).symm.trans h
                  refine g_iload (j := 8) C dX2_firstCrowded_131 rfl ?_
                  refine g_istore (L' := [(6, .int (f_X4_get X 147 210 v7 v4)), (0, .ref (ad 146)), (1, .int v1), (2, .int v2), (3, .int v3), (4, .int v4), (5, .int v5), (7, .int v7), (8, .int (f_X4_get X 147 210 v7 v4)), (9, .int v9_2012)]) C dX2_firstCrowded_133 (by decide) rfl ?_
                  refine g_iinc (k := 7) (L' := [(7, .int (v7 + 1)), (6, .int (f_X4_get X 147 210 v7 v4)), (0, .ref (ad 146)), (1, .int v1), (2, .int v2), (3, .int v3), (4, .int v4), (5, .int v5), (8, .int (f_X4_get X 147 210 v7 v4)), (9, .int v9_2012)]) C dX2_firstCrowded_135 rfl (z_iinc (by decide)) (by decide) rfl ?_
                  refine g_goto C dX2_firstCrowded_138 (tgt := 6) (by decide) ?_
                  refine zG_sub (L' := [(0, .ref (ad 146)), (1, .int v1), (2, .int v2), (3, .int v3), (4, .int v4), (5, .int v5), (6, .int (f_X4_get X 147 210 v7 v4)), (7, .int (v7 + 1))]) [2, 3, 4, 5, 6, 7, 1, 0] rfl ?_
                  exact ih (f_X4_get X 147 210 v7 v4) (v7 + 1) h
      · replace h := (if_pos hc_1002).symm.trans h
        refine g_iload_n (j := 1) C dX2_firstCrowded_24 rfl rfl ?_
        refine g_goto C dX2_firstCrowded_25 (tgt := 39) (by decide) ?_
        refine g_istore (L' := [(8, .int v1), (0, .ref (ad 146)), (1, .int v1), (2, .int v2), (3, .int v3), (4, .int v4), (5, .int v5), (6, .int v6), (7, .int v7)]) C dX2_firstCrowded_39 (by decide) rfl ?_
        refine g_iload (j := 0) C dX2_firstCrowded_41 rfl ?_
        refine g_iload_n (j := 2) C dX2_firstCrowded_43 rfl rfl ?_
        refine g_icmp_lt C dX2_firstCrowded_44 (tgt := 135) (by decide) (fun hc_2014 => ?_) (fun hc_2014 => ?_)
        · replace h := (if_pos hc_2014).symm.trans h
          refine g_iinc (k := 8) (L' := [(7, .int (v7 + 1)), (8, .int v1), (0, .ref (ad 146)), (1, .int v1), (2, .int v2), (3, .int v3), (4, .int v4), (5, .int v5), (6, .int v6)]) C dX2_firstCrowded_135 rfl (z_iinc (by decide)) (by decide) rfl ?_
          refine g_goto C dX2_firstCrowded_138 (tgt := 6) (by decide) ?_
          refine zG_sub (L' := [(0, .ref (ad 146)), (1, .int v1), (2, .int v2), (3, .int v3), (4, .int v4), (5, .int v5), (6, .int v6), (7, .int (v7 + 1))]) [2, 3, 4, 5, 6, 7, 8, 0] rfl ?_
          exact ih v6 (v7 + 1) h
        · replace h := (if_neg hc_2014).symm.trans h
          refine g_iload (j := 0) C dX2_firstCrowded_47 rfl ?_
          refine g_iload_n (j := 3) C dX2_firstCrowded_49 rfl rfl ?_
          refine g_icmp_ge C dX2_firstCrowded_50 (tgt := 135) (by decide) (fun hc_2015 => ?_) (fun hc_2015 => ?_)
          · replace h := (if_pos hc_2015).symm.trans h
            refine g_iinc (k := 8) (L' := [(7, .int (v7 + 1)), (8, .int v1), (0, .ref (ad 146)), (1, .int v1), (2, .int v2), (3, .int v3), (4, .int v4), (5, .int v5), (6, .int v6)]) C dX2_firstCrowded_135 rfl (z_iinc (by decide)) (by decide) rfl ?_
            refine g_goto C dX2_firstCrowded_138 (tgt := 6) (by decide) ?_
            refine zG_sub (L' := [(0, .ref (ad 146)), (1, .int v1), (2, .int v2), (3, .int v3), (4, .int v4), (5, .int v5), (6, .int v6), (7, .int (v7 + 1))]) [2, 3, 4, 5, 6, 7, 8, 0] rfl ?_
            exact ih v6 (v7 + 1) h
          · replace h := (if_neg hc_2015).symm.trans h
            refine g_iload (j := 7) C dX2_firstCrowded_53 rfl ?_
            refine g_iconst (v := (-1 : Int32)) C dX2_firstCrowded_55 (by decide) ?_
            refine g_icmp_eq C dX2_firstCrowded_56 (tgt := 66) (by decide) (fun hc_2016 => ?_) (fun hc_2016 => ?_)
            · replace h := (if_pos hc_2016).symm.trans h
              refine g_iconst (v := (nI 1)) C dX2_firstCrowded_66 (by decide) ?_
              refine g_istore (L' := [(9, .int (nI 1)), (8, .int v1), (0, .ref (ad 146)), (1, .int v1), (2, .int v2), (3, .int v3), (4, .int v4), (5, .int v5), (6, .int v6), (7, .int v7)]) C dX2_firstCrowded_67 (by decide) rfl ?_
              refine g_iconst (v := (nI 0)) C dX2_firstCrowded_69 (by decide) ?_
              refine g_istore (L' := [(10, .int (nI 0)), (9, .int (nI 1)), (8, .int v1), (0, .ref (ad 146)), (1, .int v1), (2, .int v2), (3, .int v3), (4, .int v4), (5, .int v5), (6, .int v6), (7, .int v7)]) C dX2_firstCrowded_70 (by decide) rfl ?_
              refine zG_sub (L' := [(0, .ref (ad 146)), (1, .int v1), (2, .int v2), (3, .int v3), (4, .int v4), (5, .int v5), (6, .int v6), (7, .int v7), (8, .int v1), (9, .int (nI 1)), (10, .int (nI 0))]) [3, 4, 5, 6, 7, 8, 9, 10, 2, 1, 0] rfl ?_
              refine w_X2_firstCrowded_L72 l D cy ad E _ X v1 v2 v3 v4 v5 v6 v7 v1 C hr zFuel (nI 1) (nI 0) h ?_
              intro v9_2017 h
              refine g_iload (j := 9) C dX2_firstCrowded_125 rfl ?_
              refine g_iload_n (j := 3) C dX2_firstCrowded_127 rfl rfl ?_
              refine g_icmp_le C dX2_firstCrowded_128 (tgt := 135) (by decide) (fun hc_2018 => ?_) (fun hc_2018 => ?_)
              · replace h := (if_pos hc_2018).symm.trans h
                refine g_iinc (k := 7) (L' := [(7, .int (v7 + 1)), (0, .ref (ad 146)), (1, .int v1), (2, .int v2), (3, .int v3), (4, .int v4), (5, .int v5), (6, .int v6), (8, .int v1), (9, .int v9_2017)]) C dX2_firstCrowded_135 rfl (z_iinc (by decide)) (by decide) rfl ?_
                refine g_goto C dX2_firstCrowded_138 (tgt := 6) (by decide) ?_
                refine zG_sub (L' := [(0, .ref (ad 146)), (1, .int v1), (2, .int v2), (3, .int v3), (4, .int v4), (5, .int v5), (6, .int v6), (7, .int (v7 + 1))]) [1, 2, 3, 4, 5, 6, 7, 0] rfl ?_
                exact ih v6 (v7 + 1) h
              · replace h := (if_neg hc_2018).symm.trans h
                refine g_iload (j := 8) C dX2_firstCrowded_131 rfl ?_
                refine g_istore (L' := [(6, .int v1), (0, .ref (ad 146)), (1, .int v1), (2, .int v2), (3, .int v3), (4, .int v4), (5, .int v5), (7, .int v7), (8, .int v1), (9, .int v9_2017)]) C dX2_firstCrowded_133 (by decide) rfl ?_
                refine g_iinc (k := 7) (L' := [(7, .int (v7 + 1)), (6, .int v1), (0, .ref (ad 146)), (1, .int v1), (2, .int v2), (3, .int v3), (4, .int v4), (5, .int v5), (8, .int v1), (9, .int v9_2017)]) C dX2_firstCrowded_135 rfl (z_iinc (by decide)) (by decide) rfl ?_
                refine g_goto C dX2_firstCrowded_138 (tgt := 6) (by decide) ?_
                refine zG_sub (L' := [(0, .ref (ad 146)), (1, .int v1), (2, .int v2), (3, .int v3), (4, .int v4), (5, .int v5), (6, .int v1), (7, .int (v7 + 1))]) [2, 3, 4, 5, 6, 7, 1, 0] rfl ?_
                exact ih v1 (v7 + 1) h
            · replace h := (if_neg hc_2016).symm.trans h
              refine g_iload (j := 0) C dX2_firstCrowded_59 rfl ?_
              refine g_iload (j := 7) C dX2_firstCrowded_61 rfl ?_
              refine g_icmp_ge C dX2_firstCrowded_63 (tgt := 135) (by decide) (fun hc_2019 => ?_) (fun hc_2019 => ?_)
              · replace h := (if_pos hc_2019).symm.trans h
                refine g_iinc (k := 8) (L' := [(7, .int (v7 + 1)), (8, .int v1), (0, .ref (ad 146)), (1, .int v1), (2, .int v2), (3, .int v3), (4, .int v4), (5, .int v5), (6, .int v6)]) C dX2_firstCrowded_135 rfl (z_iinc (by decide)) (by decide) rfl ?_
                refine g_goto C dX2_firstCrowded_138 (tgt := 6) (by decide) ?_
                refine zG_sub (L' := [(0, .ref (ad 146)), (1, .int v1), (2, .int v2), (3, .int v3), (4, .int v4), (5, .int v5), (6, .int v6), (7, .int (v7 + 1))]) [2, 3, 4, 5, 6, 7, 8, 0] rfl ?_
                exact ih v6 (v7 + 1) h
              · replace h := (if_neg hc_2019).symm.trans h
                refine g_iconst (v := (nI 1)) C dX2_firstCrowded_66 (by decide) ?_
                refine g_istore (L' := [(9, .int (nI 1)), (8, .int v1), (0, .ref (ad 146)), (1, .int v1), (2, .int v2), (3, .int v3), (4, .int v4), (5, .int v5), (6, .int v6), (7, .int v7)]) C dX2_firstCrowded_67 (by decide) rfl ?_
                refine g_iconst (v := (nI 0)) C dX2_firstCrowded_69 (by decide) ?_
                refine g_istore (L' := [(10, .int (nI 0)), (9, .int (nI 1)), (8, .int v1), (0, .ref (ad 146)), (1, .int v1), (2, .int v2), (3, .int v3), (4, .int v4), (5, .int v5), (6, .int v6), (7, .int v7)]) C dX2_firstCrowded_70 (by decide) rfl ?_
                refine zG_sub (L' := [(0, .ref (ad 146)), (1, .int v1), (2, .int v2), (3, .int v3), (4, .int v4), (5, .int v5), (6, .int v6), (7, .int v7), (8, .int v1), (9, .int (nI 1)), (10, .int (nI 0))]) [3, 4, 5, 6, 7, 8, 9, 10, 2, 1, 0] rfl ?_
                refine w_X2_firstCrowded_L72 l D cy ad E _ X v1 v2 v3 v4 v5 v6 v7 v1 C hr zFuel (nI 1) (nI 0) h ?_
                intro v9_2020 h
                refine g_iload (j := 9) C dX2_firstCrowded_125 rfl ?_
                refine g_iload_n (j := 3) C dX2_firstCrowded_127 rfl rfl ?_
                refine g_icmp_le C dX2_firstCrowded_128 (tgt := 135) (by decide) (fun hc_2021 => ?_) (fun hc_2021 => ?_)
                · replace h := (if_pos hc_2021).symm.trans h
                  refine g_iinc (k := 7) (L' := [(7, .int (v7 + 1)), (0, .ref (ad 146)), (1, .int v1), (2, .int v2), (3, .int v3), (4, .int v4), (5, .int v5), (6, .int v6), (8, .int v1), (9, .int v9_2020)]) C dX2_firstCrowded_135 rfl (z_iinc (by decide)) (by decide) rfl ?_
                  refine g_goto C dX2_firstCrowded_138 (tgt := 6) (by decide) ?_
                  refine zG_sub (L' := [(0, .ref (ad 146)), (1, .int v1), (2, .int v2), (3, .int v3), (4, .int v4), (5, .int v5), (6, .int v6), (7, .int (v7 + 1))]) [1, 2, 3, 4, 5, 6, 7, 0] rfl ?_
                  exact ih v6 (v7 + 1) h
                · replace h := (if_neg hc_2021).symm.trans h
                  refine g_iload (j := 8) C dX2_firstCrowded_131 rfl ?_
                  refine g_istore (L' := [(6, .int v1), (0, .ref (ad 146)), (1, .int v1), (2, .int v2), (3, .int v3), (4, .int v4), (5, .int v5), (7, .int v7), (8, .int v1), (9, .int v9_2020)]) C dX2_firstCrowded_133 (by decide) rfl ?_
                  refine g_iinc (k := 7) (L' := [(7, .int (v7 + 1)), (6, .int v1), (0, .ref (ad 146)), (1, .int v1), (2, .int v2), (3, .int v3), (4, .int v4), (5, .int v5), (8, .int v1), (9, .int v9_2020)]) C dX2_firstCrowded_135 rfl (z_iinc (by decide)) (by decide) rfl ?_
                  refine g_goto C dX2_firstCrowded_138 (tgt := 6) (by decide) ?_
                  refine zG_sub (L' := [(0, .ref (ad 146)), (1, .int v1), (2, .int v2), (3, .int v3), (4, .int v4), (5, .int v5), (6, .int v1), (7, .int (v7 + 1))]) [2, 3, 4, 5, 6, 7, 1, 0] rfl ?_
                  exact ih v1 (v7 + 1) h
def f_X2_firstCrowded (X : Nat → Nat → Int32) (v1 v2 v3 v4 v5 : Int32) : Option Int32 := f_X2_firstCrowded_L6 X v1 v2 v3 v4 v5 zFuel (-1 : Int32) (-1 : Int32)
set_option maxRecDepth 100000 in
set_option maxHeartbeats 4000000 in
theorem c_X2_firstCrowded (l : Launch) (D : va_G) (cy : Nat → ClassId) (ad : Nat → Nat) (E : va_W) (X : Nat → Nat → Int32) (v1 v2 v3 v4 v5 : Int32) {res : Int32} (h : f_X2_firstCrowded X v1 v2 v3 v4 v5 = some res) : zMi l yX2_firstCrowded cX2_firstCrowded 11 (some .int) (zrm 2) D (zTy cy) (zW cy ad shC E X) [.ref (ad 146), .int v1, .int v2, .int v3, .int v4, .int v5] res (zW cy ad shC E X) := by
  refine zMi.of (by decide) (Nat.le_of_ble_eq_true rfl) ?_
  intro p e s m below meth c A C hr
  unfold f_X2_firstCrowded at h
  refine zG_L (L' := [(0, .ref (ad 146)), (1, .int v1), (2, .int v2), (3, .int v3), (4, .int v4), (5, .int v5)]) rfl ?_
  refine g_iconst (v := (-1 : Int32)) C dX2_firstCrowded_0 (by decide) ?_
  refine g_istore (L' := [(6, .int (-1 : Int32)), (0, .ref (ad 146)), (1, .int v1), (2, .int v2), (3, .int v3), (4, .int v4), (5, .int v5)]) C dX2_firstCrowded_1 (by decide) rfl ?_
  refine g_iconst (v := (-1 : Int32)) C dX2_firstCrowded_3 (by decide) ?_
  refine g_istore (L' := [(7, .int (-1 : Int32)), (6, .int (-1 : Int32)), (0, .ref (ad 146)), (1, .int v1), (2, .int v2), (3, .int v3), (4, .int v4), (5, .int v5)]) C dX2_firstCrowded_4 (by decide) rfl ?_
  refine zG_sub (L' := [(0, .ref (ad 146)), (1, .int v1), (2, .int v2), (3, .int v3), (4, .int v4), (5, .int v5), (6, .int (-1 : Int32)), (7, .int (-1 : Int32))]) [2, 3, 4, 5, 6, 7, 1, 0] rfl ?_
  exact w_X2_firstCrowded_L6 l D cy ad E X v1 v2 v3 v4 v5 C hr zFuel (-1 : Int32) (-1 : Int32) h
def f_X2_firstInTheWay_L3 (k : Int32 → Option Int32) (X : Nat → Nat → Int32) (v1 : Int32) (v2 : Int32) (v3 : Int32) : Nat → Int32 → Option Int32
  | 0, _ => none
  | fu + 1, v4 => (if (f_X4_size X 147 210) ≤ v4 then some (-1 : Int32) else (if v3 ≤ (f_X4_get X 147 210 v4 (nI 3)) then f_X2_firstInTheWay_L3 k X v1 v2 v3 fu (v4 + 1) else (if (f_X4_get X 147 210 v4 (nI 5)) ≤ v2 then f_X2_firstInTheWay_L3 k X v1 v2 v3 fu (v4 + 1) else (if (f_X4_get X 147 210 v4 (nI 1)) = v1 then k v4 else f_X2_firstInTheWay_L3 k X v1 v2 v3 fu (v4 + 1)))))
set_option maxRecDepth 100000 in
set_option maxHeartbeats 4000000 in
theorem w_X2_firstInTheWay_L3 {p : Program} {e : Env} {s : State} {m : MethodId} {args : Array Value} {below : List Frame} {meth : Method} {c : Code} {A : Nat → Prop} (l : Launch) (D : va_G) (cy : Nat → ClassId) (ad : Nat → Nat) (E : va_W) (k : Int32 → Option Int32) (X : Nat → Nat → Int32) (v1 : Int32) (v2 : Int32) (v3 : Int32) {res : Int32} (C : zC p s m args meth c cX2_firstInTheWay 6 RX2 D (zTy cy) A) (hr : meth.sig.returnType = (some .int)) : ∀ (fu : Nat) (v4 : Int32) (h : f_X2_firstInTheWay_L3 k X v1 v2 v3 fu v4 = some res) (hk : ∀ (v4 : Int32), k v4 = some res → zG p l e (zrm 2) s m args below meth c 6 D A 0 0 (MQ below (va_Qi (fun (r : Int32) (_ : Unit) => r = res) (fun _ t => zB D (zTy cy) A (zW cy ad shC E X) t) A) args s 0 0 A) (zW cy ad shC E X) 69 [(0, .ref (ad 146)), (4, .int v4)] []), zG p l e (zrm 2) s m args below meth c 6 D A 0 0 (MQ below (va_Qi (fun (r : Int32) (_ : Unit) => r = res) (fun _ t => zB D (zTy cy) A (zW cy ad shC E X) t) A) args s 0 0 A) (zW cy ad shC E X) 3 [(0, .ref (ad 146)), (1, .int v1), (2, .int v2), (3, .int v3), (4, .int v4)] [] := by
  intro fu
  induction fu with
  | zero => intro v4 h hk; simp [f_X2_firstInTheWay_L3] at h
  | succ fu ih =>
    intro v4 h hk
    rw [f_X2_firstInTheWay_L3] at h
    refine g_iload (j := 4) C dX2_firstInTheWay_3 rfl ?_
    refine g_aload_n (j := 0) C dX2_firstInTheWay_5 rfl rfl ?_
    refine g_getr (k := 0) (N := 4) C sC_146 rfl zin_RX2 (by decide) rfl zfl_RX2_16 rfl dX2_firstInTheWay_6 ?_
    refine g_vi (ws' := (zW cy ad shC E X)) (As := []) (rest := [.int v4]) (res := (f_X4_size X 147 210)) C (c_X4_size l D cy ad E X 147 210 sC_147 sC_148 (by decide)) zml_RX2_42 zcv_X4_size (zW_get X sC_147) rfl rfl rfl ⟨Nat.le_of_ble_eq_true rfl, Nat.le_of_ble_eq_true rfl⟩ rfl rfl (Nat.le_of_ble_eq_true rfl) ⟨Nat.zero_le _, Nat.zero_le _⟩ dX2_firstInTheWay_9 ?_
    refine g_icmp_ge C dX2_firstInTheWay_12 (tgt := 86) (by decide) (fun hc_1001 => ?_) (fun hc_1001 => ?_)
    · replace h := (if_pos hc_1001).symm.trans h
      refine g_iconst (v := (-1 : Int32)) C dX2_firstInTheWay_86 (by decide) ?_
      obtain rfl := Option.some.inj h
      exact g_iret rfl C hr rfl dX2_firstInTheWay_87
    · replace h := (if_neg hc_1001).symm.trans h
      refine g_aload_n (j := 0) C dX2_firstInTheWay_15 rfl rfl ?_
      refine g_getr (k := 0) (N := 4) C sC_146 rfl zin_RX2 (by decide) rfl zfl_RX2_16 rfl dX2_firstInTheWay_16 ?_
      refine g_iload (j := 4) C dX2_firstInTheWay_19 rfl ?_
      refine g_iconst (v := (nI 3)) C dX2_firstInTheWay_21 (by decide) ?_
      refine g_vi (ws' := (zW cy ad shC E X)) (As := [.int v4, .int (nI 3)]) (rest := []) (res := (f_X4_get X 147 210 v4 (nI 3))) C (c_X4_get l D cy ad E X 147 210 sC_147 sC_148 (by decide) v4 (nI 3)) zml_RX2_54 zcv_X4_get (zW_get X sC_147) rfl rfl rfl ⟨Nat.le_of_ble_eq_true rfl, Nat.le_of_ble_eq_true rfl⟩ rfl rfl (Nat.le_of_ble_eq_true rfl) ⟨Nat.zero_le _, Nat.zero_le _⟩ dX2_firstInTheWay_22 ?_
      refine g_iload_n (j := 3) C dX2_firstInTheWay_25 rfl rfl ?_
      refine g_icmp_ge C dX2_firstInTheWay_26 (tgt := 47) (by decide) (fun hc_1002 => ?_) (fun hc_1002 => ?_)
      · replace h := (if_pos hc_1002).symm.trans h
        refine g_iconst (v := (nI 0)) C dX2_firstInTheWay_47 (by decide) ?_
        refine g_istore (L' := [(5, .int (nI 0)), (0, .ref (ad 146)), (1, .int v1), (2, .int v2), (3, .int v3), (4, .int v4)]) C dX2_firstInTheWay_48 (by decide) rfl ?_
        refine g_iload (j := 0) C dX2_firstInTheWay_50 rfl ?_
        refine g_if_eq C dX2_firstInTheWay_52 (tgt := 80) (by decide) (fun _ => ?_) (fun h9 => absurd h9 (by decide))
        refine g_iinc (k := 5) (L' := [(4, .int (v4 + 1)), (5, .int (nI 0)), (0, .ref (ad 146)), (1, .int v1), (2, .int v2), (3, .int v3)]) C dX2_firstInTheWay_80 rfl (z_iinc (by decide)) (by decide) rfl ?_
        refine g_goto C dX2_firstInTheWay_83 (tgt := 3) (by decide) ?_
        refine zG_sub (L' := [(0, .ref (ad 146)), (1, .int v1), (2, .int v2), (3, .int v3), (4, .int (v4 + 1))]) [2, 3, 4, 5, 0] rfl ?_
        exact ih (v4 + 1) h hk
      · replace h := (if_neg hc_1002).symm.trans h
        refine g_iload_n (j := 2) C dX2_firstInTheWay_29 rfl rfl ?_
        refine g_aload_n (j := 0) C dX2_firstInTheWay_30 rfl rfl ?_
        refine g_getr (k := 0) (N := 4) C sC_146 rfl zin_RX2 (by decide) rfl zfl_RX2_16 rfl dX2_firstInTheWay_31 ?_
        refine g_iload (j := 4) C dX2_firstInTheWay_34 rfl ?_
        refine g_iconst (v := (nI 5)) C dX2_firstInTheWay_36 (by decide) ?_
        refine g_vi (ws' := (zW cy ad shC E X)) (As := [.int v4, .int (nI 5)]) (rest := [.int v2]) (res := (f_X4_get X 147 210 v4 (nI 5))) C (c_X4_get l D cy ad E X 147 210 sC_147 sC_148 (by decide) v4 (nI 5)) zml_RX2_54 zcv_X4_get (zW_get X sC_147) rfl rfl rfl ⟨Nat.le_of_ble_eq_true rfl, Nat.le_of_ble_eq_true rfl⟩ rfl rfl (Nat.le_of_ble_eq_true rfl) ⟨Nat.zero_le _, Nat.zero_le _⟩ dX2_firstInTheWay_37 ?_
        refine g_icmp_ge C dX2_firstInTheWay_40 (tgt := 47) (by decide) (fun hc_1003 => ?_) (fun hc_1003 => ?_)
        · replace h := (if_pos hc_1003).symm.trans h
          refine g_iconst (v := (nI 0)) C dX2_firstInTheWay_47 (by decide) ?_
          refine g_istore (L' := [(5, .int (nI 0)), (0, .ref (ad 146)), (1, .int v1), (2, .int v2), (3, .int v3), (4, .int v4)]) C dX2_firstInTheWay_48 (by decide) rfl ?_
          refine g_iload (j := 0) C dX2_firstInTheWay_50 rfl ?_
          refine g_if_eq C dX2_firstInTheWay_52 (tgt := 80) (by decide) (fun _ => ?_) (fun h9 => absurd h9 (by decide))
          refine g_iinc (k := 5) (L' := [(4, .int (v4 + 1)), (5, .int (nI 0)), (0, .ref (ad 146)), (1, .int v1), (2, .int v2), (3, .int v3)]) C dX2_firstInTheWay_80 rfl (z_iinc (by decide)) (by decide) rfl ?_
          refine g_goto C dX2_firstInTheWay_83 (tgt := 3) (by decide) ?_
          refine zG_sub (L' := [(0, .ref (ad 146)), (1, .int v1), (2, .int v2), (3, .int v3), (4, .int (v4 + 1))]) [2, 3, 4, 5, 0] rfl ?_
          exact ih (v4 + 1) h hk
        · replace h := (if_neg hc_1003).symm.trans h
          refine g_iconst (v := (nI 1)) C dX2_firstInTheWay_43 (by decide) ?_
          refine g_goto C dX2_firstInTheWay_44 (tgt := 48) (by decide) ?_
          refine g_istore (L' := [(5, .int (nI 1)), (0, .ref (ad 146)), (1, .int v1), (2, .int v2), (3, .int v3), (4, .int v4)]) C dX2_firstInTheWay_48 (by decide) rfl ?_
          refine g_iload (j := 0) C dX2_firstInTheWay_50 rfl ?_
          refine g_if_eq C dX2_firstInTheWay_52 (tgt := 80) (by decide) (fun h9 => absurd h9 (by decide)) (fun _ => ?_)
          refine g_aload_n (j := 1) C dX2_firstInTheWay_55 rfl rfl ?_
          refine g_getr (k := 0) (N := 4) C sC_146 rfl zin_RX2 (by decide) rfl zfl_RX2_16 rfl dX2_firstInTheWay_56 ?_
          refine g_iload (j := 5) C dX2_firstInTheWay_59 rfl ?_
          refine g_iconst (v := (nI 1)) C dX2_firstInTheWay_61 (by decide) ?_
          refine g_vi (ws' := (zW cy ad shC E X)) (As := [.int v4, .int (nI 1)]) (rest := []) (res := (f_X4_get X 147 210 v4 (nI 1))) C (c_X4_get l D cy ad E X 147 210 sC_147 sC_148 (by decide) v4 (nI 1)) zml_RX2_54 zcv_X4_get (zW_get X sC_147) rfl rfl rfl ⟨Nat.le_of_ble_eq_true rfl, Nat.le_of_ble_eq_true rfl⟩ rfl rfl (Nat.le_of_ble_eq_true rfl) ⟨Nat.zero_le _, Nat.zero_le _⟩ dX2_firstInTheWay_62 ?_
          refine g_iload_n (j := 2) C dX2_firstInTheWay_65 rfl rfl ?_
          refine g_icmp_ne C dX2_firstInTheWay_66 (tgt := 80) (by decide) (fun hc_1004 => ?_) (fun hc_1004 => ?_)
          · replace h := (if_neg hc_1004).symm.trans h
            refine g_iinc (k := 5) (L' := [(4, .int (v4 + 1)), (5, .int (nI 1)), (0, .ref (ad 146)), (1, .int v1), (2, .int v2), (3, .int v3)]) C dX2_firstInTheWay_80 rfl (z_iinc (by decide)) (by decide) rfl ?_
            refine g_goto C dX2_firstInTheWay_83 (tgt := 3) (by decide) ?_
            refine zG_sub (L' := [(0, .ref (ad 146)), (1, .int v1), (2, .int v2), (3, .int v3), (4, .int (v4 + 1))]) [2, 3, 4, 5, 0] rfl ?_
            exact ih (v4 + 1) h hk
          · replace h := (if_pos hc_1004).symm.trans h
            refine zG_sub (L' := [(0, .ref (ad 146)), (4, .int v4)]) [1, 5] rfl ?_
            exact hk v4 h
def f_X2_firstInTheWay (X : Nat → Nat → Int32) (v1 v2 v3 : Int32) : Option Int32 := f_X2_firstInTheWay_L3 (fun v4_1005 => some (f_X4_get X 147 210 v4_1005 (nI 0))) X v1 v2 v3 zFuel (nI 0)
set_option maxRecDepth 100000 in
set_option maxHeartbeats 4000000 in
theorem c_X2_firstInTheWay (l : Launch) (D : va_G) (cy : Nat → ClassId) (ad : Nat → Nat) (E : va_W) (X : Nat → Nat → Int32) (v1 v2 v3 : Int32) {res : Int32} (h : f_X2_firstInTheWay X v1 v2 v3 = some res) : zMi l yX2_firstInTheWay cX2_firstInTheWay 6 (some .int) (zrm 2) D (zTy cy) (zW cy ad shC E X) [.ref (ad 146), .int v1, .int v2, .int v3] res (zW cy ad shC E X) := by
  refine zMi.of (by decide) (Nat.le_of_ble_eq_true rfl) ?_
  intro p e s m below meth c A C hr
  unfold f_X2_firstInTheWay at h
  refine zG_L (L' := [(0, .ref (ad 146)), (1, .int v1), (2, .int v2), (3, .int v3)]) rfl ?_
  refine g_iconst (v := (nI 0)) C dX2_firstInTheWay_0 (by decide) ?_
  refine g_istore (L' := [(4, .int (nI 0)), (0, .ref (ad 146)), (1, .int v1), (2, .int v2), (3, .int v3)]) C dX2_firstInTheWay_1 (by decide) rfl ?_
  refine zG_sub (L' := [(0, .ref (ad 146)), (1, .int v1), (2, .int v2), (3, .int v3), (4, .int (nI 0))]) [1, 2, 3, 4, 0] rfl ?_
  refine w_X2_firstInTheWay_L3 l D cy ad E _ X v1 v2 v3 C hr zFuel (nI 0) h ?_
  intro v4_1005 h
  refine g_aload_n (j := 0) C dX2_firstInTheWay_69 rfl rfl ?_
  refine g_getr (k := 0) (N := 4) C sC_146 rfl zin_RX2 (by decide) rfl zfl_RX2_16 rfl dX2_firstInTheWay_70 ?_
  refine g_iload (j := 1) C dX2_firstInTheWay_73 rfl ?_
  refine g_iconst (v := (nI 0)) C dX2_firstInTheWay_75 (by decide) ?_
  refine g_vi (ws' := (zW cy ad shC E X)) (As := [.int v4_1005, .int (nI 0)]) (rest := []) (res := (f_X4_get X 147 210 v4_1005 (nI 0))) C (c_X4_get l D cy ad E X 147 210 sC_147 sC_148 (by decide) v4_1005 (nI 0)) zml_RX2_54 zcv_X4_get (zW_get X sC_147) rfl rfl rfl ⟨Nat.le_of_ble_eq_true rfl, Nat.le_of_ble_eq_true rfl⟩ rfl rfl (Nat.le_of_ble_eq_true rfl) ⟨Nat.zero_le _, Nat.zero_le _⟩ dX2_firstInTheWay_76 ?_
  obtain rfl := Option.some.inj h
  exact g_iret rfl C hr rfl dX2_firstInTheWay_79
def f_X2_firstBroken (X : Nat → Nat → Int32) (v2 v3 v4 : Int32) : Option (Int32 × (Nat → Nat → Int32)) := (if (X 1 6) ≤ (X 146 2) then (if (f_X3_isClosed X v2 (X 146 2)) = 0 then (if (f_X4_get X 4 96 (X 146 1) (nI 4)) ≤ (X 146 2) then (if (f_X4_get X 4 96 (X 146 1) (nI 1)) ≤ (f_X3_settingOf X ((nI 10) + (v3 / (nI 60)))) then (if v4 ≤ (nI 960) then ((f_X2_firstInTheWay X v2 v3 (v4 + (f_X4_get X 2 24 v2 (nI 1)))).bind fun q_6 => (if q_6 = (-1 : Int32) then ((f_X2_firstCrowded X v3 (v4 + (f_X3_settingOf X (nI 2))) (f_X4_get X 4 96 (X 146 1) (nI 3)) (nI 3) (nI 6)).bind fun q_9 => (if q_9 = (-1 : Int32) then ((f_X2_firstAtExit X (f_X4_get X 2 24 v2 (nI 2)) v4 (f_X3_settingOf X (nI 0))).bind fun q_12 => (if q_12 = (-1 : Int32) then ((f_X2_firstCrowded X v4 (v4 + (f_X4_get X 2 24 v2 (nI 1))) (f_X3_settingOf X (nI 1)) (nI 4) (nI 5)).bind fun q_15 => (if q_15 = (-1 : Int32) then (zlet (f_X2_broken X (nI 0) (-1 : Int32)) fun q_18 => some (q_18.1, q_18.2)) else (zlet (f_X2_broken X (nI 9) q_15) fun q_20 => some (q_20.1, q_20.2)))) else (zlet (f_X2_broken X (nI 8) q_12) fun q_22 => some (q_22.1, q_22.2)))) else (zlet (f_X2_broken X (nI 7) q_9) fun q_24 => some (q_24.1, q_24.2)))) else (zlet (f_X2_broken X (nI 6) q_6) fun q_26 => some (q_26.1, q_26.2)))) else (zlet (f_X2_broken X (nI 5) v4) fun q_28 => some (q_28.1, q_28.2))) else (zlet (f_X2_broken X (nI 4) (f_X3_settingOf X ((nI 10) + (v3 / (nI 60))))) fun q_30 => some (q_30.1, q_30.2))) else (zlet (f_X2_broken X (nI 3) (f_X4_get X 4 96 (X 146 1) (nI 4))) fun q_32 => some (q_32.1, q_32.2))) else (zlet (f_X2_broken X (nI 2) v2) fun q_34 => some (q_34.1, q_34.2))) else (zlet (f_X2_broken X (nI 1) (X 1 6)) fun q_36 => some (q_36.1, q_36.2)))
set_option maxRecDepth 100000 in
set_option maxHeartbeats 4000000 in
theorem c_X2_firstBroken (l : Launch) (D : va_G) (cy : Nat → ClassId) (ad : Nat → Nat) (E : va_W) (X : Nat → Nat → Int32) (v2 v3 v4 : Int32) {res : Int32 × (Nat → Nat → Int32)} (h : f_X2_firstBroken X v2 v3 v4 = some res) : zMi l yX2_firstBroken cX2_firstBroken 11 (some .int) (zrm 3) D (zTy cy) (zW cy ad shC E X) [.ref (ad 146), .ref (ad 1), .int v2, .int v3, .int v4] res.1 (zW cy ad shC E res.2) := by
  refine zMi.of (by decide) (Nat.le_of_ble_eq_true rfl) ?_
  intro p e s m below meth c A C hr
  unfold f_X2_firstBroken at h
  refine zG_L (L' := [(0, .ref (ad 146)), (1, .ref (ad 1)), (2, .int v2), (3, .int v3), (4, .int v4)]) rfl ?_
  refine g_aload_n (j := 1) C dX2_firstBroken_0 rfl rfl ?_
  refine g_getr (k := 1) (N := 8) C sC_1 rfl zin_RX3 (by decide) rfl zfl_RX2_68 rfl dX2_firstBroken_1 ?_
  refine g_aload_n (j := 0) C dX2_firstBroken_4 rfl rfl ?_
  refine g_geti (k := 1) (N := 4) C sC_146 rfl zin_RX2 (by decide) rfl zfl_RX2_20 rfl dX2_firstBroken_5 ?_
  refine g_iconst (v := (nI 4)) C dX2_firstBroken_8 (by decide) ?_
  refine g_vi (ws' := (zW cy ad shC E X)) (As := [.int (X 146 1), .int (nI 4)]) (rest := []) (res := (f_X4_get X 4 96 (X 146 1) (nI 4))) C (c_X4_get l D cy ad E X 4 96 sC_4 sC_5 (by decide) (X 146 1) (nI 4)) zml_RX2_54 zcv_X4_get (zW_get X sC_4) rfl rfl rfl ⟨Nat.le_of_ble_eq_true rfl, Nat.le_of_ble_eq_true rfl⟩ rfl rfl (Nat.le_of_ble_eq_true rfl) ⟨Nat.zero_le _, Nat.zero_le _⟩ dX2_firstBroken_9 ?_
  refine g_istore (L' := [(5, .int (f_X4_get X 4 96 (X 146 1) (nI 4))), (0, .ref (ad 146)), (1, .ref (ad 1)), (2, .int v2), (3, .int v3), (4, .int v4)]) C dX2_firstBroken_12 (by decide) rfl ?_
  refine g_aload_n (j := 2) C dX2_firstBroken_14 rfl rfl ?_
  refine g_bipush (v := (nI 10)) C dX2_firstBroken_15 (by decide) ?_
  refine g_iload_n (j := 4) C dX2_firstBroken_17 rfl rfl ?_
  refine g_bipush (v := (nI 60)) C dX2_firstBroken_18 (by decide) ?_
  refine g_idiv C dX2_firstBroken_20 (by decide) ?_
  refine g_iadd C dX2_firstBroken_21 ?_
  refine g_vi (ws' := (zW cy ad shC E X)) (As := [.int ((nI 10) + (v3 / (nI 60)))]) (rest := []) (res := (f_X3_settingOf X ((nI 10) + (v3 / (nI 60))))) C (c_X3_settingOf l D cy ad E X ((nI 10) + (v3 / (nI 60)))) zml_RX2_30 zcv_X3_settingOf (zW_get X sC_1) rfl rfl rfl ⟨Nat.le_of_ble_eq_true rfl, Nat.le_of_ble_eq_true rfl⟩ rfl rfl (Nat.le_of_ble_eq_true rfl) ⟨Nat.zero_le _, Nat.zero_le _⟩ dX2_firstBroken_22 ?_
  refine g_istore (L' := [(6, .int (f_X3_settingOf X ((nI 10) + (v3 / (nI 60))))), (5, .int (f_X4_get X 4 96 (X 146 1) (nI 4))), (0, .ref (ad 146)), (1, .ref (ad 1)), (2, .int v2), (3, .int v3), (4, .int v4)]) C dX2_firstBroken_25 (by decide) rfl ?_
  refine g_iload (j := 6) C dX2_firstBroken_27 rfl ?_
  refine g_aload_n (j := 3) C dX2_firstBroken_29 rfl rfl ?_
  refine g_getr (k := 0) (N := 8) C sC_1 rfl zin_RX3 (by decide) rfl zfl_RX2_65 rfl dX2_firstBroken_30 ?_
  refine g_iload_n (j := 4) C dX2_firstBroken_33 rfl rfl ?_
  refine g_iconst (v := (nI 1)) C dX2_firstBroken_34 (by decide) ?_
  refine g_vi (ws' := (zW cy ad shC E X)) (As := [.int v2, .int (nI 1)]) (rest := [.int v4]) (res := (f_X4_get X 2 24 v2 (nI 1))) C (c_X4_get l D cy ad E X 2 24 sC_2 sC_3 (by decide) v2 (nI 1)) zml_RX2_54 zcv_X4_get (zW_get X sC_2) rfl rfl rfl ⟨Nat.le_of_ble_eq_true rfl, Nat.le_of_ble_eq_true rfl⟩ rfl rfl (Nat.le_of_ble_eq_true rfl) ⟨Nat.zero_le _, Nat.zero_le _⟩ dX2_firstBroken_35 ?_
  refine g_iadd C dX2_firstBroken_38 ?_
  refine g_istore (L' := [(7, .int (v4 + (f_X4_get X 2 24 v2 (nI 1)))), (6, .int (f_X3_settingOf X ((nI 10) + (v3 / (nI 60))))), (5, .int (f_X4_get X 4 96 (X 146 1) (nI 4))), (0, .ref (ad 146)), (1, .ref (ad 1)), (2, .int v2), (3, .int v3), (4, .int v4)]) C dX2_firstBroken_39 (by decide) rfl ?_
  refine g_aload_n (j := 3) C dX2_firstBroken_41 rfl rfl ?_
  refine g_geti (k := 2) (N := 4) C sC_146 rfl zin_RX2 (by decide) rfl zfl_RX2_24 rfl dX2_firstBroken_42 ?_
  refine g_aload_n (j := 4) C dX2_firstBroken_45 rfl rfl ?_
  refine g_geti (k := 6) (N := 8) C sC_1 rfl zin_RX3 (by decide) rfl zfl_RX2_71 rfl dX2_firstBroken_46 ?_
  refine g_icmp_ge C dX2_firstBroken_49 (tgt := 62) (by decide) (fun hc_1 => ?_) (fun hc_1 => ?_)
  · replace h := (if_pos hc_1).symm.trans h
    refine g_aload_n (j := 4) C dX2_firstBroken_62 rfl rfl ?_
    refine g_iload_n (j := 5) C dX2_firstBroken_63 rfl rfl ?_
    refine g_aload_n (j := 3) C dX2_firstBroken_64 rfl rfl ?_
    refine g_geti (k := 2) (N := 4) C sC_146 rfl zin_RX2 (by decide) rfl zfl_RX2_24 rfl dX2_firstBroken_65 ?_
    refine g_vi (ws' := (zW cy ad shC E X)) (As := [.int v2, .int (X 146 2)]) (rest := []) (res := (f_X3_isClosed X v2 (X 146 2))) C (c_X3_isClosed l D cy ad E X v2 (X 146 2)) zml_RX2_77 zcv_X3_isClosed (zW_get X sC_1) rfl rfl rfl ⟨Nat.le_of_ble_eq_true rfl, Nat.le_of_ble_eq_true rfl⟩ rfl rfl (Nat.le_of_ble_eq_true rfl) ⟨Nat.zero_le _, Nat.zero_le _⟩ dX2_firstBroken_68 ?_
    refine g_if_eq C dX2_firstBroken_71 (tgt := 81) (by decide) (fun hc_2 => ?_) (fun hc_2 => ?_)
    · replace h := (if_pos hc_2).symm.trans h
      refine g_aload_n (j := 3) C dX2_firstBroken_81 rfl rfl ?_
      refine g_geti (k := 2) (N := 4) C sC_146 rfl zin_RX2 (by decide) rfl zfl_RX2_24 rfl dX2_firstBroken_82 ?_
      refine g_iload (j := 2) C dX2_firstBroken_85 rfl ?_
      refine g_icmp_ge C dX2_firstBroken_87 (tgt := 98) (by decide) (fun hc_3 => ?_) (fun hc_3 => ?_)
      · replace h := (if_pos hc_3).symm.trans h
        refine g_aload_n (j := 4) C dX2_firstBroken_98 rfl rfl ?_
        refine g_getr (k := 1) (N := 8) C sC_1 rfl zin_RX3 (by decide) rfl zfl_RX2_68 rfl dX2_firstBroken_99 ?_
        refine g_aload_n (j := 3) C dX2_firstBroken_102 rfl rfl ?_
        refine g_geti (k := 1) (N := 4) C sC_146 rfl zin_RX2 (by decide) rfl zfl_RX2_20 rfl dX2_firstBroken_103 ?_
        refine g_iconst (v := (nI 1)) C dX2_firstBroken_106 (by decide) ?_
        refine g_vi (ws' := (zW cy ad shC E X)) (As := [.int (X 146 1), .int (nI 1)]) (rest := []) (res := (f_X4_get X 4 96 (X 146 1) (nI 1))) C (c_X4_get l D cy ad E X 4 96 sC_4 sC_5 (by decide) (X 146 1) (nI 1)) zml_RX2_54 zcv_X4_get (zW_get X sC_4) rfl rfl rfl ⟨Nat.le_of_ble_eq_true rfl, Nat.le_of_ble_eq_true rfl⟩ rfl rfl (Nat.le_of_ble_eq_true rfl) ⟨Nat.zero_le _, Nat.zero_le _⟩ dX2_firstBroken_107 ?_
        refine g_iload (j := 1) C dX2_firstBroken_110 rfl ?_
        refine g_icmp_le C dX2_firstBroken_112 (tgt := 123) (by decide) (fun hc_4 => ?_) (fun hc_4 => ?_)
        · replace h := (if_pos hc_4).symm.trans h
          refine g_iload (j := 7) C dX2_firstBroken_123 rfl ?_
          refine g_sipush (v := (nI 960)) C dX2_firstBroken_125 (by decide) ?_
          refine g_icmp_le C dX2_firstBroken_128 (tgt := 139) (by decide) (fun hc_5 => ?_) (fun hc_5 => ?_)
          · replace h := (if_pos hc_5).symm.trans h
            refine g_aload_n (j := 3) C dX2_firstBroken_139 rfl rfl ?_
            refine g_iload_n (j := 5) C dX2_firstBroken_140 rfl rfl ?_
            refine g_iload_n (j := 6) C dX2_firstBroken_141 rfl rfl ?_
            refine g_iload (j := 0) C dX2_firstBroken_142 rfl ?_
            obtain ⟨q_6, hq_7, h⟩ := bind_isome h
            refine g_vi (ws' := (zW cy ad shC E X)) (As := [.int v2, .int v3, .int (v4 + (f_X4_get X 2 24 v2 (nI 1)))]) (rest := []) (res := q_6) C (c_X2_firstInTheWay l D cy ad E X v2 v3 (v4 + (f_X4_get X 2 24 v2 (nI 1))) hq_7) zml_RX2_80 zcv_X2_firstInTheWay (zW_get X sC_146) rfl rfl rfl ⟨Nat.le_of_ble_eq_true rfl, Nat.le_of_ble_eq_true rfl⟩ rfl rfl (Nat.le_of_ble_eq_true rfl) ⟨Nat.zero_le _, Nat.zero_le _⟩ dX2_firstBroken_144 ?_
            refine g_istore (L' := [(8, .int q_6), (7, .int (v4 + (f_X4_get X 2 24 v2 (nI 1)))), (6, .int (f_X3_settingOf X ((nI 10) + (v3 / (nI 60))))), (5, .int (f_X4_get X 4 96 (X 146 1) (nI 4))), (0, .ref (ad 146)), (1, .ref (ad 1)), (2, .int v2), (3, .int v3), (4, .int v4)]) C dX2_firstBroken_147 (by decide) rfl ?_
            refine g_iload (j := 0) C dX2_firstBroken_149 rfl ?_
            refine g_iconst (v := (-1 : Int32)) C dX2_firstBroken_151 (by decide) ?_
            refine g_icmp_eq C dX2_firstBroken_152 (tgt := 164) (by decide) (fun hc_8 => ?_) (fun hc_8 => ?_)
            · replace h := (if_pos hc_8).symm.trans h
              refine g_iload (j := 8) C dX2_firstBroken_164 rfl ?_
              refine g_aload_n (j := 5) C dX2_firstBroken_166 rfl rfl ?_
              refine g_iconst (v := (nI 2)) C dX2_firstBroken_167 (by decide) ?_
              refine g_vi (ws' := (zW cy ad shC E X)) (As := [.int (nI 2)]) (rest := [.int v4]) (res := (f_X3_settingOf X (nI 2))) C (c_X3_settingOf l D cy ad E X (nI 2)) zml_RX2_30 zcv_X3_settingOf (zW_get X sC_1) rfl rfl rfl ⟨Nat.le_of_ble_eq_true rfl, Nat.le_of_ble_eq_true rfl⟩ rfl rfl (Nat.le_of_ble_eq_true rfl) ⟨Nat.zero_le _, Nat.zero_le _⟩ dX2_firstBroken_168 ?_
              refine g_iadd C dX2_firstBroken_171 ?_
              refine g_istore (L' := [(9, .int (v4 + (f_X3_settingOf X (nI 2)))), (8, .int q_6), (7, .int (v4 + (f_X4_get X 2 24 v2 (nI 1)))), (6, .int (f_X3_settingOf X ((nI 10) + (v3 / (nI 60))))), (5, .int (f_X4_get X 4 96 (X 146 1) (nI 4))), (0, .ref (ad 146)), (1, .ref (ad 1)), (2, .int v2), (3, .int v3), (4, .int v4)]) C dX2_firstBroken_172 (by decide) rfl ?_
              refine g_aload_n (j := 5) C dX2_firstBroken_174 rfl rfl ?_
              refine g_iload_n (j := 8) C dX2_firstBroken_175 rfl rfl ?_
              refine g_iload (j := 0) C dX2_firstBroken_176 rfl ?_
              refine g_aload_n (j := 6) C dX2_firstBroken_178 rfl rfl ?_
              refine g_getr (k := 1) (N := 8) C sC_1 rfl zin_RX3 (by decide) rfl zfl_RX2_68 rfl dX2_firstBroken_179 ?_
              refine g_aload_n (j := 5) C dX2_firstBroken_182 rfl rfl ?_
              refine g_geti (k := 1) (N := 4) C sC_146 rfl zin_RX2 (by decide) rfl zfl_RX2_20 rfl dX2_firstBroken_183 ?_
              refine g_iconst (v := (nI 3)) C dX2_firstBroken_186 (by decide) ?_
              refine g_vi (ws' := (zW cy ad shC E X)) (As := [.int (X 146 1), .int (nI 3)]) (rest := [.int (v4 + (f_X3_settingOf X (nI 2))), .int v3, .ref (ad 146)]) (res := (f_X4_get X 4 96 (X 146 1) (nI 3))) C (c_X4_get l D cy ad E X 4 96 sC_4 sC_5 (by decide) (X 146 1) (nI 3)) zml_RX2_54 zcv_X4_get (zW_get X sC_4) rfl rfl rfl ⟨Nat.le_of_ble_eq_true rfl, Nat.le_of_ble_eq_true rfl⟩ rfl rfl (Nat.le_of_ble_eq_true rfl) ⟨Nat.zero_le _, Nat.zero_le _⟩ dX2_firstBroken_187 ?_
              refine g_iconst (v := (nI 3)) C dX2_firstBroken_190 (by decide) ?_
              refine g_bipush (v := (nI 6)) C dX2_firstBroken_191 (by decide) ?_
              obtain ⟨q_9, hq_10, h⟩ := bind_isome h
              refine g_vi (ws' := (zW cy ad shC E X)) (As := [.int v3, .int (v4 + (f_X3_settingOf X (nI 2))), .int (f_X4_get X 4 96 (X 146 1) (nI 3)), .int (nI 3), .int (nI 6)]) (rest := []) (res := q_9) C (c_X2_firstCrowded l D cy ad E X v3 (v4 + (f_X3_settingOf X (nI 2))) (f_X4_get X 4 96 (X 146 1) (nI 3)) (nI 3) (nI 6) hq_10) zml_RX2_84 zcv_X2_firstCrowded (zW_get X sC_146) rfl rfl rfl ⟨Nat.le_of_ble_eq_true rfl, Nat.le_of_ble_eq_true rfl⟩ rfl rfl (Nat.le_of_ble_eq_true rfl) ⟨Nat.zero_le _, Nat.zero_le _⟩ dX2_firstBroken_193 ?_
              refine g_istore (L' := [(10, .int q_9), (9, .int (v4 + (f_X3_settingOf X (nI 2)))), (8, .int q_6), (7, .int (v4 + (f_X4_get X 2 24 v2 (nI 1)))), (6, .int (f_X3_settingOf X ((nI 10) + (v3 / (nI 60))))), (5, .int (f_X4_get X 4 96 (X 146 1) (nI 4))), (0, .ref (ad 146)), (1, .ref (ad 1)), (2, .int v2), (3, .int v3), (4, .int v4)]) C dX2_firstBroken_196 (by decide) rfl ?_
              refine g_iload (j := 0) C dX2_firstBroken_198 rfl ?_
              refine g_iconst (v := (-1 : Int32)) C dX2_firstBroken_200 (by decide) ?_
              refine g_icmp_eq C dX2_firstBroken_201 (tgt := 213) (by decide) (fun hc_11 => ?_) (fun hc_11 => ?_)
              · replace h := (if_pos hc_11).symm.trans h
                refine g_aload_n (j := 6) C dX2_firstBroken_213 rfl rfl ?_
                refine g_aload_n (j := 7) C dX2_firstBroken_214 rfl rfl ?_
                refine g_getr (k := 0) (N := 8) C sC_1 rfl zin_RX3 (by decide) rfl zfl_RX2_65 rfl dX2_firstBroken_215 ?_
                refine g_iload_n (j := 8) C dX2_firstBroken_218 rfl rfl ?_
                refine g_iconst (v := (nI 2)) C dX2_firstBroken_219 (by decide) ?_
                refine g_vi (ws' := (zW cy ad shC E X)) (As := [.int v2, .int (nI 2)]) (rest := [.ref (ad 146)]) (res := (f_X4_get X 2 24 v2 (nI 2))) C (c_X4_get l D cy ad E X 2 24 sC_2 sC_3 (by decide) v2 (nI 2)) zml_RX2_54 zcv_X4_get (zW_get X sC_2) rfl rfl rfl ⟨Nat.le_of_ble_eq_true rfl, Nat.le_of_ble_eq_true rfl⟩ rfl rfl (Nat.le_of_ble_eq_true rfl) ⟨Nat.zero_le _, Nat.zero_le _⟩ dX2_firstBroken_220 ?_
                refine g_iload (j := 10) C dX2_firstBroken_223 rfl ?_
                refine g_aload_n (j := 7) C dX2_firstBroken_225 rfl rfl ?_
                refine g_iconst (v := (nI 0)) C dX2_firstBroken_226 (by decide) ?_
                refine g_vi (ws' := (zW cy ad shC E X)) (As := [.int (nI 0)]) (rest := [.int v4, .int (f_X4_get X 2 24 v2 (nI 2)), .ref (ad 146)]) (res := (f_X3_settingOf X (nI 0))) C (c_X3_settingOf l D cy ad E X (nI 0)) zml_RX2_30 zcv_X3_settingOf (zW_get X sC_1) rfl rfl rfl ⟨Nat.le_of_ble_eq_true rfl, Nat.le_of_ble_eq_true rfl⟩ rfl rfl (Nat.le_of_ble_eq_true rfl) ⟨Nat.zero_le _, Nat.zero_le _⟩ dX2_firstBroken_227 ?_
                obtain ⟨q_12, hq_13, h⟩ := bind_isome h
                refine g_vi (ws' := (zW cy ad shC E X)) (As := [.int (f_X4_get X 2 24 v2 (nI 2)), .int v4, .int (f_X3_settingOf X (nI 0))]) (rest := []) (res := q_12) C (c_X2_firstAtExit l D cy ad E X (f_X4_get X 2 24 v2 (nI 2)) v4 (f_X3_settingOf X (nI 0)) hq_13) zml_RX2_88 zcv_X2_firstAtExit (zW_get X sC_146) rfl rfl rfl ⟨Nat.le_of_ble_eq_true rfl, Nat.le_of_ble_eq_true rfl⟩ rfl rfl (Nat.le_of_ble_eq_true rfl) ⟨Nat.zero_le _, Nat.zero_le _⟩ dX2_firstBroken_230 ?_
                refine g_istore (L' := [(8, .int q_12), (10, .int q_9), (9, .int (v4 + (f_X3_settingOf X (nI 2)))), (7, .int (v4 + (f_X4_get X 2 24 v2 (nI 1)))), (6, .int (f_X3_settingOf X ((nI 10) + (v3 / (nI 60))))), (5, .int (f_X4_get X 4 96 (X 146 1) (nI 4))), (0, .ref (ad 146)), (1, .ref (ad 1)), (2, .int v2), (3, .int v3), (4, .int v4)]) C dX2_firstBroken_233 (by decide) rfl ?_
                refine g_iload (j := 0) C dX2_firstBroken_235 rfl ?_
                refine g_iconst (v := (-1 : Int32)) C dX2_firstBroken_237 (by decide) ?_
                refine g_icmp_eq C dX2_firstBroken_238 (tgt := 250) (by decide) (fun hc_14 => ?_) (fun hc_14 => ?_)
                · replace h := (if_pos hc_14).symm.trans h
                  refine g_aload_n (j := 6) C dX2_firstBroken_250 rfl rfl ?_
                  refine g_iload (j := 10) C dX2_firstBroken_251 rfl ?_
                  refine g_iload (j := 3) C dX2_firstBroken_253 rfl ?_
                  refine g_aload_n (j := 7) C dX2_firstBroken_255 rfl rfl ?_
                  refine g_iconst (v := (nI 1)) C dX2_firstBroken_256 (by decide) ?_
                  refine g_vi (ws' := (zW cy ad shC E X)) (As := [.int (nI 1)]) (rest := [.int (v4 + (f_X4_get X 2 24 v2 (nI 1))), .int v4, .ref (ad 146)]) (res := (f_X3_settingOf X (nI 1))) C (c_X3_settingOf l D cy ad E X (nI 1)) zml_RX2_30 zcv_X3_settingOf (zW_get X sC_1) rfl rfl rfl ⟨Nat.le_of_ble_eq_true rfl, Nat.le_of_ble_eq_true rfl⟩ rfl rfl (Nat.le_of_ble_eq_true rfl) ⟨Nat.zero_le _, Nat.zero_le _⟩ dX2_firstBroken_257 ?_
                  refine g_iconst (v := (nI 4)) C dX2_firstBroken_260 (by decide) ?_
                  refine g_iconst (v := (nI 5)) C dX2_firstBroken_261 (by decide) ?_
                  obtain ⟨q_15, hq_16, h⟩ := bind_isome h
                  refine g_vi (ws' := (zW cy ad shC E X)) (As := [.int v4, .int (v4 + (f_X4_get X 2 24 v2 (nI 1))), .int (f_X3_settingOf X (nI 1)), .int (nI 4), .int (nI 5)]) (rest := []) (res := q_15) C (c_X2_firstCrowded l D cy ad E X v4 (v4 + (f_X4_get X 2 24 v2 (nI 1))) (f_X3_settingOf X (nI 1)) (nI 4) (nI 5) hq_16) zml_RX2_84 zcv_X2_firstCrowded (zW_get X sC_146) rfl rfl rfl ⟨Nat.le_of_ble_eq_true rfl, Nat.le_of_ble_eq_true rfl⟩ rfl rfl (Nat.le_of_ble_eq_true rfl) ⟨Nat.zero_le _, Nat.zero_le _⟩ dX2_firstBroken_262 ?_
                  refine g_istore (L' := [(10, .int q_15), (8, .int q_12), (9, .int (v4 + (f_X3_settingOf X (nI 2)))), (7, .int (v4 + (f_X4_get X 2 24 v2 (nI 1)))), (6, .int (f_X3_settingOf X ((nI 10) + (v3 / (nI 60))))), (5, .int (f_X4_get X 4 96 (X 146 1) (nI 4))), (0, .ref (ad 146)), (1, .ref (ad 1)), (2, .int v2), (3, .int v3), (4, .int v4)]) C dX2_firstBroken_265 (by decide) rfl ?_
                  refine g_iload (j := 0) C dX2_firstBroken_267 rfl ?_
                  refine g_iconst (v := (-1 : Int32)) C dX2_firstBroken_269 (by decide) ?_
                  refine g_icmp_eq C dX2_firstBroken_270 (tgt := 284) (by decide) (fun hc_17 => ?_) (fun hc_17 => ?_)
                  · replace h := (if_pos hc_17).symm.trans h
                    refine g_aload_n (j := 6) C dX2_firstBroken_284 rfl rfl ?_
                    refine g_iconst (v := (nI 0)) C dX2_firstBroken_285 (by decide) ?_
                    refine g_iconst (v := (-1 : Int32)) C dX2_firstBroken_286 (by decide) ?_
                    obtain ⟨q_18, e_19, h⟩ := zlet_ex h
                    refine g_vi (ws' := (zW cy ad shC E q_18.2)) (As := [.int (nI 0), .int (-1 : Int32)]) (rest := []) (res := q_18.1) C ((by rw [e_19]; exact c_X2_broken l D cy ad E X (nI 0) (-1 : Int32))) zml_RX2_74 zcv_X2_broken (zW_get X sC_146) rfl rfl rfl ⟨Nat.le_of_ble_eq_true rfl, Nat.le_of_ble_eq_true rfl⟩ rfl rfl (Nat.le_of_ble_eq_true rfl) ⟨Nat.zero_le _, Nat.zero_le _⟩ dX2_firstBroken_287 ?_
                    obtain rfl := Option.some.inj h
                    exact g_iret rfl C hr rfl dX2_firstBroken_290
                  · replace h := (if_neg hc_17).symm.trans h
                    refine g_aload_n (j := 6) C dX2_firstBroken_273 rfl rfl ?_
                    refine g_bipush (v := (nI 9)) C dX2_firstBroken_274 (by decide) ?_
                    refine g_iload (j := 0) C dX2_firstBroken_276 rfl ?_
                    obtain ⟨q_20, e_21, h⟩ := zlet_ex h
                    refine g_vi (ws' := (zW cy ad shC E q_20.2)) (As := [.int (nI 9), .int q_15]) (rest := []) (res := q_20.1) C ((by rw [e_21]; exact c_X2_broken l D cy ad E X (nI 9) q_15)) zml_RX2_74 zcv_X2_broken (zW_get X sC_146) rfl rfl rfl ⟨Nat.le_of_ble_eq_true rfl, Nat.le_of_ble_eq_true rfl⟩ rfl rfl (Nat.le_of_ble_eq_true rfl) ⟨Nat.zero_le _, Nat.zero_le _⟩ dX2_firstBroken_278 ?_
                    refine g_goto C dX2_firstBroken_281 (tgt := 290) (by decide) ?_
                    obtain rfl := Option.some.inj h
                    exact g_iret rfl C hr rfl dX2_firstBroken_290
                · replace h := (if_neg hc_14).symm.trans h
                  refine g_aload_n (j := 6) C dX2_firstBroken_241 rfl rfl ?_
                  refine g_bipush (v := (nI 8)) C dX2_firstBroken_242 (by decide) ?_
                  refine g_iload (j := 0) C dX2_firstBroken_244 rfl ?_
                  obtain ⟨q_22, e_23, h⟩ := zlet_ex h
                  refine g_vi (ws' := (zW cy ad shC E q_22.2)) (As := [.int (nI 8), .int q_12]) (rest := []) (res := q_22.1) C ((by rw [e_23]; exact c_X2_broken l D cy ad E X (nI 8) q_12)) zml_RX2_74 zcv_X2_broken (zW_get X sC_146) rfl rfl rfl ⟨Nat.le_of_ble_eq_true rfl, Nat.le_of_ble_eq_true rfl⟩ rfl rfl (Nat.le_of_ble_eq_true rfl) ⟨Nat.zero_le _, Nat.zero_le _⟩ dX2_firstBroken_246 ?_
                  obtain rfl := Option.some.inj h
                  exact g_iret rfl C hr rfl dX2_firstBroken_249
              · replace h := (if_neg hc_11).symm.trans h
                refine g_aload_n (j := 6) C dX2_firstBroken_204 rfl rfl ?_
                refine g_bipush (v := (nI 7)) C dX2_firstBroken_205 (by decide) ?_
                refine g_iload (j := 0) C dX2_firstBroken_207 rfl ?_
                obtain ⟨q_24, e_25, h⟩ := zlet_ex h
                refine g_vi (ws' := (zW cy ad shC E q_24.2)) (As := [.int (nI 7), .int q_9]) (rest := []) (res := q_24.1) C ((by rw [e_25]; exact c_X2_broken l D cy ad E X (nI 7) q_9)) zml_RX2_74 zcv_X2_broken (zW_get X sC_146) rfl rfl rfl ⟨Nat.le_of_ble_eq_true rfl, Nat.le_of_ble_eq_true rfl⟩ rfl rfl (Nat.le_of_ble_eq_true rfl) ⟨Nat.zero_le _, Nat.zero_le _⟩ dX2_firstBroken_209 ?_
                obtain rfl := Option.some.inj h
                exact g_iret rfl C hr rfl dX2_firstBroken_212
            · replace h := (if_neg hc_8).symm.trans h
              refine g_aload_n (j := 4) C dX2_firstBroken_155 rfl rfl ?_
              refine g_bipush (v := (nI 6)) C dX2_firstBroken_156 (by decide) ?_
              refine g_iload (j := 0) C dX2_firstBroken_158 rfl ?_
              obtain ⟨q_26, e_27, h⟩ := zlet_ex h
              refine g_vi (ws' := (zW cy ad shC E q_26.2)) (As := [.int (nI 6), .int q_6]) (rest := []) (res := q_26.1) C ((by rw [e_27]; exact c_X2_broken l D cy ad E X (nI 6) q_6)) zml_RX2_74 zcv_X2_broken (zW_get X sC_146) rfl rfl rfl ⟨Nat.le_of_ble_eq_true rfl, Nat.le_of_ble_eq_true rfl⟩ rfl rfl (Nat.le_of_ble_eq_true rfl) ⟨Nat.zero_le _, Nat.zero_le _⟩ dX2_firstBroken_160 ?_
              obtain rfl := Option.some.inj h
              exact g_iret rfl C hr rfl dX2_firstBroken_163
          · replace h := (if_neg hc_5).symm.trans h
            refine g_aload_n (j := 3) C dX2_firstBroken_131 rfl rfl ?_
            refine g_iconst (v := (nI 5)) C dX2_firstBroken_132 (by decide) ?_
            refine g_iload (j := 7) C dX2_firstBroken_133 rfl ?_
            obtain ⟨q_28, e_29, h⟩ := zlet_ex h
            refine g_vi (ws' := (zW cy ad shC E q_28.2)) (As := [.int (nI 5), .int v4]) (rest := []) (res := q_28.1) C ((by rw [e_29]; exact c_X2_broken l D cy ad E X (nI 5) v4)) zml_RX2_74 zcv_X2_broken (zW_get X sC_146) rfl rfl rfl ⟨Nat.le_of_ble_eq_true rfl, Nat.le_of_ble_eq_true rfl⟩ rfl rfl (Nat.le_of_ble_eq_true rfl) ⟨Nat.zero_le _, Nat.zero_le _⟩ dX2_firstBroken_135 ?_
            obtain rfl := Option.some.inj h
            exact g_iret rfl C hr rfl dX2_firstBroken_138
        · replace h := (if_neg hc_4).symm.trans h
          refine g_aload_n (j := 3) C dX2_firstBroken_115 rfl rfl ?_
          refine g_iconst (v := (nI 4)) C dX2_firstBroken_116 (by decide) ?_
          refine g_iload (j := 1) C dX2_firstBroken_117 rfl ?_
          obtain ⟨q_30, e_31, h⟩ := zlet_ex h
          refine g_vi (ws' := (zW cy ad shC E q_30.2)) (As := [.int (nI 4), .int (f_X3_settingOf X ((nI 10) + (v3 / (nI 60))))]) (rest := []) (res := q_30.1) C ((by rw [e_31]; exact c_X2_broken l D cy ad E X (nI 4) (f_X3_settingOf X ((nI 10) + (v3 / (nI 60)))))) zml_RX2_74 zcv_X2_broken (zW_get X sC_146) rfl rfl rfl ⟨Nat.le_of_ble_eq_true rfl, Nat.le_of_ble_eq_true rfl⟩ rfl rfl (Nat.le_of_ble_eq_true rfl) ⟨Nat.zero_le _, Nat.zero_le _⟩ dX2_firstBroken_119 ?_
          obtain rfl := Option.some.inj h
          exact g_iret rfl C hr rfl dX2_firstBroken_122
      · replace h := (if_neg hc_3).symm.trans h
        refine g_aload_n (j := 3) C dX2_firstBroken_90 rfl rfl ?_
        refine g_iconst (v := (nI 3)) C dX2_firstBroken_91 (by decide) ?_
        refine g_iload (j := 2) C dX2_firstBroken_92 rfl ?_
        obtain ⟨q_32, e_33, h⟩ := zlet_ex h
        refine g_vi (ws' := (zW cy ad shC E q_32.2)) (As := [.int (nI 3), .int (f_X4_get X 4 96 (X 146 1) (nI 4))]) (rest := []) (res := q_32.1) C ((by rw [e_33]; exact c_X2_broken l D cy ad E X (nI 3) (f_X4_get X 4 96 (X 146 1) (nI 4)))) zml_RX2_74 zcv_X2_broken (zW_get X sC_146) rfl rfl rfl ⟨Nat.le_of_ble_eq_true rfl, Nat.le_of_ble_eq_true rfl⟩ rfl rfl (Nat.le_of_ble_eq_true rfl) ⟨Nat.zero_le _, Nat.zero_le _⟩ dX2_firstBroken_94 ?_
        obtain rfl := Option.some.inj h
        exact g_iret rfl C hr rfl dX2_firstBroken_97
    · replace h := (if_neg hc_2).symm.trans h
      refine g_aload_n (j := 3) C dX2_firstBroken_74 rfl rfl ?_
      refine g_iconst (v := (nI 2)) C dX2_firstBroken_75 (by decide) ?_
      refine g_iload_n (j := 5) C dX2_firstBroken_76 rfl rfl ?_
      obtain ⟨q_34, e_35, h⟩ := zlet_ex h
      refine g_vi (ws' := (zW cy ad shC E q_34.2)) (As := [.int (nI 2), .int v2]) (rest := []) (res := q_34.1) C ((by rw [e_35]; exact c_X2_broken l D cy ad E X (nI 2) v2)) zml_RX2_74 zcv_X2_broken (zW_get X sC_146) rfl rfl rfl ⟨Nat.le_of_ble_eq_true rfl, Nat.le_of_ble_eq_true rfl⟩ rfl rfl (Nat.le_of_ble_eq_true rfl) ⟨Nat.zero_le _, Nat.zero_le _⟩ dX2_firstBroken_77 ?_
      obtain rfl := Option.some.inj h
      exact g_iret rfl C hr rfl dX2_firstBroken_80
  · replace h := (if_neg hc_1).symm.trans h
    refine g_aload_n (j := 3) C dX2_firstBroken_52 rfl rfl ?_
    refine g_iconst (v := (nI 1)) C dX2_firstBroken_53 (by decide) ?_
    refine g_aload_n (j := 4) C dX2_firstBroken_54 rfl rfl ?_
    refine g_geti (k := 6) (N := 8) C sC_1 rfl zin_RX3 (by decide) rfl zfl_RX2_71 rfl dX2_firstBroken_55 ?_
    obtain ⟨q_36, e_37, h⟩ := zlet_ex h
    refine g_vi (ws' := (zW cy ad shC E q_36.2)) (As := [.int (nI 1), .int (X 1 6)]) (rest := []) (res := q_36.1) C ((by rw [e_37]; exact c_X2_broken l D cy ad E X (nI 1) (X 1 6))) zml_RX2_74 zcv_X2_broken (zW_get X sC_146) rfl rfl rfl ⟨Nat.le_of_ble_eq_true rfl, Nat.le_of_ble_eq_true rfl⟩ rfl rfl (Nat.le_of_ble_eq_true rfl) ⟨Nat.zero_le _, Nat.zero_le _⟩ dX2_firstBroken_58 ?_
    obtain rfl := Option.some.inj h
    exact g_iret rfl C hr rfl dX2_firstBroken_61
def f_X0_countSpare (X : Nat → Nat → Int32) : (Nat → Nat → Int32) := (if (nI 9) ≤ ((X 27 1) + (nI 1)) then (zlet (zU X 27 1 (nI 0)) fun X_2 => (zlet (zU X_2 27 2 (if (nI 8) < ((X_2 27 2) + (nI 1)) then (nI 8) else ((X_2 27 2) + (nI 1)))) fun X_4 => X_4)) else (zlet (zU X 27 1 ((X 27 1) + (nI 1))) fun X_6 => (zlet (zU X_6 27 2 (if (nI 8) < ((X_6 27 2) + (nI 1)) then (nI 8) else ((X_6 27 2) + (nI 1)))) fun X_8 => X_8)))
set_option maxRecDepth 100000 in
set_option maxHeartbeats 4000000 in
theorem c_X0_countSpare (l : Launch) (D : va_G) (cy : Nat → ClassId) (ad : Nat → Nat) (E : va_W) (X : Nat → Nat → Int32) : zMv l yX0_countSpare cX0_countSpare 1 none (zrm 1) D (zTy cy) (zW cy ad shC E X) [.ref (ad 27)] (zW cy ad shC E (f_X0_countSpare X)) := by
  refine zMv.of (by decide) (Nat.le_of_ble_eq_true rfl) ?_
  intro p e s m below meth c A C hr
  generalize h : f_X0_countSpare X = res
  unfold f_X0_countSpare at h
  refine zG_L (L' := [(0, .ref (ad 27))]) rfl ?_
  refine g_aload_n (j := 0) C dX0_countSpare_0 rfl rfl ?_
  refine g_aload_n (j := 0) C dX0_countSpare_1 rfl rfl ?_
  refine g_geti (k := 1) (N := 3) C sC_27 rfl zin_RX0 (by decide) rfl zfl_RX0_17 rfl dX0_countSpare_2 ?_
  refine g_iconst (v := (nI 1)) C dX0_countSpare_5 (by decide) ?_
  refine g_iadd C dX0_countSpare_6 ?_
  refine g_aload_n (j := 0) C dX0_countSpare_7 rfl rfl ?_
  refine g_getr (k := 0) (N := 3) C sC_27 rfl zin_RX0 (by decide) rfl zfl_RX0_11 rfl dX0_countSpare_8 ?_
  refine g_alenq (n := 9) C rfl sC_28 rfl dX0_countSpare_11 ?_
  refine g_icmp_ge C dX0_countSpare_12 (tgt := 24) (by decide) (fun hc_1 => ?_) (fun hc_1 => ?_)
  · replace h := (if_pos hc_1).symm.trans h
    refine g_iconst (v := (nI 0)) C dX0_countSpare_24 (by decide) ?_
    refine g_puti (k := 1) (N := 3) (ty := .int) C sC_27 rfl zin_RX0 (by decide) rfl zfl_RX0_17 rfl tyX0_ok nmX0 rfl (by decide +kernel) rfl rfl dX0_countSpare_25 ?_
    obtain ⟨X_2, e_3, h⟩ := zlet_ex h
    rw [← e_3]
    refine g_aload_n (j := 0) C dX0_countSpare_28 rfl rfl ?_
    refine g_aload_n (j := 0) C dX0_countSpare_29 rfl rfl ?_
    refine g_geti (k := 2) (N := 3) C sC_27 rfl zin_RX0 (by decide) rfl zfl_RX0_21 rfl dX0_countSpare_30 ?_
    refine g_iconst (v := (nI 1)) C dX0_countSpare_33 (by decide) ?_
    refine g_iadd C dX0_countSpare_34 ?_
    refine g_bipush (v := (nI 8)) C dX0_countSpare_35 (by decide) ?_
    refine g_mmin C zml_RX0_35 (Nat.le_of_ble_eq_true rfl) (Nat.le_of_ble_eq_true rfl) (Nat.le_of_ble_eq_true rfl) (Nat.le_of_ble_eq_true rfl) dX0_countSpare_37 ?_
    refine g_puti (k := 2) (N := 3) (ty := .int) C sC_27 rfl zin_RX0 (by decide) rfl zfl_RX0_21 rfl tyX0_ok nmX0 rfl (by decide +kernel) rfl rfl dX0_countSpare_40 ?_
    obtain ⟨X_4, e_5, h⟩ := zlet_ex h
    rw [← e_5]
    subst h
    exact g_vret rfl C hr dX0_countSpare_43
  · replace h := (if_neg hc_1).symm.trans h
    refine g_aload_n (j := 0) C dX0_countSpare_15 rfl rfl ?_
    refine g_geti (k := 1) (N := 3) C sC_27 rfl zin_RX0 (by decide) rfl zfl_RX0_17 rfl dX0_countSpare_16 ?_
    refine g_iconst (v := (nI 1)) C dX0_countSpare_19 (by decide) ?_
    refine g_iadd C dX0_countSpare_20 ?_
    refine g_goto C dX0_countSpare_21 (tgt := 25) (by decide) ?_
    refine g_puti (k := 1) (N := 3) (ty := .int) C sC_27 rfl zin_RX0 (by decide) rfl zfl_RX0_17 rfl tyX0_ok nmX0 rfl (by decide +kernel) rfl rfl dX0_countSpare_25 ?_
    obtain ⟨X_6, e_7, h⟩ := zlet_ex h
    rw [← e_7]
    refine g_aload_n (j := 0) C dX0_countSpare_28 rfl rfl ?_
    refine g_aload_n (j := 0) C dX0_countSpare_29 rfl rfl ?_
    refine g_geti (k := 2) (N := 3) C sC_27 rfl zin_RX0 (by decide) rfl zfl_RX0_21 rfl dX0_countSpare_30 ?_
    refine g_iconst (v := (nI 1)) C dX0_countSpare_33 (by decide) ?_
    refine g_iadd C dX0_countSpare_34 ?_
    refine g_bipush (v := (nI 8)) C dX0_countSpare_35 (by decide) ?_
    refine g_mmin C zml_RX0_35 (Nat.le_of_ble_eq_true rfl) (Nat.le_of_ble_eq_true rfl) (Nat.le_of_ble_eq_true rfl) (Nat.le_of_ble_eq_true rfl) dX0_countSpare_37 ?_
    refine g_puti (k := 2) (N := 3) (ty := .int) C sC_27 rfl zin_RX0 (by decide) rfl zfl_RX0_21 rfl tyX0_ok nmX0 rfl (by decide +kernel) rfl rfl dX0_countSpare_40 ?_
    obtain ⟨X_8, e_9, h⟩ := zlet_ex h
    rw [← e_9]
    subst h
    exact g_vret rfl C hr dX0_countSpare_43
def f_X0_keepSpare (X : Nat → Nat → Int32) : (Nat → Nat → Int32) := (if (X 27 1) < 0 then X else (if (nI 9) ≤ (X 27 1) then X else (zlet (f_X3_copyFrom X (29 + 13 * (X 27 1).toNatClampNeg) 1) fun X_3 => X_3)))
set_option maxRecDepth 100000 in
set_option maxHeartbeats 4000000 in
theorem c_X0_keepSpare (l : Launch) (D : va_G) (cy : Nat → ClassId) (ad : Nat → Nat) (E : va_W) (X : Nat → Nat → Int32) : zMv l yX0_keepSpare cX0_keepSpare 3 none (zrm 3) D (zTy cy) (zW cy ad shC E X) [.ref (ad 27), .ref (ad 1)] (zW cy ad shC E (f_X0_keepSpare X)) := by
  refine zMv.of (by decide) (Nat.le_of_ble_eq_true rfl) ?_
  intro p e s m below meth c A C hr
  generalize h : f_X0_keepSpare X = res
  unfold f_X0_keepSpare at h
  refine zG_L (L' := [(0, .ref (ad 27)), (1, .ref (ad 1))]) rfl ?_
  refine g_aload_n (j := 0) C dX0_keepSpare_0 rfl rfl ?_
  refine g_geti (k := 1) (N := 3) C sC_27 rfl zin_RX0 (by decide) rfl zfl_RX0_17 rfl dX0_keepSpare_1 ?_
  refine g_if_lt C dX0_keepSpare_4 (tgt := 31) (by decide) (fun hc_1 => ?_) (fun hc_1 => ?_)
  · replace h := (if_pos hc_1).symm.trans h
    refine g_null C dX0_keepSpare_31 ?_
    refine g_astore_nN (L' := [(2, .null), (0, .ref (ad 27)), (1, .ref (ad 1))]) C dX0_keepSpare_32 rfl (by decide) rfl ?_
    refine g_aload_nN (j := 0) C dX0_keepSpare_33 rfl rfl ?_
    refine g_ifnullN C dX0_keepSpare_34 (tgt := 42) (by decide) ?_
    subst h
    exact g_vret rfl C hr dX0_keepSpare_42
  · replace h := (if_neg hc_1).symm.trans h
    refine g_aload_n (j := 0) C dX0_keepSpare_7 rfl rfl ?_
    refine g_geti (k := 1) (N := 3) C sC_27 rfl zin_RX0 (by decide) rfl zfl_RX0_17 rfl dX0_keepSpare_8 ?_
    refine g_aload_n (j := 0) C dX0_keepSpare_11 rfl rfl ?_
    refine g_getr (k := 0) (N := 3) C sC_27 rfl zin_RX0 (by decide) rfl zfl_RX0_11 rfl dX0_keepSpare_12 ?_
    refine g_alenq (n := 9) C rfl sC_28 rfl dX0_keepSpare_15 ?_
    refine g_icmp_ge C dX0_keepSpare_16 (tgt := 31) (by decide) (fun hc_2 => ?_) (fun hc_2 => ?_)
    · replace h := (if_pos hc_2).symm.trans h
      refine g_null C dX0_keepSpare_31 ?_
      refine g_astore_nN (L' := [(2, .null), (0, .ref (ad 27)), (1, .ref (ad 1))]) C dX0_keepSpare_32 rfl (by decide) rfl ?_
      refine g_aload_nN (j := 0) C dX0_keepSpare_33 rfl rfl ?_
      refine g_ifnullN C dX0_keepSpare_34 (tgt := 42) (by decide) ?_
      subst h
      exact g_vret rfl C hr dX0_keepSpare_42
    · replace h := (if_neg hc_2).symm.trans h
      refine g_aload_n (j := 0) C dX0_keepSpare_19 rfl rfl ?_
      refine g_getr (k := 0) (N := 3) C sC_27 rfl zin_RX0 (by decide) rfl zfl_RX0_11 rfl dX0_keepSpare_20 ?_
      refine g_aload_n (j := 0) C dX0_keepSpare_23 rfl rfl ?_
      refine g_geti (k := 1) (N := 3) C sC_27 rfl zin_RX0 (by decide) rfl zfl_RX0_17 rfl dX0_keepSpare_24 ?_
      refine g_aaldq (r2 := (29 + 13 * (X 27 1).toNatClampNeg)) C sC_28 (z_in (by decide) hc_1 hc_2) (z_slot (z_in (by decide) hc_1 hc_2)) dX0_keepSpare_27 ?_
      refine g_goto C dX0_keepSpare_28 (tgt := 32) (by decide) ?_
      refine g_astore_n (L' := [(2, .ref (ad (29 + 13 * (X 27 1).toNatClampNeg))), (0, .ref (ad 27)), (1, .ref (ad 1))]) C dX0_keepSpare_32 rfl (by decide) rfl ?_
      refine g_aload_n (j := 0) C dX0_keepSpare_33 rfl rfl ?_
      refine g_ifnull C dX0_keepSpare_34 ?_
      refine g_aload_n (j := 0) C dX0_keepSpare_37 rfl rfl ?_
      refine g_aload_n (j := 2) C dX0_keepSpare_38 rfl rfl ?_
      obtain ⟨X_3, e_4, h⟩ := zlet_ex h
      refine g_vv (ws' := (zW cy ad shC E X_3)) (As := [.ref (ad 1)]) (rest := []) C ((by rw [e_4]; exact c_X3_copyFrom l D cy ad E X (29 + 13 * (X 27 1).toNatClampNeg) 1 (zSt_slot (z_in (by decide) hc_1 hc_2)) zSt_b1)) zml_RX0_32 zcv_X3_copyFrom (zW_get X (zSt_0 (zSt_slot (z_in (by decide) hc_1 hc_2)))) rfl rfl rfl ⟨Nat.le_of_ble_eq_true rfl, Nat.le_of_ble_eq_true rfl⟩ rfl rfl (Nat.le_of_ble_eq_true rfl) ⟨Nat.zero_le _, Nat.zero_le _⟩ dX0_keepSpare_39 ?_
      subst h
      exact g_vret rfl C hr dX0_keepSpare_42
def f_X0_keep (X : Nat → Nat → Int32) : (Nat → Nat → Int32) := (zlet (f_X0_keepSpare X) fun X_1 => (zlet (f_X0_countSpare X_1) fun X_3 => X_3))
set_option maxRecDepth 100000 in
set_option maxHeartbeats 4000000 in
theorem c_X0_keep (l : Launch) (D : va_G) (cy : Nat → ClassId) (ad : Nat → Nat) (E : va_W) (X : Nat → Nat → Int32) : zMv l yX0_keep cX0_keep 2 none (zrm 4) D (zTy cy) (zW cy ad shC E X) [.ref (ad 27), .ref (ad 1)] (zW cy ad shC E (f_X0_keep X)) := by
  refine zMv.of (by decide) (Nat.le_of_ble_eq_true rfl) ?_
  intro p e s m below meth c A C hr
  generalize h : f_X0_keep X = res
  unfold f_X0_keep at h
  refine zG_L (L' := [(0, .ref (ad 27)), (1, .ref (ad 1))]) rfl ?_
  refine g_aload_n (j := 0) C dX0_keep_0 rfl rfl ?_
  refine g_aload_n (j := 1) C dX0_keep_1 rfl rfl ?_
  obtain ⟨X_1, e_2, h⟩ := zlet_ex h
  refine g_vv (ws' := (zW cy ad shC E X_1)) (As := [.ref (ad 1)]) (rest := []) C ((by rw [e_2]; exact c_X0_keepSpare l D cy ad E X)) zml_RX0_25 zcv_X0_keepSpare (zW_get X sC_27) rfl rfl rfl ⟨Nat.le_of_ble_eq_true rfl, Nat.le_of_ble_eq_true rfl⟩ rfl rfl (Nat.le_of_ble_eq_true rfl) ⟨Nat.zero_le _, Nat.zero_le _⟩ dX0_keep_2 ?_
  refine g_aload_n (j := 0) C dX0_keep_5 rfl rfl ?_
  obtain ⟨X_3, e_4, h⟩ := zlet_ex h
  refine g_vv (ws' := (zW cy ad shC E X_3)) (As := []) (rest := []) C ((by rw [e_4]; exact c_X0_countSpare l D cy ad E X_1)) zml_RX0_29 zcv_X0_countSpare (zW_get X_1 sC_27) rfl rfl rfl ⟨Nat.le_of_ble_eq_true rfl, Nat.le_of_ble_eq_true rfl⟩ rfl rfl (Nat.le_of_ble_eq_true rfl) ⟨Nat.zero_le _, Nat.zero_le _⟩ dX0_keep_6 ?_
  subst h
  exact g_vret rfl C hr dX0_keep_9
def f_X0_bringSpareBack (X : Nat → Nat → Int32) : (Nat → Nat → Int32) := (if (X 27 1) < 0 then X else (if (nI 9) ≤ (X 27 1) then X else (zlet (f_X3_copyFrom X 1 (29 + 13 * (X 27 1).toNatClampNeg)) fun X_3 => X_3)))
set_option maxRecDepth 100000 in
set_option maxHeartbeats 4000000 in
theorem c_X0_bringSpareBack (l : Launch) (D : va_G) (cy : Nat → ClassId) (ad : Nat → Nat) (E : va_W) (X : Nat → Nat → Int32) : zMv l yX0_bringSpareBack cX0_bringSpareBack 3 none (zrm 3) D (zTy cy) (zW cy ad shC E X) [.ref (ad 27), .ref (ad 1)] (zW cy ad shC E (f_X0_bringSpareBack X)) := by
  refine zMv.of (by decide) (Nat.le_of_ble_eq_true rfl) ?_
  intro p e s m below meth c A C hr
  generalize h : f_X0_bringSpareBack X = res
  unfold f_X0_bringSpareBack at h
  refine zG_L (L' := [(0, .ref (ad 27)), (1, .ref (ad 1))]) rfl ?_
  refine g_aload_n (j := 0) C dX0_bringSpareBack_0 rfl rfl ?_
  refine g_geti (k := 1) (N := 3) C sC_27 rfl zin_RX0 (by decide) rfl zfl_RX0_17 rfl dX0_bringSpareBack_1 ?_
  refine g_if_lt C dX0_bringSpareBack_4 (tgt := 31) (by decide) (fun hc_1 => ?_) (fun hc_1 => ?_)
  · replace h := (if_pos hc_1).symm.trans h
    refine g_null C dX0_bringSpareBack_31 ?_
    refine g_astore_nN (L' := [(2, .null), (0, .ref (ad 27)), (1, .ref (ad 1))]) C dX0_bringSpareBack_32 rfl (by decide) rfl ?_
    refine g_aload_nN (j := 0) C dX0_bringSpareBack_33 rfl rfl ?_
    refine g_ifnullN C dX0_bringSpareBack_34 (tgt := 42) (by decide) ?_
    subst h
    exact g_vret rfl C hr dX0_bringSpareBack_42
  · replace h := (if_neg hc_1).symm.trans h
    refine g_aload_n (j := 0) C dX0_bringSpareBack_7 rfl rfl ?_
    refine g_geti (k := 1) (N := 3) C sC_27 rfl zin_RX0 (by decide) rfl zfl_RX0_17 rfl dX0_bringSpareBack_8 ?_
    refine g_aload_n (j := 0) C dX0_bringSpareBack_11 rfl rfl ?_
    refine g_getr (k := 0) (N := 3) C sC_27 rfl zin_RX0 (by decide) rfl zfl_RX0_11 rfl dX0_bringSpareBack_12 ?_
    refine g_alenq (n := 9) C rfl sC_28 rfl dX0_bringSpareBack_15 ?_
    refine g_icmp_ge C dX0_bringSpareBack_16 (tgt := 31) (by decide) (fun hc_2 => ?_) (fun hc_2 => ?_)
    · replace h := (if_pos hc_2).symm.trans h
      refine g_null C dX0_bringSpareBack_31 ?_
      refine g_astore_nN (L' := [(2, .null), (0, .ref (ad 27)), (1, .ref (ad 1))]) C dX0_bringSpareBack_32 rfl (by decide) rfl ?_
      refine g_aload_nN (j := 0) C dX0_bringSpareBack_33 rfl rfl ?_
      refine g_ifnullN C dX0_bringSpareBack_34 (tgt := 42) (by decide) ?_
      subst h
      exact g_vret rfl C hr dX0_bringSpareBack_42
    · replace h := (if_neg hc_2).symm.trans h
      refine g_aload_n (j := 0) C dX0_bringSpareBack_19 rfl rfl ?_
      refine g_getr (k := 0) (N := 3) C sC_27 rfl zin_RX0 (by decide) rfl zfl_RX0_11 rfl dX0_bringSpareBack_20 ?_
      refine g_aload_n (j := 0) C dX0_bringSpareBack_23 rfl rfl ?_
      refine g_geti (k := 1) (N := 3) C sC_27 rfl zin_RX0 (by decide) rfl zfl_RX0_17 rfl dX0_bringSpareBack_24 ?_
      refine g_aaldq (r2 := (29 + 13 * (X 27 1).toNatClampNeg)) C sC_28 (z_in (by decide) hc_1 hc_2) (z_slot (z_in (by decide) hc_1 hc_2)) dX0_bringSpareBack_27 ?_
      refine g_goto C dX0_bringSpareBack_28 (tgt := 32) (by decide) ?_
      refine g_astore_n (L' := [(2, .ref (ad (29 + 13 * (X 27 1).toNatClampNeg))), (0, .ref (ad 27)), (1, .ref (ad 1))]) C dX0_bringSpareBack_32 rfl (by decide) rfl ?_
      refine g_aload_n (j := 0) C dX0_bringSpareBack_33 rfl rfl ?_
      refine g_ifnull C dX0_bringSpareBack_34 ?_
      refine g_aload_n (j := 2) C dX0_bringSpareBack_37 rfl rfl ?_
      refine g_aload_n (j := 0) C dX0_bringSpareBack_38 rfl rfl ?_
      obtain ⟨X_3, e_4, h⟩ := zlet_ex h
      refine g_vv (ws' := (zW cy ad shC E X_3)) (As := [.ref (ad (29 + 13 * (X 27 1).toNatClampNeg))]) (rest := []) C ((by rw [e_4]; exact c_X3_copyFrom l D cy ad E X 1 (29 + 13 * (X 27 1).toNatClampNeg) zSt_b1 (zSt_slot (z_in (by decide) hc_1 hc_2)))) zml_RX0_32 zcv_X3_copyFrom (zW_get X sC_1) rfl rfl rfl ⟨Nat.le_of_ble_eq_true rfl, Nat.le_of_ble_eq_true rfl⟩ rfl rfl (Nat.le_of_ble_eq_true rfl) ⟨Nat.zero_le _, Nat.zero_le _⟩ dX0_bringSpareBack_39 ?_
      subst h
      exact g_vret rfl C hr dX0_bringSpareBack_42
def f_X0_stepBack (X : Nat → Nat → Int32) : (Nat → Nat → Int32) := (if (X 27 1) ≤ 0 then (zlet (zU X 27 1 ((nI 9) - (nI 1))) fun X_2 => (zlet (zU X_2 27 2 ((X_2 27 2) - (nI 1))) fun X_4 => (zlet (f_X0_bringSpareBack X_4) fun X_6 => X_6))) else (zlet (zU X 27 1 ((X 27 1) - (nI 1))) fun X_8 => (zlet (zU X_8 27 2 ((X_8 27 2) - (nI 1))) fun X_10 => (zlet (f_X0_bringSpareBack X_10) fun X_12 => X_12))))
set_option maxRecDepth 100000 in
set_option maxHeartbeats 4000000 in
theorem c_X0_stepBack (l : Launch) (D : va_G) (cy : Nat → ClassId) (ad : Nat → Nat) (E : va_W) (X : Nat → Nat → Int32) : zMv l yX0_stepBack cX0_stepBack 2 none (zrm 4) D (zTy cy) (zW cy ad shC E X) [.ref (ad 27), .ref (ad 1)] (zW cy ad shC E (f_X0_stepBack X)) := by
  refine zMv.of (by decide) (Nat.le_of_ble_eq_true rfl) ?_
  intro p e s m below meth c A C hr
  generalize h : f_X0_stepBack X = res
  unfold f_X0_stepBack at h
  refine zG_L (L' := [(0, .ref (ad 27)), (1, .ref (ad 1))]) rfl ?_
  refine g_aload_n (j := 0) C dX0_stepBack_0 rfl rfl ?_
  refine g_aload_n (j := 0) C dX0_stepBack_1 rfl rfl ?_
  refine g_geti (k := 1) (N := 3) C sC_27 rfl zin_RX0 (by decide) rfl zfl_RX0_17 rfl dX0_stepBack_2 ?_
  refine g_if_le C dX0_stepBack_5 (tgt := 17) (by decide) (fun hc_1 => ?_) (fun hc_1 => ?_)
  · replace h := (if_pos hc_1).symm.trans h
    refine g_aload_n (j := 0) C dX0_stepBack_17 rfl rfl ?_
    refine g_getr (k := 0) (N := 3) C sC_27 rfl zin_RX0 (by decide) rfl zfl_RX0_11 rfl dX0_stepBack_18 ?_
    refine g_alenq (n := 9) C rfl sC_28 rfl dX0_stepBack_21 ?_
    refine g_iconst (v := (nI 1)) C dX0_stepBack_22 (by decide) ?_
    refine g_isub C dX0_stepBack_23 ?_
    refine g_puti (k := 1) (N := 3) (ty := .int) C sC_27 rfl zin_RX0 (by decide) rfl zfl_RX0_17 rfl tyX0_ok nmX0 rfl (by decide +kernel) rfl rfl dX0_stepBack_24 ?_
    obtain ⟨X_2, e_3, h⟩ := zlet_ex h
    rw [← e_3]
    refine g_aload_n (j := 0) C dX0_stepBack_27 rfl rfl ?_
    refine g_dup C dX0_stepBack_28 rfl ?_
    refine g_geti (k := 2) (N := 3) C sC_27 rfl zin_RX0 (by decide) rfl zfl_RX0_21 rfl dX0_stepBack_29 ?_
    refine g_iconst (v := (nI 1)) C dX0_stepBack_32 (by decide) ?_
    refine g_isub C dX0_stepBack_33 ?_
    refine g_puti (k := 2) (N := 3) (ty := .int) C sC_27 rfl zin_RX0 (by decide) rfl zfl_RX0_21 rfl tyX0_ok nmX0 rfl (by decide +kernel) rfl rfl dX0_stepBack_34 ?_
    obtain ⟨X_4, e_5, h⟩ := zlet_ex h
    rw [← e_5]
    refine g_aload_n (j := 0) C dX0_stepBack_37 rfl rfl ?_
    refine g_aload_n (j := 1) C dX0_stepBack_38 rfl rfl ?_
    obtain ⟨X_6, e_7, h⟩ := zlet_ex h
    refine g_vv (ws' := (zW cy ad shC E X_6)) (As := [.ref (ad 1)]) (rest := []) C ((by rw [e_7]; exact c_X0_bringSpareBack l D cy ad E X_4)) zml_RX0_41 zcv_X0_bringSpareBack (zW_get X_4 sC_27) rfl rfl rfl ⟨Nat.le_of_ble_eq_true rfl, Nat.le_of_ble_eq_true rfl⟩ rfl rfl (Nat.le_of_ble_eq_true rfl) ⟨Nat.zero_le _, Nat.zero_le _⟩ dX0_stepBack_39 ?_
    subst h
    exact g_vret rfl C hr dX0_stepBack_42
  · replace h := (if_neg hc_1).symm.trans h
    refine g_aload_n (j := 0) C dX0_stepBack_8 rfl rfl ?_
    refine g_geti (k := 1) (N := 3) C sC_27 rfl zin_RX0 (by decide) rfl zfl_RX0_17 rfl dX0_stepBack_9 ?_
    refine g_iconst (v := (nI 1)) C dX0_stepBack_12 (by decide) ?_
    refine g_isub C dX0_stepBack_13 ?_
    refine g_goto C dX0_stepBack_14 (tgt := 24) (by decide) ?_
    refine g_puti (k := 1) (N := 3) (ty := .int) C sC_27 rfl zin_RX0 (by decide) rfl zfl_RX0_17 rfl tyX0_ok nmX0 rfl (by decide +kernel) rfl rfl dX0_stepBack_24 ?_
    obtain ⟨X_8, e_9, h⟩ := zlet_ex h
    rw [← e_9]
    refine g_aload_n (j := 0) C dX0_stepBack_27 rfl rfl ?_
    refine g_dup C dX0_stepBack_28 rfl ?_
    refine g_geti (k := 2) (N := 3) C sC_27 rfl zin_RX0 (by decide) rfl zfl_RX0_21 rfl dX0_stepBack_29 ?_
    refine g_iconst (v := (nI 1)) C dX0_stepBack_32 (by decide) ?_
    refine g_isub C dX0_stepBack_33 ?_
    refine g_puti (k := 2) (N := 3) (ty := .int) C sC_27 rfl zin_RX0 (by decide) rfl zfl_RX0_21 rfl tyX0_ok nmX0 rfl (by decide +kernel) rfl rfl dX0_stepBack_34 ?_
    obtain ⟨X_10, e_11, h⟩ := zlet_ex h
    rw [← e_11]
    refine g_aload_n (j := 0) C dX0_stepBack_37 rfl rfl ?_
    refine g_aload_n (j := 1) C dX0_stepBack_38 rfl rfl ?_
    obtain ⟨X_12, e_13, h⟩ := zlet_ex h
    refine g_vv (ws' := (zW cy ad shC E X_12)) (As := [.ref (ad 1)]) (rest := []) C ((by rw [e_13]; exact c_X0_bringSpareBack l D cy ad E X_10)) zml_RX0_41 zcv_X0_bringSpareBack (zW_get X_10 sC_27) rfl rfl rfl ⟨Nat.le_of_ble_eq_true rfl, Nat.le_of_ble_eq_true rfl⟩ rfl rfl (Nat.le_of_ble_eq_true rfl) ⟨Nat.zero_le _, Nat.zero_le _⟩ dX0_stepBack_39 ?_
    subst h
    exact g_vret rfl C hr dX0_stepBack_42
def f_X0_forget (X : Nat → Nat → Int32) : (Nat → Nat → Int32) := (zlet (zU X 27 2 (nI 0)) fun X_1 => X_1)
set_option maxRecDepth 100000 in
set_option maxHeartbeats 4000000 in
theorem c_X0_forget (l : Launch) (D : va_G) (cy : Nat → ClassId) (ad : Nat → Nat) (E : va_W) (X : Nat → Nat → Int32) : zMv l yX0_forget cX0_forget 1 none (zrm 1) D (zTy cy) (zW cy ad shC E X) [.ref (ad 27)] (zW cy ad shC E (f_X0_forget X)) := by
  refine zMv.of (by decide) (Nat.le_of_ble_eq_true rfl) ?_
  intro p e s m below meth c A C hr
  generalize h : f_X0_forget X = res
  unfold f_X0_forget at h
  refine zG_L (L' := [(0, .ref (ad 27))]) rfl ?_
  refine g_aload_n (j := 0) C dX0_forget_0 rfl rfl ?_
  refine g_iconst (v := (nI 0)) C dX0_forget_1 (by decide) ?_
  refine g_puti (k := 2) (N := 3) (ty := .int) C sC_27 rfl zin_RX0 (by decide) rfl zfl_RX0_21 rfl tyX0_ok nmX0 rfl (by decide +kernel) rfl rfl dX0_forget_2 ?_
  obtain ⟨X_1, e_2, h⟩ := zlet_ex h
  rw [← e_2]
  subst h
  exact g_vret rfl C hr dX0_forget_5
def f_X5_isWithin (v0 v1 v2 : Int32) : Int32 := (if v0 < v1 then (nI 0) else (if v2 < v0 then (nI 0) else (nI 1)))
theorem b_X5_isWithin (v0 v1 v2 : Int32) : f_X5_isWithin v0 v1 v2 = 0 ∨ f_X5_isWithin v0 v1 v2 = 1 := by
  unfold f_X5_isWithin
  repeat' split
  all_goals first | exact Or.inl rfl | exact Or.inr rfl
set_option maxRecDepth 100000 in
set_option maxHeartbeats 4000000 in
theorem c_X5_isWithin (l : Launch) (D : va_G) (cy : Nat → ClassId) (ws : va_W) (v0 v1 v2 : Int32) : zMi l yX5_isWithin cX5_isWithin 3 (some .boolean) (zrm 1) D (zTy cy) ws [.int v0, .int v1, .int v2] (f_X5_isWithin v0 v1 v2) ws := by
  refine zMi.of (by decide) (Nat.le_of_ble_eq_true rfl) ?_
  intro p e s m below meth c A C hr
  generalize h : f_X5_isWithin v0 v1 v2 = res
  unfold f_X5_isWithin at h
  refine zG_L (L' := [(0, .int v0), (1, .int v1), (2, .int v2)]) rfl ?_
  refine g_iload_n (j := 0) C dX5_isWithin_0 rfl rfl ?_
  refine g_iload_n (j := 1) C dX5_isWithin_1 rfl rfl ?_
  refine g_icmp_lt C dX5_isWithin_2 (tgt := 14) (by decide) (fun hc_1 => ?_) (fun hc_1 => ?_)
  · replace h := (if_pos hc_1).symm.trans h
    refine g_iconst (v := (nI 0)) C dX5_isWithin_14 (by decide) ?_
    subst h
    exact g_iret rfl C hr (z_nb (Or.inl rfl)) dX5_isWithin_15
  · replace h := (if_neg hc_1).symm.trans h
    refine g_iload_n (j := 0) C dX5_isWithin_5 rfl rfl ?_
    refine g_iload_n (j := 2) C dX5_isWithin_6 rfl rfl ?_
    refine g_icmp_gt C dX5_isWithin_7 (tgt := 14) (by decide) (fun hc_2 => ?_) (fun hc_2 => ?_)
    · replace h := (if_pos hc_2).symm.trans h
      refine g_iconst (v := (nI 0)) C dX5_isWithin_14 (by decide) ?_
      subst h
      exact g_iret rfl C hr (z_nb (Or.inl rfl)) dX5_isWithin_15
    · replace h := (if_neg hc_2).symm.trans h
      refine g_iconst (v := (nI 1)) C dX5_isWithin_10 (by decide) ?_
      refine g_goto C dX5_isWithin_11 (tgt := 15) (by decide) ?_
      subst h
      exact g_iret rfl C hr (z_nb (Or.inr rfl)) dX5_isWithin_15
def f_X5_isDay (v0 : Int32) : Int32 := (f_X5_isWithin v0 (nI 0) (nI 59))
theorem b_X5_isDay (v0 : Int32) : f_X5_isDay v0 = 0 ∨ f_X5_isDay v0 = 1 := by
  unfold f_X5_isDay
  repeat' split
  all_goals first | exact Or.inl rfl | exact Or.inr rfl | apply b_X5_isWithin
set_option maxRecDepth 100000 in
set_option maxHeartbeats 4000000 in
theorem c_X5_isDay (l : Launch) (D : va_G) (cy : Nat → ClassId) (ws : va_W) (v0 : Int32) : zMi l yX5_isDay cX5_isDay 1 (some .boolean) (zrm 2) D (zTy cy) ws [.int v0] (f_X5_isDay v0) ws := by
  refine zMi.of (by decide) (Nat.le_of_ble_eq_true rfl) ?_
  intro p e s m below meth c A C hr
  generalize h : f_X5_isDay v0 = res
  unfold f_X5_isDay at h
  refine zG_L (L' := [(0, .int v0)]) rfl ?_
  refine g_iload_n (j := 0) C dX5_isDay_0 rfl rfl ?_
  refine g_iconst (v := (nI 0)) C dX5_isDay_1 (by decide) ?_
  refine g_bipush (v := (nI 59)) C dX5_isDay_2 (by decide) ?_
  refine g_si (ws' := ws) (As := [.int v0, .int (nI 0), .int (nI 59)]) (rest := []) (res := (f_X5_isWithin v0 (nI 0) (nI 59))) C (c_X5_isWithin l D cy ws v0 (nI 0) (nI 59)) zml_RX5_64 zcs_X5_isWithin rfl rfl ⟨Nat.le_of_ble_eq_true rfl, Nat.le_of_ble_eq_true rfl⟩ rfl rfl (Nat.le_of_ble_eq_true rfl) ⟨Nat.zero_le _, Nat.zero_le _⟩ dX5_isDay_4 ?_
  subst h
  exact g_iret rfl C hr (z_nb (b_X5_isWithin v0 (nI 0) (nI 59))) dX5_isDay_7
def f_X5_isMinute (v0 : Int32) : Int32 := (f_X5_isWithin v0 (nI 0) (nI 959))
theorem b_X5_isMinute (v0 : Int32) : f_X5_isMinute v0 = 0 ∨ f_X5_isMinute v0 = 1 := by
  unfold f_X5_isMinute
  repeat' split
  all_goals first | exact Or.inl rfl | exact Or.inr rfl | apply b_X5_isWithin
set_option maxRecDepth 100000 in
set_option maxHeartbeats 4000000 in
theorem c_X5_isMinute (l : Launch) (D : va_G) (cy : Nat → ClassId) (ws : va_W) (v0 : Int32) : zMi l yX5_isMinute cX5_isMinute 1 (some .boolean) (zrm 2) D (zTy cy) ws [.int v0] (f_X5_isMinute v0) ws := by
  refine zMi.of (by decide) (Nat.le_of_ble_eq_true rfl) ?_
  intro p e s m below meth c A C hr
  generalize h : f_X5_isMinute v0 = res
  unfold f_X5_isMinute at h
  refine zG_L (L' := [(0, .int v0)]) rfl ?_
  refine g_iload_n (j := 0) C dX5_isMinute_0 rfl rfl ?_
  refine g_iconst (v := (nI 0)) C dX5_isMinute_1 (by decide) ?_
  refine g_sipush (v := (nI 959)) C dX5_isMinute_2 (by decide) ?_
  refine g_si (ws' := ws) (As := [.int v0, .int (nI 0), .int (nI 959)]) (rest := []) (res := (f_X5_isWithin v0 (nI 0) (nI 959))) C (c_X5_isWithin l D cy ws v0 (nI 0) (nI 959)) zml_RX5_64 zcs_X5_isWithin rfl rfl ⟨Nat.le_of_ble_eq_true rfl, Nat.le_of_ble_eq_true rfl⟩ rfl rfl (Nat.le_of_ble_eq_true rfl) ⟨Nat.zero_le _, Nat.zero_le _⟩ dX5_isMinute_5 ?_
  subst h
  exact g_iret rfl C hr (z_nb (b_X5_isWithin v0 (nI 0) (nI 959))) dX5_isMinute_8
def f_X5_isRating (v0 : Int32) : Int32 := (f_X5_isWithin v0 (nI 0) (nI 3))
theorem b_X5_isRating (v0 : Int32) : f_X5_isRating v0 = 0 ∨ f_X5_isRating v0 = 1 := by
  unfold f_X5_isRating
  repeat' split
  all_goals first | exact Or.inl rfl | exact Or.inr rfl | apply b_X5_isWithin
set_option maxRecDepth 100000 in
set_option maxHeartbeats 4000000 in
theorem c_X5_isRating (l : Launch) (D : va_G) (cy : Nat → ClassId) (ws : va_W) (v0 : Int32) : zMi l yX5_isRating cX5_isRating 1 (some .boolean) (zrm 2) D (zTy cy) ws [.int v0] (f_X5_isRating v0) ws := by
  refine zMi.of (by decide) (Nat.le_of_ble_eq_true rfl) ?_
  intro p e s m below meth c A C hr
  generalize h : f_X5_isRating v0 = res
  unfold f_X5_isRating at h
  refine zG_L (L' := [(0, .int v0)]) rfl ?_
  refine g_iload_n (j := 0) C dX5_isRating_0 rfl rfl ?_
  refine g_iconst (v := (nI 0)) C dX5_isRating_1 (by decide) ?_
  refine g_iconst (v := (nI 3)) C dX5_isRating_2 (by decide) ?_
  refine g_si (ws' := ws) (As := [.int v0, .int (nI 0), .int (nI 3)]) (rest := []) (res := (f_X5_isWithin v0 (nI 0) (nI 3))) C (c_X5_isWithin l D cy ws v0 (nI 0) (nI 3)) zml_RX5_64 zcs_X5_isWithin rfl rfl ⟨Nat.le_of_ble_eq_true rfl, Nat.le_of_ble_eq_true rfl⟩ rfl rfl (Nat.le_of_ble_eq_true rfl) ⟨Nat.zero_le _, Nat.zero_le _⟩ dX5_isRating_3 ?_
  subst h
  exact g_iret rfl C hr (z_nb (b_X5_isWithin v0 (nI 0) (nI 3))) dX5_isRating_6
def f_X5_isGenres (v0 : Int32) : Int32 := (f_X5_isWithin v0 (nI 1) (nI 63))
theorem b_X5_isGenres (v0 : Int32) : f_X5_isGenres v0 = 0 ∨ f_X5_isGenres v0 = 1 := by
  unfold f_X5_isGenres
  repeat' split
  all_goals first | exact Or.inl rfl | exact Or.inr rfl | apply b_X5_isWithin
set_option maxRecDepth 100000 in
set_option maxHeartbeats 4000000 in
theorem c_X5_isGenres (l : Launch) (D : va_G) (cy : Nat → ClassId) (ws : va_W) (v0 : Int32) : zMi l yX5_isGenres cX5_isGenres 1 (some .boolean) (zrm 2) D (zTy cy) ws [.int v0] (f_X5_isGenres v0) ws := by
  refine zMi.of (by decide) (Nat.le_of_ble_eq_true rfl) ?_
  intro p e s m below meth c A C hr
  generalize h : f_X5_isGenres v0 = res
  unfold f_X5_isGenres at h
  refine zG_L (L' := [(0, .int v0)]) rfl ?_
  refine g_iload_n (j := 0) C dX5_isGenres_0 rfl rfl ?_
  refine g_iconst (v := (nI 1)) C dX5_isGenres_1 (by decide) ?_
  refine g_bipush (v := (nI 63)) C dX5_isGenres_2 (by decide) ?_
  refine g_si (ws' := ws) (As := [.int v0, .int (nI 1), .int (nI 63)]) (rest := []) (res := (f_X5_isWithin v0 (nI 1) (nI 63))) C (c_X5_isWithin l D cy ws v0 (nI 1) (nI 63)) zml_RX5_64 zcs_X5_isWithin rfl rfl ⟨Nat.le_of_ble_eq_true rfl, Nat.le_of_ble_eq_true rfl⟩ rfl rfl (Nat.le_of_ble_eq_true rfl) ⟨Nat.zero_le _, Nat.zero_le _⟩ dX5_isGenres_4 ?_
  subst h
  exact g_iret rfl C hr (z_nb (b_X5_isWithin v0 (nI 1) (nI 63))) dX5_isGenres_7
def f_X5_refuse (X : Nat → Nat → Int32) (v1 v2 : Int32) : (Nat → Nat → Int32) := (zlet (zU X 0 8 v1) fun X_1 => (zlet (zU X_1 0 9 v2) fun X_3 => X_3))
set_option maxRecDepth 100000 in
set_option maxHeartbeats 4000000 in
theorem c_X5_refuse (l : Launch) (D : va_G) (cy : Nat → ClassId) (ad : Nat → Nat) (E : va_W) (X : Nat → Nat → Int32) (v1 v2 : Int32) : zMv l yX5_refuse cX5_refuse 3 none (zrm 1) D (zTy cy) (zW cy ad shC E X) [.ref (ad 0), .int v1, .int v2] (zW cy ad shC E (f_X5_refuse X v1 v2)) := by
  refine zMv.of (by decide) (Nat.le_of_ble_eq_true rfl) ?_
  intro p e s m below meth c A C hr
  generalize h : f_X5_refuse X v1 v2 = res
  unfold f_X5_refuse at h
  refine zG_L (L' := [(0, .ref (ad 0)), (1, .int v1), (2, .int v2)]) rfl ?_
  refine g_aload_n (j := 0) C dX5_refuse_0 rfl rfl ?_
  refine g_iload_n (j := 1) C dX5_refuse_1 rfl rfl ?_
  refine g_puti (k := 8) (N := 11) (ty := .int) C sC_0 rfl zin_RX5 (by decide) rfl zfl_RX5_54 rfl tyX5_ok nmX5 rfl (by decide +kernel) rfl rfl dX5_refuse_2 ?_
  obtain ⟨X_1, e_2, h⟩ := zlet_ex h
  rw [← e_2]
  refine g_aload_n (j := 0) C dX5_refuse_5 rfl rfl ?_
  refine g_iload_n (j := 2) C dX5_refuse_6 rfl rfl ?_
  refine g_puti (k := 9) (N := 11) (ty := .int) C sC_0 rfl zin_RX5 (by decide) rfl zfl_RX5_58 rfl tyX5_ok nmX5 rfl (by decide +kernel) rfl rfl dX5_refuse_7 ?_
  obtain ⟨X_3, e_4, h⟩ := zlet_ex h
  rw [← e_4]
  subst h
  exact g_vret rfl C hr dX5_refuse_10
def f_X5_faultOfPlan (X : Nat → Nat → Int32) (v1 v2 v3 v4 : Int32) : Option (Int32 × (Nat → Nat → Int32)) := (if (f_X4_isRow X 2 24 v1) = 0 then some ((nI 1), X) else (if (f_X4_isRow X 4 96 v2) = 0 then some ((nI 1), X) else (if (f_X5_isDay v3) = 0 then some ((nI 2), X) else (if (f_X5_isMinute v4) = 0 then some ((nI 2), X) else ((f_X2_takeUp X (-1 : Int32) v2 v3).bind fun q_5 => ((f_X3_newMinutes q_5 v2 v3).bind fun q_7 => ((f_X2_firstBroken q_5 v1 v4 (v4 + q_7)).bind fun q_9 => (if q_9.1 = 0 then (if (f_X4_size q_9.2 8 360) < (nI 30) then some ((nI 0), q_9.2) else (zlet (f_X5_refuse q_9.2 (nI 10) (nI 30)) fun X_13 => some ((nI 4), X_13))) else (zlet (f_X5_refuse q_9.2 q_9.1 (q_9.2 146 3)) fun X_15 => some ((nI 4), X_15))))))))))
set_option maxRecDepth 100000 in
set_option maxHeartbeats 4000000 in
theorem c_X5_faultOfPlan (l : Launch) (D : va_G) (cy : Nat → ClassId) (ad : Nat → Nat) (E : va_W) (X : Nat → Nat → Int32) (v1 v2 v3 v4 : Int32) {res : Int32 × (Nat → Nat → Int32)} (h : f_X5_faultOfPlan X v1 v2 v3 v4 = some res) : zMi l yX5_faultOfPlan cX5_faultOfPlan 6 (some .int) (zrm 5) D (zTy cy) (zW cy ad shC E X) [.ref (ad 0), .int v1, .int v2, .int v3, .int v4] res.1 (zW cy ad shC E res.2) := by
  refine zMi.of (by decide) (Nat.le_of_ble_eq_true rfl) ?_
  intro p e s m below meth c A C hr
  unfold f_X5_faultOfPlan at h
  refine zG_L (L' := [(0, .ref (ad 0)), (1, .int v1), (2, .int v2), (3, .int v3), (4, .int v4)]) rfl ?_
  refine g_aload_n (j := 0) C dX5_faultOfPlan_0 rfl rfl ?_
  refine g_getr (k := 0) (N := 11) C sC_0 rfl zin_RX5 (by decide) rfl zfl_RX5_10 rfl dX5_faultOfPlan_1 ?_
  refine g_getr (k := 0) (N := 8) C sC_1 rfl zin_RX3 (by decide) rfl zfl_RX5_75 rfl dX5_faultOfPlan_4 ?_
  refine g_iload_n (j := 1) C dX5_faultOfPlan_7 rfl rfl ?_
  refine g_vi (ws' := (zW cy ad shC E X)) (As := [.int v1]) (rest := []) (res := (f_X4_isRow X 2 24 v1)) C (c_X4_isRow l D cy ad E X 2 24 sC_2 sC_3 (by decide) v1) zml_RX5_116 zcv_X4_isRow (zW_get X sC_2) rfl rfl rfl ⟨Nat.le_of_ble_eq_true rfl, Nat.le_of_ble_eq_true rfl⟩ rfl rfl (Nat.le_of_ble_eq_true rfl) ⟨Nat.zero_le _, Nat.zero_le _⟩ dX5_faultOfPlan_8 ?_
  refine g_if_eq C dX5_faultOfPlan_11 (tgt := 28) (by decide) (fun hc_1 => ?_) (fun hc_1 => ?_)
  · replace h := (if_pos hc_1).symm.trans h
    refine g_iconst (v := (nI 1)) C dX5_faultOfPlan_28 (by decide) ?_
    obtain rfl := Option.some.inj h
    exact g_iret rfl C hr rfl dX5_faultOfPlan_29
  · replace h := (if_neg hc_1).symm.trans h
    refine g_aload_n (j := 0) C dX5_faultOfPlan_14 rfl rfl ?_
    refine g_getr (k := 0) (N := 11) C sC_0 rfl zin_RX5 (by decide) rfl zfl_RX5_10 rfl dX5_faultOfPlan_15 ?_
    refine g_getr (k := 1) (N := 8) C sC_1 rfl zin_RX3 (by decide) rfl zfl_RX5_111 rfl dX5_faultOfPlan_18 ?_
    refine g_iload_n (j := 2) C dX5_faultOfPlan_21 rfl rfl ?_
    refine g_vi (ws' := (zW cy ad shC E X)) (As := [.int v2]) (rest := []) (res := (f_X4_isRow X 4 96 v2)) C (c_X4_isRow l D cy ad E X 4 96 sC_4 sC_5 (by decide) v2) zml_RX5_116 zcv_X4_isRow (zW_get X sC_4) rfl rfl rfl ⟨Nat.le_of_ble_eq_true rfl, Nat.le_of_ble_eq_true rfl⟩ rfl rfl (Nat.le_of_ble_eq_true rfl) ⟨Nat.zero_le _, Nat.zero_le _⟩ dX5_faultOfPlan_22 ?_
    refine g_if_ne C dX5_faultOfPlan_25 (tgt := 30) (by decide) (fun hc_2 => ?_) (fun hc_2 => ?_)
    · replace h := (if_neg hc_2).symm.trans h
      refine g_iload_n (j := 3) C dX5_faultOfPlan_30 rfl rfl ?_
      refine g_si (ws' := (zW cy ad shC E X)) (As := [.int v3]) (rest := []) (res := (f_X5_isDay v3)) C (c_X5_isDay l D cy (zW cy ad shC E X) v3) zml_RX5_108 zcs_X5_isDay rfl rfl ⟨Nat.le_of_ble_eq_true rfl, Nat.le_of_ble_eq_true rfl⟩ rfl rfl (Nat.le_of_ble_eq_true rfl) ⟨Nat.zero_le _, Nat.zero_le _⟩ dX5_faultOfPlan_31 ?_
      refine g_if_eq C dX5_faultOfPlan_34 (tgt := 45) (by decide) (fun hc_3 => ?_) (fun hc_3 => ?_)
      · replace h := (if_pos hc_3).symm.trans h
        refine g_iconst (v := (nI 2)) C dX5_faultOfPlan_45 (by decide) ?_
        obtain rfl := Option.some.inj h
        exact g_iret rfl C hr rfl dX5_faultOfPlan_46
      · replace h := (if_neg hc_3).symm.trans h
        refine g_iload (j := 4) C dX5_faultOfPlan_37 rfl ?_
        refine g_si (ws' := (zW cy ad shC E X)) (As := [.int v4]) (rest := []) (res := (f_X5_isMinute v4)) C (c_X5_isMinute l D cy (zW cy ad shC E X) v4) zml_RX5_215 zcs_X5_isMinute rfl rfl ⟨Nat.le_of_ble_eq_true rfl, Nat.le_of_ble_eq_true rfl⟩ rfl rfl (Nat.le_of_ble_eq_true rfl) ⟨Nat.zero_le _, Nat.zero_le _⟩ dX5_faultOfPlan_39 ?_
        refine g_if_ne C dX5_faultOfPlan_42 (tgt := 47) (by decide) (fun hc_4 => ?_) (fun hc_4 => ?_)
        · replace h := (if_neg hc_4).symm.trans h
          refine g_aload_n (j := 0) C dX5_faultOfPlan_47 rfl rfl ?_
          refine g_getr (k := 3) (N := 11) C sC_0 rfl zin_RX5 (by decide) rfl zfl_RX5_29 rfl dX5_faultOfPlan_48 ?_
          refine g_aload_n (j := 0) C dX5_faultOfPlan_51 rfl rfl ?_
          refine g_getr (k := 0) (N := 11) C sC_0 rfl zin_RX5 (by decide) rfl zfl_RX5_10 rfl dX5_faultOfPlan_52 ?_
          refine g_iconst (v := (-1 : Int32)) C dX5_faultOfPlan_55 (by decide) ?_
          refine g_iload_n (j := 2) C dX5_faultOfPlan_56 rfl rfl ?_
          refine g_iload_n (j := 3) C dX5_faultOfPlan_57 rfl rfl ?_
          obtain ⟨q_5, hq_6, h⟩ := bind_isome h
          refine g_vv (ws' := (zW cy ad shC E q_5)) (As := [.ref (ad 1), .int (-1 : Int32), .int v2, .int v3]) (rest := []) C (c_X2_takeUp l D cy ad E X (-1 : Int32) v2 v3 hq_6) zml_RX5_265 zcv_X2_takeUp (zW_get X sC_146) rfl rfl rfl ⟨Nat.le_of_ble_eq_true rfl, Nat.le_of_ble_eq_true rfl⟩ rfl rfl (Nat.le_of_ble_eq_true rfl) ⟨Nat.zero_le _, Nat.zero_le _⟩ dX5_faultOfPlan_58 ?_
          refine g_aload_n (j := 0) C dX5_faultOfPlan_61 rfl rfl ?_
          refine g_getr (k := 3) (N := 11) C sC_0 rfl zin_RX5 (by decide) rfl zfl_RX5_29 rfl dX5_faultOfPlan_62 ?_
          refine g_aload_n (j := 0) C dX5_faultOfPlan_65 rfl rfl ?_
          refine g_getr (k := 0) (N := 11) C sC_0 rfl zin_RX5 (by decide) rfl zfl_RX5_10 rfl dX5_faultOfPlan_66 ?_
          refine g_iload_n (j := 1) C dX5_faultOfPlan_69 rfl rfl ?_
          refine g_iload (j := 4) C dX5_faultOfPlan_70 rfl ?_
          refine g_iload (j := 4) C dX5_faultOfPlan_72 rfl ?_
          refine g_aload_n (j := 0) C dX5_faultOfPlan_74 rfl rfl ?_
          refine g_getr (k := 0) (N := 11) C sC_0 rfl zin_RX5 (by decide) rfl zfl_RX5_10 rfl dX5_faultOfPlan_75 ?_
          refine g_iload_n (j := 2) C dX5_faultOfPlan_78 rfl rfl ?_
          refine g_iload_n (j := 3) C dX5_faultOfPlan_79 rfl rfl ?_
          obtain ⟨q_7, hq_8, h⟩ := bind_isome h
          refine g_vi (ws' := (zW cy ad shC E q_5)) (As := [.int v2, .int v3]) (rest := [.int v4, .int v4, .int v1, .ref (ad 1), .ref (ad 146)]) (res := q_7) C (c_X3_newMinutes l D cy ad E q_5 v2 v3 hq_8) zml_RX5_269 zcv_X3_newMinutes (zW_get q_5 sC_1) rfl rfl rfl ⟨Nat.le_of_ble_eq_true rfl, Nat.le_of_ble_eq_true rfl⟩ rfl rfl (Nat.le_of_ble_eq_true rfl) ⟨Nat.zero_le _, Nat.zero_le _⟩ dX5_faultOfPlan_80 ?_
          refine g_iadd C dX5_faultOfPlan_83 ?_
          obtain ⟨q_9, hq_10, h⟩ := bind_isome h
          refine g_vi (ws' := (zW cy ad shC E q_9.2)) (As := [.ref (ad 1), .int v1, .int v4, .int (v4 + q_7)]) (rest := []) (res := q_9.1) C (c_X2_firstBroken l D cy ad E q_5 v1 v4 (v4 + q_7) hq_10) zml_RX5_272 zcv_X2_firstBroken (zW_get q_5 sC_146) rfl rfl rfl ⟨Nat.le_of_ble_eq_true rfl, Nat.le_of_ble_eq_true rfl⟩ rfl rfl (Nat.le_of_ble_eq_true rfl) ⟨Nat.zero_le _, Nat.zero_le _⟩ dX5_faultOfPlan_84 ?_
          refine g_istore (L' := [(5, .int q_9.1), (0, .ref (ad 0)), (1, .int v1), (2, .int v2), (3, .int v3), (4, .int v4)]) C dX5_faultOfPlan_87 (by decide) rfl ?_
          refine g_iload (j := 0) C dX5_faultOfPlan_89 rfl ?_
          refine g_if_eq C dX5_faultOfPlan_91 (tgt := 109) (by decide) (fun hc_11 => ?_) (fun hc_11 => ?_)
          · replace h := (if_pos hc_11).symm.trans h
            refine g_aload_n (j := 1) C dX5_faultOfPlan_109 rfl rfl ?_
            refine g_getr (k := 0) (N := 11) C sC_0 rfl zin_RX5 (by decide) rfl zfl_RX5_10 rfl dX5_faultOfPlan_110 ?_
            refine g_getr (k := 3) (N := 8) C sC_1 rfl zin_RX3 (by decide) rfl zfl_RX5_210 rfl dX5_faultOfPlan_113 ?_
            refine g_vi (ws' := (zW cy ad shC E q_9.2)) (As := []) (rest := []) (res := (f_X4_size q_9.2 8 360)) C (c_X4_size l D cy ad E q_9.2 8 360 sC_8 sC_9 (by decide)) zml_RX5_79 zcv_X4_size (zW_get q_9.2 sC_8) rfl rfl rfl ⟨Nat.le_of_ble_eq_true rfl, Nat.le_of_ble_eq_true rfl⟩ rfl rfl (Nat.le_of_ble_eq_true rfl) ⟨Nat.zero_le _, Nat.zero_le _⟩ dX5_faultOfPlan_116 ?_
            refine g_bipush (v := (nI 30)) C dX5_faultOfPlan_119 (by decide) ?_
            refine g_icmp_lt C dX5_faultOfPlan_121 (tgt := 134) (by decide) (fun hc_12 => ?_) (fun hc_12 => ?_)
            · replace h := (if_pos hc_12).symm.trans h
              refine g_iconst (v := (nI 0)) C dX5_faultOfPlan_134 (by decide) ?_
              obtain rfl := Option.some.inj h
              exact g_iret rfl C hr rfl dX5_faultOfPlan_135
            · replace h := (if_neg hc_12).symm.trans h
              refine g_aload_n (j := 1) C dX5_faultOfPlan_124 rfl rfl ?_
              refine g_bipush (v := (nI 10)) C dX5_faultOfPlan_125 (by decide) ?_
              refine g_bipush (v := (nI 30)) C dX5_faultOfPlan_127 (by decide) ?_
              obtain ⟨X_13, e_14, h⟩ := zlet_ex h
              refine g_vv (ws' := (zW cy ad shC E X_13)) (As := [.int (nI 10), .int (nI 30)]) (rest := []) C ((by rw [e_14]; exact c_X5_refuse l D cy ad E q_9.2 (nI 10) (nI 30))) zml_RX5_424 zcv_X5_refuse (zW_get q_9.2 sC_0) rfl rfl rfl ⟨Nat.le_of_ble_eq_true rfl, Nat.le_of_ble_eq_true rfl⟩ rfl rfl (Nat.le_of_ble_eq_true rfl) ⟨Nat.zero_le _, Nat.zero_le _⟩ dX5_faultOfPlan_129 ?_
              refine g_iconst (v := (nI 4)) C dX5_faultOfPlan_132 (by decide) ?_
              obtain rfl := Option.some.inj h
              exact g_iret rfl C hr rfl dX5_faultOfPlan_133
          · replace h := (if_neg hc_11).symm.trans h
            refine g_aload_n (j := 1) C dX5_faultOfPlan_94 rfl rfl ?_
            refine g_iload (j := 0) C dX5_faultOfPlan_95 rfl ?_
            refine g_aload_n (j := 1) C dX5_faultOfPlan_97 rfl rfl ?_
            refine g_getr (k := 3) (N := 11) C sC_0 rfl zin_RX5 (by decide) rfl zfl_RX5_29 rfl dX5_faultOfPlan_98 ?_
            refine g_geti (k := 3) (N := 4) C sC_146 rfl zin_RX2 (by decide) rfl zfl_RX5_276 rfl dX5_faultOfPlan_101 ?_
            obtain ⟨X_15, e_16, h⟩ := zlet_ex h
            refine g_vv (ws' := (zW cy ad shC E X_15)) (As := [.int q_9.1, .int (q_9.2 146 3)]) (rest := []) C ((by rw [e_16]; exact c_X5_refuse l D cy ad E q_9.2 q_9.1 (q_9.2 146 3))) zml_RX5_424 zcv_X5_refuse (zW_get q_9.2 sC_0) rfl rfl rfl ⟨Nat.le_of_ble_eq_true rfl, Nat.le_of_ble_eq_true rfl⟩ rfl rfl (Nat.le_of_ble_eq_true rfl) ⟨Nat.zero_le _, Nat.zero_le _⟩ dX5_faultOfPlan_104 ?_
            refine g_iconst (v := (nI 4)) C dX5_faultOfPlan_107 (by decide) ?_
            obtain rfl := Option.some.inj h
            exact g_iret rfl C hr rfl dX5_faultOfPlan_108
        · replace h := (if_pos hc_4).symm.trans h
          refine g_iconst (v := (nI 2)) C dX5_faultOfPlan_45 (by decide) ?_
          obtain rfl := Option.some.inj h
          exact g_iret rfl C hr rfl dX5_faultOfPlan_46
    · replace h := (if_pos hc_2).symm.trans h
      refine g_iconst (v := (nI 1)) C dX5_faultOfPlan_28 (by decide) ?_
      obtain rfl := Option.some.inj h
      exact g_iret rfl C hr rfl dX5_faultOfPlan_29
def f_X5_isMoveRefused (X : Nat → Nat → Int32) (v1 v2 v3 : Int32) : Option (Int32 × (Nat → Nat → Int32)) := (if (f_X4_get X 8 360 v1 (nI 5)) ≤ (f_X4_get X 2 24 v2 (nI 0)) then ((f_X2_takeUp X v1 (f_X4_get X 8 360 v1 (nI 1)) (f_X4_get X 8 360 v1 (nI 2))).bind fun q_2 => ((f_X2_firstBroken q_2 v2 v3 (v3 + (f_X3_minutesOf q_2 v1))).bind fun q_4 => (if q_4.1 = 0 then some ((nI 0), q_4.2) else (zlet (f_X5_refuse q_4.2 q_4.1 (q_4.2 146 3)) fun X_7 => some ((nI 1), X_7))))) else (zlet (f_X5_refuse X (nI 11) (f_X4_get X 2 24 v2 (nI 0))) fun X_9 => some ((nI 1), X_9)))
set_option maxRecDepth 100000 in
set_option maxHeartbeats 4000000 in
theorem c_X5_isMoveRefused (l : Launch) (D : va_G) (cy : Nat → ClassId) (ad : Nat → Nat) (E : va_W) (X : Nat → Nat → Int32) (v1 v2 v3 : Int32) {res : Int32 × (Nat → Nat → Int32)} (h : f_X5_isMoveRefused X v1 v2 v3 = some res) : zMi l yX5_isMoveRefused cX5_isMoveRefused 6 (some .boolean) (zrm 4) D (zTy cy) (zW cy ad shC E X) [.ref (ad 0), .int v1, .int v2, .int v3] res.1 (zW cy ad shC E res.2) := by
  refine zMi.of (by decide) (Nat.le_of_ble_eq_true rfl) ?_
  intro p e s m below meth c A C hr
  unfold f_X5_isMoveRefused at h
  refine zG_L (L' := [(0, .ref (ad 0)), (1, .int v1), (2, .int v2), (3, .int v3)]) rfl ?_
  refine g_aload_n (j := 0) C dX5_isMoveRefused_0 rfl rfl ?_
  refine g_getr (k := 0) (N := 11) C sC_0 rfl zin_RX5 (by decide) rfl zfl_RX5_10 rfl dX5_isMoveRefused_1 ?_
  refine g_getr (k := 0) (N := 8) C sC_1 rfl zin_RX3 (by decide) rfl zfl_RX5_75 rfl dX5_isMoveRefused_4 ?_
  refine g_iload_n (j := 2) C dX5_isMoveRefused_7 rfl rfl ?_
  refine g_iconst (v := (nI 0)) C dX5_isMoveRefused_8 (by decide) ?_
  refine g_vi (ws' := (zW cy ad shC E X)) (As := [.int v2, .int (nI 0)]) (rest := []) (res := (f_X4_get X 2 24 v2 (nI 0))) C (c_X4_get l D cy ad E X 2 24 sC_2 sC_3 (by decide) v2 (nI 0)) zml_RX5_126 zcv_X4_get (zW_get X sC_2) rfl rfl rfl ⟨Nat.le_of_ble_eq_true rfl, Nat.le_of_ble_eq_true rfl⟩ rfl rfl (Nat.le_of_ble_eq_true rfl) ⟨Nat.zero_le _, Nat.zero_le _⟩ dX5_isMoveRefused_9 ?_
  refine g_istore (L' := [(4, .int (f_X4_get X 2 24 v2 (nI 0))), (0, .ref (ad 0)), (1, .int v1), (2, .int v2), (3, .int v3)]) C dX5_isMoveRefused_12 (by decide) rfl ?_
  refine g_iload (j := 0) C dX5_isMoveRefused_14 rfl ?_
  refine g_aload_n (j := 1) C dX5_isMoveRefused_16 rfl rfl ?_
  refine g_getr (k := 0) (N := 11) C sC_0 rfl zin_RX5 (by decide) rfl zfl_RX5_10 rfl dX5_isMoveRefused_17 ?_
  refine g_getr (k := 3) (N := 8) C sC_1 rfl zin_RX3 (by decide) rfl zfl_RX5_210 rfl dX5_isMoveRefused_20 ?_
  refine g_iload_n (j := 2) C dX5_isMoveRefused_23 rfl rfl ?_
  refine g_iconst (v := (nI 5)) C dX5_isMoveRefused_24 (by decide) ?_
  refine g_vi (ws' := (zW cy ad shC E X)) (As := [.int v1, .int (nI 5)]) (rest := [.int (f_X4_get X 2 24 v2 (nI 0))]) (res := (f_X4_get X 8 360 v1 (nI 5))) C (c_X4_get l D cy ad E X 8 360 sC_8 sC_9 (by decide) v1 (nI 5)) zml_RX5_126 zcv_X4_get (zW_get X sC_8) rfl rfl rfl ⟨Nat.le_of_ble_eq_true rfl, Nat.le_of_ble_eq_true rfl⟩ rfl rfl (Nat.le_of_ble_eq_true rfl) ⟨Nat.zero_le _, Nat.zero_le _⟩ dX5_isMoveRefused_25 ?_
  refine g_icmp_ge C dX5_isMoveRefused_28 (tgt := 41) (by decide) (fun hc_1 => ?_) (fun hc_1 => ?_)
  · replace h := (if_pos hc_1).symm.trans h
    refine g_aload_n (j := 1) C dX5_isMoveRefused_41 rfl rfl ?_
    refine g_getr (k := 3) (N := 11) C sC_0 rfl zin_RX5 (by decide) rfl zfl_RX5_29 rfl dX5_isMoveRefused_42 ?_
    refine g_aload_n (j := 1) C dX5_isMoveRefused_45 rfl rfl ?_
    refine g_getr (k := 0) (N := 11) C sC_0 rfl zin_RX5 (by decide) rfl zfl_RX5_10 rfl dX5_isMoveRefused_46 ?_
    refine g_iload_n (j := 2) C dX5_isMoveRefused_49 rfl rfl ?_
    refine g_aload_n (j := 1) C dX5_isMoveRefused_50 rfl rfl ?_
    refine g_getr (k := 0) (N := 11) C sC_0 rfl zin_RX5 (by decide) rfl zfl_RX5_10 rfl dX5_isMoveRefused_51 ?_
    refine g_getr (k := 3) (N := 8) C sC_1 rfl zin_RX3 (by decide) rfl zfl_RX5_210 rfl dX5_isMoveRefused_54 ?_
    refine g_iload_n (j := 2) C dX5_isMoveRefused_57 rfl rfl ?_
    refine g_iconst (v := (nI 1)) C dX5_isMoveRefused_58 (by decide) ?_
    refine g_vi (ws' := (zW cy ad shC E X)) (As := [.int v1, .int (nI 1)]) (rest := [.int v1, .ref (ad 1), .ref (ad 146)]) (res := (f_X4_get X 8 360 v1 (nI 1))) C (c_X4_get l D cy ad E X 8 360 sC_8 sC_9 (by decide) v1 (nI 1)) zml_RX5_126 zcv_X4_get (zW_get X sC_8) rfl rfl rfl ⟨Nat.le_of_ble_eq_true rfl, Nat.le_of_ble_eq_true rfl⟩ rfl rfl (Nat.le_of_ble_eq_true rfl) ⟨Nat.zero_le _, Nat.zero_le _⟩ dX5_isMoveRefused_59 ?_
    refine g_aload_n (j := 1) C dX5_isMoveRefused_62 rfl rfl ?_
    refine g_getr (k := 0) (N := 11) C sC_0 rfl zin_RX5 (by decide) rfl zfl_RX5_10 rfl dX5_isMoveRefused_63 ?_
    refine g_getr (k := 3) (N := 8) C sC_1 rfl zin_RX3 (by decide) rfl zfl_RX5_210 rfl dX5_isMoveRefused_66 ?_
    refine g_iload_n (j := 2) C dX5_isMoveRefused_69 rfl rfl ?_
    refine g_iconst (v := (nI 2)) C dX5_isMoveRefused_70 (by decide) ?_
    refine g_vi (ws' := (zW cy ad shC E X)) (As := [.int v1, .int (nI 2)]) (rest := [.int (f_X4_get X 8 360 v1 (nI 1)), .int v1, .ref (ad 1), .ref (ad 146)]) (res := (f_X4_get X 8 360 v1 (nI 2))) C (c_X4_get l D cy ad E X 8 360 sC_8 sC_9 (by decide) v1 (nI 2)) zml_RX5_126 zcv_X4_get (zW_get X sC_8) rfl rfl rfl ⟨Nat.le_of_ble_eq_true rfl, Nat.le_of_ble_eq_true rfl⟩ rfl rfl (Nat.le_of_ble_eq_true rfl) ⟨Nat.zero_le _, Nat.zero_le _⟩ dX5_isMoveRefused_71 ?_
    obtain ⟨q_2, hq_3, h⟩ := bind_isome h
    refine g_vv (ws' := (zW cy ad shC E q_2)) (As := [.ref (ad 1), .int v1, .int (f_X4_get X 8 360 v1 (nI 1)), .int (f_X4_get X 8 360 v1 (nI 2))]) (rest := []) C (c_X2_takeUp l D cy ad E X v1 (f_X4_get X 8 360 v1 (nI 1)) (f_X4_get X 8 360 v1 (nI 2)) hq_3) zml_RX5_265 zcv_X2_takeUp (zW_get X sC_146) rfl rfl rfl ⟨Nat.le_of_ble_eq_true rfl, Nat.le_of_ble_eq_true rfl⟩ rfl rfl (Nat.le_of_ble_eq_true rfl) ⟨Nat.zero_le _, Nat.zero_le _⟩ dX5_isMoveRefused_74 ?_
    refine g_aload_n (j := 1) C dX5_isMoveRefused_77 rfl rfl ?_
    refine g_getr (k := 3) (N := 11) C sC_0 rfl zin_RX5 (by decide) rfl zfl_RX5_29 rfl dX5_isMoveRefused_78 ?_
    refine g_aload_n (j := 1) C dX5_isMoveRefused_81 rfl rfl ?_
    refine g_getr (k := 0) (N := 11) C sC_0 rfl zin_RX5 (by decide) rfl zfl_RX5_10 rfl dX5_isMoveRefused_82 ?_
    refine g_iload_n (j := 3) C dX5_isMoveRefused_85 rfl rfl ?_
    refine g_iload_n (j := 4) C dX5_isMoveRefused_86 rfl rfl ?_
    refine g_iload_n (j := 4) C dX5_isMoveRefused_87 rfl rfl ?_
    refine g_aload_n (j := 1) C dX5_isMoveRefused_88 rfl rfl ?_
    refine g_getr (k := 0) (N := 11) C sC_0 rfl zin_RX5 (by decide) rfl zfl_RX5_10 rfl dX5_isMoveRefused_89 ?_
    refine g_iload_n (j := 2) C dX5_isMoveRefused_92 rfl rfl ?_
    refine g_vi (ws' := (zW cy ad shC E q_2)) (As := [.int v1]) (rest := [.int v3, .int v3, .int v2, .ref (ad 1), .ref (ad 146)]) (res := (f_X3_minutesOf q_2 v1)) C (c_X3_minutesOf l D cy ad E q_2 v1) zml_RX5_428 zcv_X3_minutesOf (zW_get q_2 sC_1) rfl rfl rfl ⟨Nat.le_of_ble_eq_true rfl, Nat.le_of_ble_eq_true rfl⟩ rfl rfl (Nat.le_of_ble_eq_true rfl) ⟨Nat.zero_le _, Nat.zero_le _⟩ dX5_isMoveRefused_93 ?_
    refine g_iadd C dX5_isMoveRefused_96 ?_
    obtain ⟨q_4, hq_5, h⟩ := bind_isome h
    refine g_vi (ws' := (zW cy ad shC E q_4.2)) (As := [.ref (ad 1), .int v2, .int v3, .int (v3 + (f_X3_minutesOf q_2 v1))]) (rest := []) (res := q_4.1) C (c_X2_firstBroken l D cy ad E q_2 v2 v3 (v3 + (f_X3_minutesOf q_2 v1)) hq_5) zml_RX5_272 zcv_X2_firstBroken (zW_get q_2 sC_146) rfl rfl rfl ⟨Nat.le_of_ble_eq_true rfl, Nat.le_of_ble_eq_true rfl⟩ rfl rfl (Nat.le_of_ble_eq_true rfl) ⟨Nat.zero_le _, Nat.zero_le _⟩ dX5_isMoveRefused_97 ?_
    refine g_istore (L' := [(5, .int q_4.1), (4, .int (f_X4_get X 2 24 v2 (nI 0))), (0, .ref (ad 0)), (1, .int v1), (2, .int v2), (3, .int v3)]) C dX5_isMoveRefused_100 (by decide) rfl ?_
    refine g_iload (j := 0) C dX5_isMoveRefused_102 rfl ?_
    refine g_if_eq C dX5_isMoveRefused_104 (tgt := 120) (by decide) (fun hc_6 => ?_) (fun hc_6 => ?_)
    · replace h := (if_pos hc_6).symm.trans h
      refine g_iload (j := 0) C dX5_isMoveRefused_120 rfl ?_
      refine g_if_eq C dX5_isMoveRefused_122 (tgt := 129) (by decide) (fun _ => ?_) (fun h9 => absurd hc_6 h9)
      refine g_iconst (v := (nI 0)) C dX5_isMoveRefused_129 (by decide) ?_
      obtain rfl := Option.some.inj h
      exact g_iret rfl C hr (z_nb (Or.inl rfl)) dX5_isMoveRefused_130
    · replace h := (if_neg hc_6).symm.trans h
      refine g_aload_n (j := 2) C dX5_isMoveRefused_107 rfl rfl ?_
      refine g_iload (j := 0) C dX5_isMoveRefused_108 rfl ?_
      refine g_aload_n (j := 2) C dX5_isMoveRefused_110 rfl rfl ?_
      refine g_getr (k := 3) (N := 11) C sC_0 rfl zin_RX5 (by decide) rfl zfl_RX5_29 rfl dX5_isMoveRefused_111 ?_
      refine g_geti (k := 3) (N := 4) C sC_146 rfl zin_RX2 (by decide) rfl zfl_RX5_276 rfl dX5_isMoveRefused_114 ?_
      obtain ⟨X_7, e_8, h⟩ := zlet_ex h
      refine g_vv (ws' := (zW cy ad shC E X_7)) (As := [.int q_4.1, .int (q_4.2 146 3)]) (rest := []) C ((by rw [e_8]; exact c_X5_refuse l D cy ad E q_4.2 q_4.1 (q_4.2 146 3))) zml_RX5_424 zcv_X5_refuse (zW_get q_4.2 sC_0) rfl rfl rfl ⟨Nat.le_of_ble_eq_true rfl, Nat.le_of_ble_eq_true rfl⟩ rfl rfl (Nat.le_of_ble_eq_true rfl) ⟨Nat.zero_le _, Nat.zero_le _⟩ dX5_isMoveRefused_117 ?_
      refine g_iload (j := 0) C dX5_isMoveRefused_120 rfl ?_
      refine g_if_eq C dX5_isMoveRefused_122 (tgt := 129) (by decide) (fun h9 => absurd h9 hc_6) (fun _ => ?_)
      refine g_iconst (v := (nI 1)) C dX5_isMoveRefused_125 (by decide) ?_
      refine g_goto C dX5_isMoveRefused_126 (tgt := 130) (by decide) ?_
      obtain rfl := Option.some.inj h
      exact g_iret rfl C hr (z_nb (Or.inr rfl)) dX5_isMoveRefused_130
  · replace h := (if_neg hc_1).symm.trans h
    refine g_aload_n (j := 1) C dX5_isMoveRefused_31 rfl rfl ?_
    refine g_bipush (v := (nI 11)) C dX5_isMoveRefused_32 (by decide) ?_
    refine g_iload (j := 0) C dX5_isMoveRefused_34 rfl ?_
    obtain ⟨X_9, e_10, h⟩ := zlet_ex h
    refine g_vv (ws' := (zW cy ad shC E X_9)) (As := [.int (nI 11), .int (f_X4_get X 2 24 v2 (nI 0))]) (rest := []) C ((by rw [e_10]; exact c_X5_refuse l D cy ad E X (nI 11) (f_X4_get X 2 24 v2 (nI 0)))) zml_RX5_424 zcv_X5_refuse (zW_get X sC_0) rfl rfl rfl ⟨Nat.le_of_ble_eq_true rfl, Nat.le_of_ble_eq_true rfl⟩ rfl rfl (Nat.le_of_ble_eq_true rfl) ⟨Nat.zero_le _, Nat.zero_le _⟩ dX5_isMoveRefused_36 ?_
    refine g_iconst (v := (nI 1)) C dX5_isMoveRefused_39 (by decide) ?_
    obtain rfl := Option.some.inj h
    exact g_iret rfl C hr (z_nb (Or.inr rfl)) dX5_isMoveRefused_40
def f_X5_faultOfSell (X : Nat → Nat → Int32) (v1 v2 : Int32) : Int32 × (Nat → Nat → Int32) := (if (f_X4_isRow X 8 360 v1) = 0 then ((nI 1), X) else (if (f_X5_isWithin v2 (nI 1) (nI 400)) = 0 then ((nI 2), X) else (if (f_X3_isOpen X v1) = 0 then ((nI 3), X) else (if v2 ≤ ((f_X3_seatsOf X v1) - (f_X4_get X 8 360 v1 (nI 5))) then ((nI 0), X) else (zlet (f_X5_refuse X (nI 12) ((f_X3_seatsOf X v1) - (f_X4_get X 8 360 v1 (nI 5)))) fun X_5 => ((nI 4), X_5))))))
set_option maxRecDepth 100000 in
set_option maxHeartbeats 4000000 in
theorem c_X5_faultOfSell (l : Launch) (D : va_G) (cy : Nat → ClassId) (ad : Nat → Nat) (E : va_W) (X : Nat → Nat → Int32) (v1 v2 : Int32) : zMi l yX5_faultOfSell cX5_faultOfSell 4 (some .int) (zrm 5) D (zTy cy) (zW cy ad shC E X) [.ref (ad 0), .int v1, .int v2] ((f_X5_faultOfSell X v1 v2).1) (zW cy ad shC E (f_X5_faultOfSell X v1 v2).2) := by
  refine zMi.of (by decide) (Nat.le_of_ble_eq_true rfl) ?_
  intro p e s m below meth c A C hr
  generalize h : f_X5_faultOfSell X v1 v2 = res
  unfold f_X5_faultOfSell at h
  refine zG_L (L' := [(0, .ref (ad 0)), (1, .int v1), (2, .int v2)]) rfl ?_
  refine g_aload_n (j := 0) C dX5_faultOfSell_0 rfl rfl ?_
  refine g_getr (k := 0) (N := 11) C sC_0 rfl zin_RX5 (by decide) rfl zfl_RX5_10 rfl dX5_faultOfSell_1 ?_
  refine g_getr (k := 3) (N := 8) C sC_1 rfl zin_RX3 (by decide) rfl zfl_RX5_210 rfl dX5_faultOfSell_4 ?_
  refine g_iload_n (j := 1) C dX5_faultOfSell_7 rfl rfl ?_
  refine g_vi (ws' := (zW cy ad shC E X)) (As := [.int v1]) (rest := []) (res := (f_X4_isRow X 8 360 v1)) C (c_X4_isRow l D cy ad E X 8 360 sC_8 sC_9 (by decide) v1) zml_RX5_116 zcv_X4_isRow (zW_get X sC_8) rfl rfl rfl ⟨Nat.le_of_ble_eq_true rfl, Nat.le_of_ble_eq_true rfl⟩ rfl rfl (Nat.le_of_ble_eq_true rfl) ⟨Nat.zero_le _, Nat.zero_le _⟩ dX5_faultOfSell_8 ?_
  refine g_if_ne C dX5_faultOfSell_11 (tgt := 16) (by decide) (fun hc_1 => ?_) (fun hc_1 => ?_)
  · replace h := (if_neg hc_1).symm.trans h
    refine g_iload_n (j := 2) C dX5_faultOfSell_16 rfl rfl ?_
    refine g_iconst (v := (nI 1)) C dX5_faultOfSell_17 (by decide) ?_
    refine g_sipush (v := (nI 400)) C dX5_faultOfSell_18 (by decide) ?_
    refine g_si (ws' := (zW cy ad shC E X)) (As := [.int v2, .int (nI 1), .int (nI 400)]) (rest := []) (res := (f_X5_isWithin v2 (nI 1) (nI 400))) C (c_X5_isWithin l D cy (zW cy ad shC E X) v2 (nI 1) (nI 400)) zml_RX5_64 zcs_X5_isWithin rfl rfl ⟨Nat.le_of_ble_eq_true rfl, Nat.le_of_ble_eq_true rfl⟩ rfl rfl (Nat.le_of_ble_eq_true rfl) ⟨Nat.zero_le _, Nat.zero_le _⟩ dX5_faultOfSell_21 ?_
    refine g_if_ne C dX5_faultOfSell_24 (tgt := 29) (by decide) (fun hc_2 => ?_) (fun hc_2 => ?_)
    · replace h := (if_neg hc_2).symm.trans h
      refine g_aload_n (j := 0) C dX5_faultOfSell_29 rfl rfl ?_
      refine g_getr (k := 0) (N := 11) C sC_0 rfl zin_RX5 (by decide) rfl zfl_RX5_10 rfl dX5_faultOfSell_30 ?_
      refine g_iload_n (j := 1) C dX5_faultOfSell_33 rfl rfl ?_
      refine g_vi (ws' := (zW cy ad shC E X)) (As := [.int v1]) (rest := []) (res := (f_X3_isOpen X v1)) C (c_X3_isOpen l D cy ad E X v1) zml_RX5_220 zcv_X3_isOpen (zW_get X sC_1) rfl rfl rfl ⟨Nat.le_of_ble_eq_true rfl, Nat.le_of_ble_eq_true rfl⟩ rfl rfl (Nat.le_of_ble_eq_true rfl) ⟨Nat.zero_le _, Nat.zero_le _⟩ dX5_faultOfSell_34 ?_
      refine g_if_ne C dX5_faultOfSell_37 (tgt := 42) (by decide) (fun hc_3 => ?_) (fun hc_3 => ?_)
      · replace h := (if_neg hc_3).symm.trans h
        refine g_aload_n (j := 0) C dX5_faultOfSell_42 rfl rfl ?_
        refine g_getr (k := 0) (N := 11) C sC_0 rfl zin_RX5 (by decide) rfl zfl_RX5_10 rfl dX5_faultOfSell_43 ?_
        refine g_iload_n (j := 1) C dX5_faultOfSell_46 rfl rfl ?_
        refine g_vi (ws' := (zW cy ad shC E X)) (As := [.int v1]) (rest := []) (res := (f_X3_seatsOf X v1)) C (c_X3_seatsOf l D cy ad E X v1) zml_RX5_431 zcv_X3_seatsOf (zW_get X sC_1) rfl rfl rfl ⟨Nat.le_of_ble_eq_true rfl, Nat.le_of_ble_eq_true rfl⟩ rfl rfl (Nat.le_of_ble_eq_true rfl) ⟨Nat.zero_le _, Nat.zero_le _⟩ dX5_faultOfSell_47 ?_
        refine g_aload_n (j := 0) C dX5_faultOfSell_50 rfl rfl ?_
        refine g_getr (k := 0) (N := 11) C sC_0 rfl zin_RX5 (by decide) rfl zfl_RX5_10 rfl dX5_faultOfSell_51 ?_
        refine g_getr (k := 3) (N := 8) C sC_1 rfl zin_RX3 (by decide) rfl zfl_RX5_210 rfl dX5_faultOfSell_54 ?_
        refine g_iload_n (j := 1) C dX5_faultOfSell_57 rfl rfl ?_
        refine g_iconst (v := (nI 5)) C dX5_faultOfSell_58 (by decide) ?_
        refine g_vi (ws' := (zW cy ad shC E X)) (As := [.int v1, .int (nI 5)]) (rest := [.int (f_X3_seatsOf X v1)]) (res := (f_X4_get X 8 360 v1 (nI 5))) C (c_X4_get l D cy ad E X 8 360 sC_8 sC_9 (by decide) v1 (nI 5)) zml_RX5_126 zcv_X4_get (zW_get X sC_8) rfl rfl rfl ⟨Nat.le_of_ble_eq_true rfl, Nat.le_of_ble_eq_true rfl⟩ rfl rfl (Nat.le_of_ble_eq_true rfl) ⟨Nat.zero_le _, Nat.zero_le _⟩ dX5_faultOfSell_59 ?_
        refine g_isub C dX5_faultOfSell_62 ?_
        refine g_istore_n (L' := [(3, .int ((f_X3_seatsOf X v1) - (f_X4_get X 8 360 v1 (nI 5)))), (0, .ref (ad 0)), (1, .int v1), (2, .int v2)]) C dX5_faultOfSell_63 rfl (by decide) rfl ?_
        refine g_iload_n (j := 0) C dX5_faultOfSell_64 rfl rfl ?_
        refine g_iload_n (j := 3) C dX5_faultOfSell_65 rfl rfl ?_
        refine g_icmp_ge C dX5_faultOfSell_66 (tgt := 78) (by decide) (fun hc_4 => ?_) (fun hc_4 => ?_)
        · replace h := (if_pos hc_4).symm.trans h
          refine g_iconst (v := (nI 0)) C dX5_faultOfSell_78 (by decide) ?_
          subst h
          exact g_iret rfl C hr rfl dX5_faultOfSell_79
        · replace h := (if_neg hc_4).symm.trans h
          refine g_aload_n (j := 1) C dX5_faultOfSell_69 rfl rfl ?_
          refine g_bipush (v := (nI 12)) C dX5_faultOfSell_70 (by decide) ?_
          refine g_iload_n (j := 0) C dX5_faultOfSell_72 rfl rfl ?_
          obtain ⟨X_5, e_6, h⟩ := zlet_ex h
          refine g_vv (ws' := (zW cy ad shC E X_5)) (As := [.int (nI 12), .int ((f_X3_seatsOf X v1) - (f_X4_get X 8 360 v1 (nI 5)))]) (rest := []) C ((by rw [e_6]; exact c_X5_refuse l D cy ad E X (nI 12) ((f_X3_seatsOf X v1) - (f_X4_get X 8 360 v1 (nI 5))))) zml_RX5_424 zcv_X5_refuse (zW_get X sC_0) rfl rfl rfl ⟨Nat.le_of_ble_eq_true rfl, Nat.le_of_ble_eq_true rfl⟩ rfl rfl (Nat.le_of_ble_eq_true rfl) ⟨Nat.zero_le _, Nat.zero_le _⟩ dX5_faultOfSell_73 ?_
          refine g_iconst (v := (nI 4)) C dX5_faultOfSell_76 (by decide) ?_
          subst h
          exact g_iret rfl C hr rfl dX5_faultOfSell_77
      · replace h := (if_pos hc_3).symm.trans h
        refine g_iconst (v := (nI 3)) C dX5_faultOfSell_40 (by decide) ?_
        subst h
        exact g_iret rfl C hr rfl dX5_faultOfSell_41
    · replace h := (if_pos hc_2).symm.trans h
      refine g_iconst (v := (nI 2)) C dX5_faultOfSell_27 (by decide) ?_
      subst h
      exact g_iret rfl C hr rfl dX5_faultOfSell_28
  · replace h := (if_pos hc_1).symm.trans h
    refine g_iconst (v := (nI 1)) C dX5_faultOfSell_14 (by decide) ?_
    subst h
    exact g_iret rfl C hr rfl dX5_faultOfSell_15
