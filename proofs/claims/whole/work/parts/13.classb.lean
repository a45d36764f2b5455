/-! laid by wip/whole/mkparts.py -/
def f_X3_showAfter_L6 (X : Nat → Nat → Int32) (v1 : Int32) (v2 : Int32) (v3 : Int32) : Nat → Int32 → Int32 → Option Int32
  | 0, _, _ => none
  | fu + 1, v4, v5 => (if (f_X4_size X 8 360) ≤ v5 then some v4 else (if v4 = (-1 : Int32) then (if (f_X4_get X 8 360 v5 (nI 3)) ≤ v3 then f_X3_showAfter_L6 X v1 v2 v3 fu v4 (v5 + 1) else (if (f_X3_isShownIn X v5 v1 v2) = 0 then f_X3_showAfter_L6 X v1 v2 v3 fu v4 (v5 + 1) else f_X3_showAfter_L6 X v1 v2 v3 fu v5 (v5 + 1))) else (if (f_X4_get X 8 360 v4 (nI 3)) ≤ (f_X4_get X 8 360 v5 (nI 3)) then (if (f_X4_get X 8 360 v5 (nI 3)) ≤ v3 then f_X3_showAfter_L6 X v1 v2 v3 fu v4 (v5 + 1) else f_X3_showAfter_L6 X v1 v2 v3 fu v4 (v5 + 1)) else (if (f_X4_get X 8 360 v5 (nI 3)) ≤ v3 then f_X3_showAfter_L6 X v1 v2 v3 fu v4 (v5 + 1) else (if (f_X3_isShownIn X v5 v1 v2) = 0 then f_X3_showAfter_L6 X v1 v2 v3 fu v4 (v5 + 1) else f_X3_showAfter_L6 X v1 v2 v3 fu v5 (v5 + 1))))))
set_option maxRecDepth 100000 in
set_option maxHeartbeats 4000000 in
theorem w_X3_showAfter_L6 {p : Program} {e : Env} {s : State} {m : MethodId} {args : Array Value} {below : List Frame} {meth : Method} {c : Code} {A : Nat → Prop} (l : Launch) (D : va_G) (cy : Nat → ClassId) (ad : Nat → Nat) (E : va_W) (X : Nat → Nat → Int32) (v1 : Int32) (v2 : Int32) (v3 : Int32) {res : Int32} (C : zC p s m args meth c cX3_showAfter 8 RX3 D (zTy cy) A) (hr : meth.sig.returnType = (some .int)) : ∀ (fu : Nat) (v4 v5 : Int32) (h : f_X3_showAfter_L6 X v1 v2 v3 fu v4 v5 = some res), zG p l e (zrm 3) s m args below meth c 8 D A 0 0 (MQ below (va_Qi (fun (r : Int32) (_ : Unit) => r = res) (fun _ t => zB D (zTy cy) A (zW cy ad shC E X) t) A) args s 0 0 A) (zW cy ad shC E X) 6 [(0, .ref (ad 1)), (1, .int v1), (2, .int v2), (3, .int v3), (4, .int v4), (5, .int v5)] [] := by
  intro fu
  induction fu with
  | zero => intro v4 v5 h; simp [f_X3_showAfter_L6] at h
  | succ fu ih =>
    intro v4 v5 h
    rw [f_X3_showAfter_L6] at h
    refine g_iload (j := 5) C dX3_showAfter_6 rfl ?_
    refine g_aload_n (j := 0) C dX3_showAfter_8 rfl rfl ?_
    refine g_getr (k := 3) (N := 8) C sC_1 rfl zin_RX3 (by decide) rfl zfl_RX3_26 rfl dX3_showAfter_9 ?_
    refine g_vi (ws' := (zW cy ad shC E X)) (As := []) (rest := [.int v5]) (res := (f_X4_size X 8 360)) C (c_X4_size l D cy ad E X 8 360 sC_8 sC_9 (by decide)) zml_RX3_63 zcv_X4_size (zW_get X sC_8) rfl rfl rfl ⟨Nat.le_of_ble_eq_true rfl, Nat.le_of_ble_eq_true rfl⟩ rfl rfl (Nat.le_of_ble_eq_true rfl) ⟨Nat.zero_le _, Nat.zero_le _⟩ dX3_showAfter_12 ?_
    refine g_icmp_ge C dX3_showAfter_15 (tgt := 90) (by decide) (fun hc_1001 => ?_) (fun hc_1001 => ?_)
    · replace h := (if_pos hc_1001).symm.trans h
      refine g_iload (j := 4) C dX3_showAfter_90 rfl ?_
      obtain rfl := Option.some.inj h
      exact g_iret rfl C hr rfl dX3_showAfter_92
    · replace h := (if_neg hc_1001).symm.trans h
      refine g_aload_n (j := 0) C dX3_showAfter_18 rfl rfl ?_
      refine g_getr (k := 3) (N := 8) C sC_1 rfl zin_RX3 (by decide) rfl zfl_RX3_26 rfl dX3_showAfter_19 ?_
      refine g_iload (j := 5) C dX3_showAfter_22 rfl ?_
      refine g_iconst (v := (nI 3)) C dX3_showAfter_24 (by decide) ?_
      refine g_vi (ws' := (zW cy ad shC E X)) (As := [.int v5, .int (nI 3)]) (rest := []) (res := (f_X4_get X 8 360 v5 (nI 3))) C (c_X4_get l D cy ad E X 8 360 sC_8 sC_9 (by decide) v5 (nI 3)) zml_RX3_54 zcv_X4_get (zW_get X sC_8) rfl rfl rfl ⟨Nat.le_of_ble_eq_true rfl, Nat.le_of_ble_eq_true rfl⟩ rfl rfl (Nat.le_of_ble_eq_true rfl) ⟨Nat.zero_le _, Nat.zero_le _⟩ dX3_showAfter_25 ?_
      refine g_istore (L' := [(6, .int (f_X4_get X 8 360 v5 (nI 3))), (0, .ref (ad 1)), (1, .int v1), (2, .int v2), (3, .int v3), (4, .int v4), (5, .int v5)]) C dX3_showAfter_28 (by decide) rfl ?_
      refine g_iload (j := 5) C dX3_showAfter_30 rfl ?_
      refine g_iconst (v := (-1 : Int32)) C dX3_showAfter_32 (by decide) ?_
      refine g_icmp_eq C dX3_showAfter_33 (tgt := 51) (by decide) (fun hc_1002 => ?_) (fun hc_1002 => ?_)
      · replace h := (if_pos hc_1002).symm.trans h
        refine g_iconst (v := (nI 1)) C dX3_showAfter_51 (by decide) ?_
        refine g_goto C dX3_showAfter_52 (tgt := 56) (by decide) ?_
        refine g_istore (L' := [(7, .int (nI 1)), (6, .int (f_X4_get X 8 360 v5 (nI 3))), (0, .ref (ad 1)), (1, .int v1), (2, .int v2), (3, .int v3), (4, .int v4), (5, .int v5)]) C dX3_showAfter_56 (by decide) rfl ?_
        refine g_iload (j := 1) C dX3_showAfter_58 rfl ?_
        refine g_iload_n (j := 5) C dX3_showAfter_60 rfl rfl ?_
        refine g_icmp_le C dX3_showAfter_61 (tgt := 84) (by decide) (fun hc_1003 => ?_) (fun hc_1003 => ?_)
        · replace h := (if_pos hc_1003).symm.trans h
          refine g_iinc (k := 7) (L' := [(5, .int (v5 + 1)), (7, .int (nI 1)), (6, .int (f_X4_get X 8 360 v5 (nI 3))), (0, .ref (ad 1)), (1, .int v1), (2, .int v2), (3, .int v3), (4, .int v4)]) C dX3_showAfter_84 rfl (z_iinc (by decide)) (by decide) rfl ?_
          refine g_goto C dX3_showAfter_87 (tgt := 6) (by decide) ?_
          refine zG_sub (L' := [(0, .ref (ad 1)), (1, .int v1), (2, .int v2), (3, .int v3), (4, .int v4), (5, .int (v5 + 1))]) [3, 4, 5, 6, 7, 0] rfl ?_
          exact ih v4 (v5 + 1) h
        · replace h := (if_neg hc_1003).symm.trans h
          refine g_iload (j := 0) C dX3_showAfter_64 rfl ?_
          refine g_if_eq C dX3_showAfter_66 (tgt := 84) (by decide) (fun h9 => absurd h9 (by decide)) (fun _ => ?_)
          refine g_aload_n (j := 2) C dX3_showAfter_69 rfl rfl ?_
          refine g_iload (j := 7) C dX3_showAfter_70 rfl ?_
          refine g_iload_n (j := 3) C dX3_showAfter_72 rfl rfl ?_
          refine g_iload_n (j := 4) C dX3_showAfter_73 rfl rfl ?_
          refine g_vi (ws' := (zW cy ad shC E X)) (As := [.int v5, .int v1, .int v2]) (rest := []) (res := (f_X3_isShownIn X v5 v1 v2)) C (c_X3_isShownIn l D cy ad E X v5 v1 v2) zml_RX3_115 zcv_X3_isShownIn (zW_get X sC_1) rfl rfl rfl ⟨Nat.le_of_ble_eq_true rfl, Nat.le_of_ble_eq_true rfl⟩ rfl rfl (Nat.le_of_ble_eq_true rfl) ⟨Nat.zero_le _, Nat.zero_le _⟩ dX3_showAfter_74 ?_
          refine g_if_eq C dX3_showAfter_77 (tgt := 84) (by decide) (fun hc_1004 => ?_) (fun hc_1004 => ?_)
          · replace h := (if_pos hc_1004).symm.trans h
            refine g_iinc (k := 7) (L' := [(5, .int (v5 + 1)), (7, .int (nI 1)), (6, .int (f_X4_get X 8 360 v5 (nI 3))), (0, .ref (ad 1)), (1, .int v1), (2, .int v2), (3, .int v3), (4, .int v4)]) C dX3_showAfter_84 rfl (z_iinc (by decide)) (by decide) rfl ?_
            refine g_goto C dX3_showAfter_87 (tgt := 6) (by decide) ?_
            refine zG_sub (L' := [(0, .ref (ad 1)), (1, .int v1), (2, .int v2), (3, .int v3), (4, .int v4), (5, .int (v5 + 1))]) [3, 4, 5, 6, 7, 0] rfl ?_
            exact ih v4 (v5 + 1) h
          · replace h := (if_neg hc_1004).symm.trans h
            refine g_iload (j := 7) C dX3_showAfter_80 rfl ?_
            refine g_istore (L' := [(4, .int v5), (7, .int (nI 1)), (6, .int (f_X4_get X 8 360 v5 (nI 3))), (0, .ref (ad 1)), (1, .int v1), (2, .int v2), (3, .int v3), (5, .int v5)]) C dX3_showAfter_82 (by decide) rfl ?_
            refine g_iinc (k := 7) (L' := [(5, .int (v5 + 1)), (4, .int v5), (7, .int (nI 1)), (6, .int (f_X4_get X 8 360 v5 (nI 3))), (0, .ref (ad 1)), (1, .int v1), (2, .int v2), (3, .int v3)]) C dX3_showAfter_84 rfl (z_iinc (by decide)) (by decide) rfl ?_
            refine g_goto C dX3_showAfter_87 (tgt := 6) (by decide) ?_
            refine zG_sub (L' := [(0, .ref (ad 1)), (1, .int v1), (2, .int v2), (3, .int v3), (4, .int v5), (5, .int (v5 + 1))]) [4, 5, 6, 7, 1, 0] rfl ?_
            exact ih v5 (v5 + 1) h
      · replace h := (if_neg hc_1002).symm.trans h
        refine g_iload (j := 0) C dX3_showAfter_36 rfl ?_
        refine g_aload_n (j := 1) C dX3_showAfter_38 rfl rfl ?_
        refine g_getr (k := 3) (N := 8) C sC_1 rfl zin_RX3 (by decide) rfl zfl_RX3_26 rfl dX3_showAfter_39 ?_
        refine g_iload (j := 5) C dX3_showAfter_42 rfl ?_
        refine g_iconst (v := (nI 3)) C dX3_showAfter_44 (by decide) ?_
        refine g_vi (ws' := (zW cy ad shC E X)) (As := [.int v4, .int (nI 3)]) (rest := [.int (f_X4_get X 8 360 v5 (nI 3))]) (res := (f_X4_get X 8 360 v4 (nI 3))) C (c_X4_get l D cy ad E X 8 360 sC_8 sC_9 (by decide) v4 (nI 3)) zml_RX3_54 zcv_X4_get (zW_get X sC_8) rfl rfl rfl ⟨Nat.le_of_ble_eq_true rfl, Nat.le_of_ble_eq_true rfl⟩ rfl rfl (Nat.le_of_ble_eq_true rfl) ⟨Nat.zero_le _, Nat.zero_le _⟩ dX3_showAfter_45 ?_
        refine g_icmp_ge C dX3_showAfter_48 (tgt := 55) (by decide) (fun hc_1005 => ?_) (fun hc_1005 => ?_)
        · replace h := (if_pos hc_1005).symm.trans h
          refine g_iconst (v := (nI 0)) C dX3_showAfter_55 (by decide) ?_
          refine g_istore (L' := [(7, .int (nI 0)), (6, .int (f_X4_get X 8 360 v5 (nI 3))), (0, .ref (ad 1)), (1, .int v1), (2, .int v2), (3, .int v3), (4, .int v4), (5, .int v5)]) C dX3_showAfter_56 (by decide) rfl ?_
          refine g_iload (j := 1) C dX3_showAfter_58 rfl ?_
          refine g_iload_n (j := 5) C dX3_showAfter_60 rfl rfl ?_
          refine g_icmp_le C dX3_showAfter_61 (tgt := 84) (by decide) (fun hc_1006 => ?_) (fun hc_1006 => ?_)
          · replace h := (if_pos hc_1006).symm.trans h
            refine g_iinc (k := 7) (L' := [(5, .int (v5 + 1)), (7, .int (nI 0)), (6, .int (f_X4_get X 8 360 v5 (nI 3))), (0, .ref (ad 1)), (1, .int v1), (2, .int v2), (3, .int v3), (4, .int v4)]) C dX3_showAfter_84 rfl (z_iinc (by decide)) (by decide) rfl ?_
            refine g_goto C dX3_showAfter_87 (tgt := 6) (by decide) ?_
            refine zG_sub (L' := [(0, .ref (ad 1)), (1, .int v1), (2, .int v2), (3, .int v3), (4, .int v4), (5, .int (v5 + 1))]) [3, 4, 5, 6, 7, 0] rfl ?_
            exact ih v4 (v5 + 1) h
          · replace h := (if_neg hc_1006).symm.trans h
            refine g_iload (j := 0) C dX3_showAfter_64 rfl ?_
            refine g_if_eq C dX3_showAfter_66 (tgt := 84) (by decide) (fun _ => ?_) (fun h9 => absurd h9 (by decide))
            refine g_iinc (k := 7) (L' := [(5, .int (v5 + 1)), (7, .int (nI 0)), (6, .int (f_X4_get X 8 360 v5 (nI 3))), (0, .ref (ad 1)), (1, .int v1), (2, .int v2), (3, .int v3), (4, .int v4)]) C dX3_showAfter_84 rfl (z_iinc (by decide)) (by decide) rfl ?_
            refine g_goto C dX3_showAfter_87 (tgt := 6) (by decide) ?_
            refine zG_sub (L' := [(0, .ref (ad 1)), (1, .int v1), (2, .int v2), (3, .int v3), (4, .int v4), (5, .int (v5 + 1))]) [3, 4, 5, 6, 7, 0] rfl ?_
            exact ih v4 (v5 + 1) h
        · replace h := (if_neg hc_1005).symm.trans h
          refine g_iconst (v := (nI 1)) C dX3_showAfter_51 (by decide) ?_
          refine g_goto C dX3_showAfter_52 (tgt := 56) (by decide) ?_
          refine g_istore (L' := [(7, .int (nI 1)), (6, .int (f_X4_get X 8 360 v5 (nI 3))), (0, .ref (ad 1)), (1, .int v1), (2, .int v2), (3, .int v3), (4, .int v4), (5, .int v5)]) C dX3_showAfter_56 (by decide) rfl ?_
          refine g_iload (j := 1) C dX3_showAfter_58 rfl ?_
          refine g_iload_n (j := 5) C dX3_showAfter_60 rfl rfl ?_
          refine g_icmp_le C dX3_showAfter_61 (tgt := 84) (by decide) (fun hc_1007 => ?_) (fun hc_1007 => ?_)
          · replace h := (if_pos hc_1007).symm.trans h
            refine g_iinc (k := 7) (L' := [(5, .int (v5 + 1)), (7, .int (nI 1)), (6, .int (f_X4_get X 8 360 v5 (nI 3))), (0, .ref (ad 1)), (1, .int v1), (2, .int v2), (3, .int v3), (4, .int v4)]) C dX3_showAfter_84 rfl (z_iinc (by decide)) (by decide) rfl ?_
            refine g_goto C dX3_showAfter_87 (tgt := 6) (by decide) ?_
            refine zG_sub (L' := [(0, .ref (ad 1)), (1, .int v1), (2, .int v2), (3, .int v3), (4, .int v4), (5, .int (v5 + 1))]) [3, 4, 5, 6, 7, 0] rfl ?_
            exact ih v4 (v5 + 1) h
          · replace h := (if_neg hc_1007).symm.trans h
            refine g_iload (j := 0) C dX3_showAfter_64 rfl ?_
            refine g_if_eq C dX3_showAfter_66 (tgt := 84) (by decide) (fun h9 => absurd h9 (by decide)) (fun _ => ?_)
            refine g_aload_n (j := 2) C dX3_showAfter_69 rfl rfl ?_
            refine g_iload (j := 7) C dX3_showAfter_70 rfl ?_
            refine g_iload_n (j := 3) C dX3_showAfter_72 rfl rfl ?_
            refine g_iload_n (j := 4) C dX3_showAfter_73 rfl rfl ?_
            refine g_vi (ws' := (zW cy ad shC E X)) (As := [.int v5, .int v1, .int v2]) (rest := []) (res := (f_X3_isShownIn X v5 v1 v2)) C (c_X3_isShownIn l D cy ad E X v5 v1 v2) zml_RX3_115 zcv_X3_isShownIn (zW_get X sC_1) rfl rfl rfl ⟨Nat.le_of_ble_eq_true rfl, Nat.le_of_ble_eq_true rfl⟩ rfl rfl (Nat.le_of_ble_eq_true rfl) ⟨Nat.zero_le _, Nat.zero_le _⟩ dX3_showAfter_74 ?_
            refine g_if_eq C dX3_showAfter_77 (tgt := 84) (by decide) (fun hc_1008 => ?_) (fun hc_1008 => ?_)
            · replace h := (if_pos hc_1008).symm.trans h
              refine g_iinc (k := 7) (L' := [(5, .int (v5 + 1)), (7, .int (nI 1)), (6, .int (f_X4_get X 8 360 v5 (nI 3))), (0, .ref (ad 1)), (1, .int v1), (2, .int v2), (3, .int v3), (4, .int v4)]) C dX3_showAfter_84 rfl (z_iinc (by decide)) (by decide) rfl ?_
              refine g_goto C dX3_showAfter_87 (tgt := 6) (by decide) ?_
              refine zG_sub (L' := [(0, .ref (ad 1)), (1, .int v1), (2, .int v2), (3, .int v3), (4, .int v4), (5, .int (v5 + 1))]) [3, 4, 5, 6, 7, 0] rfl ?_
              exact ih v4 (v5 + 1) h
            · replace h := (if_neg hc_1008).symm.trans h
              refine g_iload (j := 7) C dX3_showAfter_80 rfl ?_
              refine g_istore (L' := [(4, .int v5), (7, .int (nI 1)), (6, .int (f_X4_get X 8 360 v5 (nI 3))), (0, .ref (ad 1)), (1, .int v1), (2, .int v2), (3, .int v3), (5, .int v5)]) C dX3_showAfter_82 (by decide) rfl ?_
              refine g_iinc (k := 7) (L' := [(5, .int (v5 + 1)), (4, .int v5), (7, .int (nI 1)), (6, .int (f_X4_get X 8 360 v5 (nI 3))), (0, .ref (ad 1)), (1, .int v1), (2, .int v2), (3, .int v3)]) C dX3_showAfter_84 rfl (z_iinc (by decide)) (by decide) rfl ?_
              refine g_goto C dX3_showAfter_87 (tgt := 6) (by decide) ?_
              refine zG_sub (L' := [(0, .ref (ad 1)), (1, .int v1), (2, .int v2), (3, .int v3), (4, .int v5), (5, .int (v5 + 1))]) [4, 5, 6, 7, 1, 0] rfl ?_
              exact ih v5 (v5 + 1) h
def f_X3_showAfter (X : Nat → Nat → Int32) (v1 v2 v3 : Int32) : Option Int32 := f_X3_showAfter_L6 X v1 v2 v3 zFuel (-1 : Int32) (nI 0)
set_option maxRecDepth 100000 in
set_option maxHeartbeats 4000000 in
theorem c_X3_showAfter (l : Launch) (D : va_G) (cy : Nat → ClassId) (ad : Nat → Nat) (E : va_W) (X : Nat → Nat → Int32) (v1 v2 v3 : Int32) {res : Int32} (h : f_X3_showAfter X v1 v2 v3 = some res) : zMi l yX3_showAfter cX3_showAfter 8 (some .int) (zrm 3) D (zTy cy) (zW cy ad shC E X) [.ref (ad 1), .int v1, .int v2, .int v3] res (zW cy ad shC E X) := by
  refine zMi.of (by decide) (Nat.le_of_ble_eq_true rfl) ?_
  intro p e s m below meth c A C hr
  unfold f_X3_showAfter at h
  refine zG_L (L' := [(0, .ref (ad 1)), (1, .int v1), (2, .int v2), (3, .int v3)]) rfl ?_
  refine g_iconst (v := (-1 : Int32)) C dX3_showAfter_0 (by decide) ?_
  refine g_istore (L' := [(4, .int (-1 : Int32)), (0, .ref (ad 1)), (1, .int v1), (2, .int v2), (3, .int v3)]) C dX3_showAfter_1 (by decide) rfl ?_
  refine g_iconst (v := (nI 0)) C dX3_showAfter_3 (by decide) ?_
  refine g_istore (L' := [(5, .int (nI 0)), (4, .int (-1 : Int32)), (0, .ref (ad 1)), (1, .int v1), (2, .int v2), (3, .int v3)]) C dX3_showAfter_4 (by decide) rfl ?_
  refine zG_sub (L' := [(0, .ref (ad 1)), (1, .int v1), (2, .int v2), (3, .int v3), (4, .int (-1 : Int32)), (5, .int (nI 0))]) [2, 3, 4, 5, 1, 0] rfl ?_
  exact w_X3_showAfter_L6 l D cy ad E X v1 v2 v3 C hr zFuel (-1 : Int32) (nI 0) h
def f_X3_shownMinutes_L5 (X : Nat → Nat → Int32) (v1 : Int32) (v2 : Int32) : Nat → Int32 → Int32 → Option Int32
  | 0, _, _ => none
  | fu + 1, v3, v4 => (if (f_X4_size X 8 360) ≤ v4 then some v3 else (if (f_X3_isShownIn X v4 v1 v2) = 0 then f_X3_shownMinutes_L5 X v1 v2 fu v3 (v4 + 1) else f_X3_shownMinutes_L5 X v1 v2 fu (v3 + (f_X3_minutesOf X v4)) (v4 + 1)))
set_option maxRecDepth 100000 in
set_option maxHeartbeats 4000000 in
theorem w_X3_shownMinutes_L5 {p : Program} {e : Env} {s : State} {m : MethodId} {args : Array Value} {below : List Frame} {meth : Method} {c : Code} {A : Nat → Prop} (l : Launch) (D : va_G) (cy : Nat → ClassId) (ad : Nat → Nat) (E : va_W) (X : Nat → Nat → Int32) (v1 : Int32) (v2 : Int32) {res : Int32} (C : zC p s m args meth c cX3_shownMinutes 5 RX3 D (zTy cy) A) (hr : meth.sig.returnType = (some .int)) : ∀ (fu : Nat) (v3 v4 : Int32) (h : f_X3_shownMinutes_L5 X v1 v2 fu v3 v4 = some res), zG p l e (zrm 3) s m args below meth c 5 D A 0 0 (MQ below (va_Qi (fun (r : Int32) (_ : Unit) => r = res) (fun _ t => zB D (zTy cy) A (zW cy ad shC E X) t) A) args s 0 0 A) (zW cy ad shC E X) 5 [(0, .ref (ad 1)), (1, .int v1), (2, .int v2), (3, .int v3), (4, .int v4)] [] := by
  intro fu
  induction fu with
  | zero => intro v3 v4 h; simp [f_X3_shownMinutes_L5] at h
  | succ fu ih =>
    intro v3 v4 h
    rw [f_X3_shownMinutes_L5] at h
    refine g_iload (j := 4) C dX3_shownMinutes_5 rfl ?_
    refine g_aload_n (j := 0) C dX3_shownMinutes_7 rfl rfl ?_
    refine g_getr (k := 3) (N := 8) C sC_1 rfl zin_RX3 (by decide) rfl zfl_RX3_26 rfl dX3_shownMinutes_8 ?_
    refine g_vi (ws' := (zW cy ad shC E X)) (As := []) (rest := [.int v4]) (res := (f_X4_size X 8 360)) C (c_X4_size l D cy ad E X 8 360 sC_8 sC_9 (by decide)) zml_RX3_63 zcv_X4_size (zW_get X sC_8) rfl rfl rfl ⟨Nat.le_of_ble_eq_true rfl, Nat.le_of_ble_eq_true rfl⟩ rfl rfl (Nat.le_of_ble_eq_true rfl) ⟨Nat.zero_le _, Nat.zero_le _⟩ dX3_shownMinutes_11 ?_
    refine g_icmp_ge C dX3_shownMinutes_14 (tgt := 43) (by decide) (fun hc_1001 => ?_) (fun hc_1001 => ?_)
    · replace h := (if_pos hc_1001).symm.trans h
      refine g_iload_n (j := 3) C dX3_shownMinutes_43 rfl rfl ?_
      obtain rfl := Option.some.inj h
      exact g_iret rfl C hr rfl dX3_shownMinutes_44
    · replace h := (if_neg hc_1001).symm.trans h
      refine g_aload_n (j := 0) C dX3_shownMinutes_17 rfl rfl ?_
      refine g_iload (j := 4) C dX3_shownMinutes_18 rfl ?_
      refine g_iload_n (j := 1) C dX3_shownMinutes_20 rfl rfl ?_
      refine g_iload_n (j := 2) C dX3_shownMinutes_21 rfl rfl ?_
      refine g_vi (ws' := (zW cy ad shC E X)) (As := [.int v4, .int v1, .int v2]) (rest := []) (res := (f_X3_isShownIn X v4 v1 v2)) C (c_X3_isShownIn l D cy ad E X v4 v1 v2) zml_RX3_115 zcv_X3_isShownIn (zW_get X sC_1) rfl rfl rfl ⟨Nat.le_of_ble_eq_true rfl, Nat.le_of_ble_eq_true rfl⟩ rfl rfl (Nat.le_of_ble_eq_true rfl) ⟨Nat.zero_le _, Nat.zero_le _⟩ dX3_shownMinutes_22 ?_
      refine g_if_eq C dX3_shownMinutes_25 (tgt := 37) (by decide) (fun hc_1002 => ?_) (fun hc_1002 => ?_)
      · replace h := (if_pos hc_1002).symm.trans h
        refine g_iinc (k := 4) (L' := [(4, .int (v4 + 1)), (0, .ref (ad 1)), (1, .int v1), (2, .int v2), (3, .int v3)]) C dX3_shownMinutes_37 rfl (z_iinc (by decide)) (by decide) rfl ?_
        refine g_goto C dX3_shownMinutes_40 (tgt := 5) (by decide) ?_
        refine zG_sub (L' := [(0, .ref (ad 1)), (1, .int v1), (2, .int v2), (3, .int v3), (4, .int (v4 + 1))]) [1, 2, 3, 4, 0] rfl ?_
        exact ih v3 (v4 + 1) h
      · replace h := (if_neg hc_1002).symm.trans h
        refine g_iload_n (j := 3) C dX3_shownMinutes_28 rfl rfl ?_
        refine g_aload_n (j := 0) C dX3_shownMinutes_29 rfl rfl ?_
        refine g_iload (j := 4) C dX3_shownMinutes_30 rfl ?_
        refine g_vi (ws' := (zW cy ad shC E X)) (As := [.int v4]) (rest := [.int v3]) (res := (f_X3_minutesOf X v4)) C (c_X3_minutesOf l D cy ad E X v4) zml_RX3_103 zcv_X3_minutesOf (zW_get X sC_1) rfl rfl rfl ⟨Nat.le_of_ble_eq_true rfl, Nat.le_of_ble_eq_true rfl⟩ rfl rfl (Nat.le_of_ble_eq_true rfl) ⟨Nat.zero_le _, Nat.zero_le _⟩ dX3_shownMinutes_32 ?_
        refine g_iadd C dX3_shownMinutes_35 ?_
        refine g_istore_n (L' := [(3, .int (v3 + (f_X3_minutesOf X v4))), (0, .ref (ad 1)), (1, .int v1), (2, .int v2), (4, .int v4)]) C dX3_shownMinutes_36 rfl (by decide) rfl ?_
        refine g_iinc (k := 4) (L' := [(4, .int (v4 + 1)), (3, .int (v3 + (f_X3_minutesOf X v4))), (0, .ref (ad 1)), (1, .int v1), (2, .int v2)]) C dX3_shownMinutes_37 rfl (z_iinc (by decide)) (by decide) rfl ?_
        refine g_goto C dX3_shownMinutes_40 (tgt := 5) (by decide) ?_
        refine zG_sub (L' := [(0, .ref (ad 1)), (1, .int v1), (2, .int v2), (3, .int (v3 + (f_X3_minutesOf X v4))), (4, .int (v4 + 1))]) [2, 3, 4, 1, 0] rfl ?_
        exact ih (v3 + (f_X3_minutesOf X v4)) (v4 + 1) h
def f_X3_shownMinutes (X : Nat → Nat → Int32) (v1 v2 : Int32) : Option Int32 := f_X3_shownMinutes_L5 X v1 v2 zFuel (nI 0) (nI 0)
set_option maxRecDepth 100000 in
set_option maxHeartbeats 4000000 in
theorem c_X3_shownMinutes (l : Launch) (D : va_G) (cy : Nat → ClassId) (ad : Nat → Nat) (E : va_W) (X : Nat → Nat → Int32) (v1 v2 : Int32) {res : Int32} (h : f_X3_shownMinutes X v1 v2 = some res) : zMi l yX3_shownMinutes cX3_shownMinutes 5 (some .int) (zrm 3) D (zTy cy) (zW cy ad shC E X) [.ref (ad 1), .int v1, .int v2] res (zW cy ad shC E X) := by
  refine zMi.of (by decide) (Nat.le_of_ble_eq_true rfl) ?_
  intro p e s m below meth c A C hr
  unfold f_X3_shownMinutes at h
  refine zG_L (L' := [(0, .ref (ad 1)), (1, .int v1), (2, .int v2)]) rfl ?_
  refine g_iconst (v := (nI 0)) C dX3_shownMinutes_0 (by decide) ?_
  refine g_istore_n (L' := [(3, .int (nI 0)), (0, .ref (ad 1)), (1, .int v1), (2, .int v2)]) C dX3_shownMinutes_1 rfl (by decide) rfl ?_
  refine g_iconst (v := (nI 0)) C dX3_shownMinutes_2 (by decide) ?_
  refine g_istore (L' := [(4, .int (nI 0)), (3, .int (nI 0)), (0, .ref (ad 1)), (1, .int v1), (2, .int v2)]) C dX3_shownMinutes_3 (by decide) rfl ?_
  refine zG_sub (L' := [(0, .ref (ad 1)), (1, .int v1), (2, .int v2), (3, .int (nI 0)), (4, .int (nI 0))]) [2, 3, 4, 1, 0] rfl ?_
  exact w_X3_shownMinutes_L5 l D cy ad E X v1 v2 C hr zFuel (nI 0) (nI 0) h
def f_X3_cleanedMinutes_L5 (X : Nat → Nat → Int32) (v1 : Int32) (v2 : Int32) : Nat → Int32 → Int32 → Option Int32
  | 0, _, _ => none
  | fu + 1, v3, v4 => (if (f_X4_size X 8 360) ≤ v4 then some v3 else (if (f_X3_isShownIn X v4 v1 v2) = 0 then f_X3_cleanedMinutes_L5 X v1 v2 fu v3 (v4 + 1) else f_X3_cleanedMinutes_L5 X v1 v2 fu (v3 + (if ((nI 960) - (f_X4_get X 8 360 v4 (nI 4))) < (f_X3_cleaningOf X v4) then ((nI 960) - (f_X4_get X 8 360 v4 (nI 4))) else (f_X3_cleaningOf X v4))) (v4 + 1)))
set_option maxRecDepth 100000 in
set_option maxHeartbeats 4000000 in
theorem w_X3_cleanedMinutes_L5 {p : Program} {e : Env} {s : State} {m : MethodId} {args : Array Value} {below : List Frame} {meth : Method} {c : Code} {A : Nat → Prop} (l : Launch) (D : va_G) (cy : Nat → ClassId) (ad : Nat → Nat) (E : va_W) (X : Nat → Nat → Int32) (v1 : Int32) (v2 : Int32) {res : Int32} (C : zC p s m args meth c cX3_cleanedMinutes 5 RX3 D (zTy cy) A) (hr : meth.sig.returnType = (some .int)) : ∀ (fu : Nat) (v3 v4 : Int32) (h : f_X3_cleanedMinutes_L5 X v1 v2 fu v3 v4 = some res), zG p l e (zrm 3) s m args below meth c 5 D A 0 0 (MQ below (va_Qi (fun (r : Int32) (_ : Unit) => r = res) (fun _ t => zB D (zTy cy) A (zW cy ad shC E X) t) A) args s 0 0 A) (zW cy ad shC E X) 5 [(0, .ref (ad 1)), (1, .int v1), (2, .int v2), (3, .int v3), (4, .int v4)] [] := by
  intro fu
  induction fu with
  | zero => intro v3 v4 h; simp [f_X3_cleanedMinutes_L5] at h
  | succ fu ih =>
    intro v3 v4 h
    rw [f_X3_cleanedMinutes_L5] at h
    refine g_iload (j := 4) C dX3_cleanedMinutes_5 rfl ?_
    refine g_aload_n (j := 0) C dX3_cleanedMinutes_7 rfl rfl ?_
    refine g_getr (k := 3) (N := 8) C sC_1 rfl zin_RX3 (by decide) rfl zfl_RX3_26 rfl dX3_cleanedMinutes_8 ?_
    refine g_vi (ws' := (zW cy ad shC E X)) (As := []) (rest := [.int v4]) (res := (f_X4_size X 8 360)) C (c_X4_size l D cy ad E X 8 360 sC_8 sC_9 (by decide)) zml_RX3_63 zcv_X4_size (zW_get X sC_8) rfl rfl rfl ⟨Nat.le_of_ble_eq_true rfl, Nat.le_of_ble_eq_true rfl⟩ rfl rfl (Nat.le_of_ble_eq_true rfl) ⟨Nat.zero_le _, Nat.zero_le _⟩ dX3_cleanedMinutes_11 ?_
    refine g_icmp_ge C dX3_cleanedMinutes_14 (tgt := 60) (by decide) (fun hc_1001 => ?_) (fun hc_1001 => ?_)
    · replace h := (if_pos hc_1001).symm.trans h
      refine g_iload_n (j := 3) C dX3_cleanedMinutes_60 rfl rfl ?_
      obtain rfl := Option.some.inj h
      exact g_iret rfl C hr rfl dX3_cleanedMinutes_61
    · replace h := (if_neg hc_1001).symm.trans h
      refine g_aload_n (j := 0) C dX3_cleanedMinutes_17 rfl rfl ?_
      refine g_iload (j := 4) C dX3_cleanedMinutes_18 rfl ?_
      refine g_iload_n (j := 1) C dX3_cleanedMinutes_20 rfl rfl ?_
      refine g_iload_n (j := 2) C dX3_cleanedMinutes_21 rfl rfl ?_
      refine g_vi (ws' := (zW cy ad shC E X)) (As := [.int v4, .int v1, .int v2]) (rest := []) (res := (f_X3_isShownIn X v4 v1 v2)) C (c_X3_isShownIn l D cy ad E X v4 v1 v2) zml_RX3_115 zcv_X3_isShownIn (zW_get X sC_1) rfl rfl rfl ⟨Nat.le_of_ble_eq_true rfl, Nat.le_of_ble_eq_true rfl⟩ rfl rfl (Nat.le_of_ble_eq_true rfl) ⟨Nat.zero_le _, Nat.zero_le _⟩ dX3_cleanedMinutes_22 ?_
      refine g_if_eq C dX3_cleanedMinutes_25 (tgt := 54) (by decide) (fun hc_1002 => ?_) (fun hc_1002 => ?_)
      · replace h := (if_pos hc_1002).symm.trans h
        refine g_iinc (k := 4) (L' := [(4, .int (v4 + 1)), (0, .ref (ad 1)), (1, .int v1), (2, .int v2), (3, .int v3)]) C dX3_cleanedMinutes_54 rfl (z_iinc (by decide)) (by decide) rfl ?_
        refine g_goto C dX3_cleanedMinutes_57 (tgt := 5) (by decide) ?_
        refine zG_sub (L' := [(0, .ref (ad 1)), (1, .int v1), (2, .int v2), (3, .int v3), (4, .int (v4 + 1))]) [1, 2, 3, 4, 0] rfl ?_
        exact ih v3 (v4 + 1) h
      · replace h := (if_neg hc_1002).symm.trans h
        refine g_iload_n (j := 3) C dX3_cleanedMinutes_28 rfl rfl ?_
        refine g_aload_n (j := 0) C dX3_cleanedMinutes_29 rfl rfl ?_
        refine g_iload (j := 4) C dX3_cleanedMinutes_30 rfl ?_
        refine g_vi (ws' := (zW cy ad shC E X)) (As := [.int v4]) (rest := [.int v3]) (res := (f_X3_cleaningOf X v4)) C (c_X3_cleaningOf l D cy ad E X v4) zml_RX3_118 zcv_X3_cleaningOf (zW_get X sC_1) rfl rfl rfl ⟨Nat.le_of_ble_eq_true rfl, Nat.le_of_ble_eq_true rfl⟩ rfl rfl (Nat.le_of_ble_eq_true rfl) ⟨Nat.zero_le _, Nat.zero_le _⟩ dX3_cleanedMinutes_32 ?_
        refine g_sipush (v := (nI 960)) C dX3_cleanedMinutes_35 (by decide) ?_
        refine g_aload_n (j := 0) C dX3_cleanedMinutes_38 rfl rfl ?_
        refine g_getr (k := 3) (N := 8) C sC_1 rfl zin_RX3 (by decide) rfl zfl_RX3_26 rfl dX3_cleanedMinutes_39 ?_
        refine g_iload (j := 4) C dX3_cleanedMinutes_42 rfl ?_
        refine g_iconst (v := (nI 4)) C dX3_cleanedMinutes_44 (by decide) ?_
        refine g_vi (ws' := (zW cy ad shC E X)) (As := [.int v4, .int (nI 4)]) (rest := [.int (nI 960), .int (f_X3_cleaningOf X v4), .int v3]) (res := (f_X4_get X 8 360 v4 (nI 4))) C (c_X4_get l D cy ad E X 8 360 sC_8 sC_9 (by decide) v4 (nI 4)) zml_RX3_54 zcv_X4_get (zW_get X sC_8) rfl rfl rfl ⟨Nat.le_of_ble_eq_true rfl, Nat.le_of_ble_eq_true rfl⟩ rfl rfl (Nat.le_of_ble_eq_true rfl) ⟨Nat.zero_le _, Nat.zero_le _⟩ dX3_cleanedMinutes_45 ?_
        refine g_isub C dX3_cleanedMinutes_48 ?_
        refine g_mmin C zml_RX3_121 (Nat.le_of_ble_eq_true rfl) (Nat.le_of_ble_eq_true rfl) (Nat.le_of_ble_eq_true rfl) (Nat.le_of_ble_eq_true rfl) dX3_cleanedMinutes_49 ?_
        refine g_iadd C dX3_cleanedMinutes_52 ?_
        refine g_istore_n (L' := [(3, .int (v3 + (if ((nI 960) - (f_X4_get X 8 360 v4 (nI 4))) < (f_X3_cleaningOf X v4) then ((nI 960) - (f_X4_get X 8 360 v4 (nI 4))) else (f_X3_cleaningOf X v4)))), (0, .ref (ad 1)), (1, .int v1), (2, .int v2), (4, .int v4)]) C dX3_cleanedMinutes_53 rfl (by decide) rfl ?_
        refine g_iinc (k := 4) (L' := [(4, .int (v4 + 1)), (3, .int (v3 + (if ((nI 960) - (f_X4_get X 8 360 v4 (nI 4))) < (f_X3_cleaningOf X v4) then ((nI 960) - (f_X4_get X 8 360 v4 (nI 4))) else (f_X3_cleaningOf X v4)))), (0, .ref (ad 1)), (1, .int v1), (2, .int v2)]) C dX3_cleanedMinutes_54 rfl (z_iinc (by decide)) (by decide) rfl ?_
        refine g_goto C dX3_cleanedMinutes_57 (tgt := 5) (by decide) ?_
        refine zG_sub (L' := [(0, .ref (ad 1)), (1, .int v1), (2, .int v2), (3, .int (v3 + (if ((nI 960) - (f_X4_get X 8 360 v4 (nI 4))) < (f_X3_cleaningOf X v4) then ((nI 960) - (f_X4_get X 8 360 v4 (nI 4))) else (f_X3_cleaningOf X v4)))), (4, .int (v4 + 1))]) [2, 3, 4, 1, 0] rfl ?_
        exact ih (v3 + (if ((nI 960) - (f_X4_get X 8 360 v4 (nI 4))) < (f_X3_cleaningOf X v4) then ((nI 960) - (f_X4_get X 8 360 v4 (nI 4))) else (f_X3_cleaningOf X v4))) (v4 + 1) h
def f_X3_cleanedMinutes (X : Nat → Nat → Int32) (v1 v2 : Int32) : Option Int32 := f_X3_cleanedMinutes_L5 X v1 v2 zFuel (nI 0) (nI 0)
set_option maxRecDepth 100000 in
set_option maxHeartbeats 4000000 in
theorem c_X3_cleanedMinutes (l : Launch) (D : va_G) (cy : Nat → ClassId) (ad : Nat → Nat) (E : va_W) (X : Nat → Nat → Int32) (v1 v2 : Int32) {res : Int32} (h : f_X3_cleanedMinutes X v1 v2 = some res) : zMi l yX3_cleanedMinutes cX3_cleanedMinutes 5 (some .int) (zrm 3) D (zTy cy) (zW cy ad shC E X) [.ref (ad 1), .int v1, .int v2] res (zW cy ad shC E X) := by
  refine zMi.of (by decide) (Nat.le_of_ble_eq_true rfl) ?_
  intro p e s m below meth c A C hr
  unfold f_X3_cleanedMinutes at h
  refine zG_L (L' := [(0, .ref (ad 1)), (1, .int v1), (2, .int v2)]) rfl ?_
  refine g_iconst (v := (nI 0)) C dX3_cleanedMinutes_0 (by decide) ?_
  refine g_istore_n (L' := [(3, .int (nI 0)), (0, .ref (ad 1)), (1, .int v1), (2, .int v2)]) C dX3_cleanedMinutes_1 rfl (by decide) rfl ?_
  refine g_iconst (v := (nI 0)) C dX3_cleanedMinutes_2 (by decide) ?_
  refine g_istore (L' := [(4, .int (nI 0)), (3, .int (nI 0)), (0, .ref (ad 1)), (1, .int v1), (2, .int v2)]) C dX3_cleanedMinutes_3 (by decide) rfl ?_
  refine zG_sub (L' := [(0, .ref (ad 1)), (1, .int v1), (2, .int v2), (3, .int (nI 0)), (4, .int (nI 0))]) [2, 3, 4, 1, 0] rfl ?_
  exact w_X3_cleanedMinutes_L5 l D cy ad E X v1 v2 C hr zFuel (nI 0) (nI 0) h
def f_X3_greatestEnd_L5 (X : Nat → Nat → Int32) (v1 : Int32) (v2 : Int32) : Nat → Int32 → Int32 → Option Int32
  | 0, _, _ => none
  | fu + 1, v3, v4 => (if (f_X4_size X 8 360) ≤ v4 then some v3 else (if (f_X3_isShownIn X v4 v1 v2) = 0 then f_X3_greatestEnd_L5 X v1 v2 fu v3 (v4 + 1) else f_X3_greatestEnd_L5 X v1 v2 fu (if v3 < (f_X4_get X 8 360 v4 (nI 4)) then (f_X4_get X 8 360 v4 (nI 4)) else v3) (v4 + 1)))
set_option maxRecDepth 100000 in
set_option maxHeartbeats 4000000 in
theorem w_X3_greatestEnd_L5 {p : Program} {e : Env} {s : State} {m : MethodId} {args : Array Value} {below : List Frame} {meth : Method} {c : Code} {A : Nat → Prop} (l : Launch) (D : va_G) (cy : Nat → ClassId) (ad : Nat → Nat) (E : va_W) (X : Nat → Nat → Int32) (v1 : Int32) (v2 : Int32) {res : Int32} (C : zC p s m args meth c cX3_greatestEnd 5 RX3 D (zTy cy) A) (hr : meth.sig.returnType = (some .int)) : ∀ (fu : Nat) (v3 v4 : Int32) (h : f_X3_greatestEnd_L5 X v1 v2 fu v3 v4 = some res), zG p l e (zrm 3) s m args below meth c 5 D A 0 0 (MQ below (va_Qi (fun (r : Int32) (_ : Unit) => r = res) (fun _ t => zB D (zTy cy) A (zW cy ad shC E X) t) A) args s 0 0 A) (zW cy ad shC E X) 5 [(0, .ref (ad 1)), (1, .int v1), (2, .int v2), (3, .int v3), (4, .int v4)] [] := by
  intro fu
  induction fu with
  | zero => intro v3 v4 h; simp [f_X3_greatestEnd_L5] at h
  | succ fu ih =>
    intro v3 v4 h
    rw [f_X3_greatestEnd_L5] at h
    refine g_iload (j := 4) C dX3_greatestEnd_5 rfl ?_
    refine g_aload_n (j := 0) C dX3_greatestEnd_7 rfl rfl ?_
    refine g_getr (k := 3) (N := 8) C sC_1 rfl zin_RX3 (by decide) rfl zfl_RX3_26 rfl dX3_greatestEnd_8 ?_
    refine g_vi (ws' := (zW cy ad shC E X)) (As := []) (rest := [.int v4]) (res := (f_X4_size X 8 360)) C (c_X4_size l D cy ad E X 8 360 sC_8 sC_9 (by decide)) zml_RX3_63 zcv_X4_size (zW_get X sC_8) rfl rfl rfl ⟨Nat.le_of_ble_eq_true rfl, Nat.le_of_ble_eq_true rfl⟩ rfl rfl (Nat.le_of_ble_eq_true rfl) ⟨Nat.zero_le _, Nat.zero_le _⟩ dX3_greatestEnd_11 ?_
    refine g_icmp_ge C dX3_greatestEnd_14 (tgt := 49) (by decide) (fun hc_1001 => ?_) (fun hc_1001 => ?_)
    · replace h := (if_pos hc_1001).symm.trans h
      refine g_iload_n (j := 3) C dX3_greatestEnd_49 rfl rfl ?_
      obtain rfl := Option.some.inj h
      exact g_iret rfl C hr rfl dX3_greatestEnd_50
    · replace h := (if_neg hc_1001).symm.trans h
      refine g_aload_n (j := 0) C dX3_greatestEnd_17 rfl rfl ?_
      refine g_iload (j := 4) C dX3_greatestEnd_18 rfl ?_
      refine g_iload_n (j := 1) C dX3_greatestEnd_20 rfl rfl ?_
      refine g_iload_n (j := 2) C dX3_greatestEnd_21 rfl rfl ?_
      refine g_vi (ws' := (zW cy ad shC E X)) (As := [.int v4, .int v1, .int v2]) (rest := []) (res := (f_X3_isShownIn X v4 v1 v2)) C (c_X3_isShownIn l D cy ad E X v4 v1 v2) zml_RX3_115 zcv_X3_isShownIn (zW_get X sC_1) rfl rfl rfl ⟨Nat.le_of_ble_eq_true rfl, Nat.le_of_ble_eq_true rfl⟩ rfl rfl (Nat.le_of_ble_eq_true rfl) ⟨Nat.zero_le _, Nat.zero_le _⟩ dX3_greatestEnd_22 ?_
      refine g_if_eq C dX3_greatestEnd_25 (tgt := 43) (by decide) (fun hc_1002 => ?_) (fun hc_1002 => ?_)
      · replace h := (if_pos hc_1002).symm.trans h
        refine g_iinc (k := 4) (L' := [(4, .int (v4 + 1)), (0, .ref (ad 1)), (1, .int v1), (2, .int v2), (3, .int v3)]) C dX3_greatestEnd_43 rfl (z_iinc (by decide)) (by decide) rfl ?_
        refine g_goto C dX3_greatestEnd_46 (tgt := 5) (by decide) ?_
        refine zG_sub (L' := [(0, .ref (ad 1)), (1, .int v1), (2, .int v2), (3, .int v3), (4, .int (v4 + 1))]) [1, 2, 3, 4, 0] rfl ?_
        exact ih v3 (v4 + 1) h
      · replace h := (if_neg hc_1002).symm.trans h
        refine g_iload_n (j := 3) C dX3_greatestEnd_28 rfl rfl ?_
        refine g_aload_n (j := 0) C dX3_greatestEnd_29 rfl rfl ?_
        refine g_getr (k := 3) (N := 8) C sC_1 rfl zin_RX3 (by decide) rfl zfl_RX3_26 rfl dX3_greatestEnd_30 ?_
        refine g_iload (j := 4) C dX3_greatestEnd_33 rfl ?_
        refine g_iconst (v := (nI 4)) C dX3_greatestEnd_35 (by decide) ?_
        refine g_vi (ws' := (zW cy ad shC E X)) (As := [.int v4, .int (nI 4)]) (rest := [.int v3]) (res := (f_X4_get X 8 360 v4 (nI 4))) C (c_X4_get l D cy ad E X 8 360 sC_8 sC_9 (by decide) v4 (nI 4)) zml_RX3_54 zcv_X4_get (zW_get X sC_8) rfl rfl rfl ⟨Nat.le_of_ble_eq_true rfl, Nat.le_of_ble_eq_true rfl⟩ rfl rfl (Nat.le_of_ble_eq_true rfl) ⟨Nat.zero_le _, Nat.zero_le _⟩ dX3_greatestEnd_36 ?_
        refine g_mmax C zml_RX3_58 (Nat.le_of_ble_eq_true rfl) (Nat.le_of_ble_eq_true rfl) (Nat.le_of_ble_eq_true rfl) (Nat.le_of_ble_eq_true rfl) dX3_greatestEnd_39 ?_
        refine g_istore_n (L' := [(3, .int (if v3 < (f_X4_get X 8 360 v4 (nI 4)) then (f_X4_get X 8 360 v4 (nI 4)) else v3)), (0, .ref (ad 1)), (1, .int v1), (2, .int v2), (4, .int v4)]) C dX3_greatestEnd_42 rfl (by decide) rfl ?_
        refine g_iinc (k := 4) (L' := [(4, .int (v4 + 1)), (3, .int (if v3 < (f_X4_get X 8 360 v4 (nI 4)) then (f_X4_get X 8 360 v4 (nI 4)) else v3)), (0, .ref (ad 1)), (1, .int v1), (2, .int v2)]) C dX3_greatestEnd_43 rfl (z_iinc (by decide)) (by decide) rfl ?_
        refine g_goto C dX3_greatestEnd_46 (tgt := 5) (by decide) ?_
        refine zG_sub (L' := [(0, .ref (ad 1)), (1, .int v1), (2, .int v2), (3, .int (if v3 < (f_X4_get X 8 360 v4 (nI 4)) then (f_X4_get X 8 360 v4 (nI 4)) else v3)), (4, .int (v4 + 1))]) [2, 3, 4, 1, 0] rfl ?_
        exact ih (if v3 < (f_X4_get X 8 360 v4 (nI 4)) then (f_X4_get X 8 360 v4 (nI 4)) else v3) (v4 + 1) h
def f_X3_greatestEnd (X : Nat → Nat → Int32) (v1 v2 : Int32) : Option Int32 := f_X3_greatestEnd_L5 X v1 v2 zFuel (-1 : Int32) (nI 0)
set_option maxRecDepth 100000 in
set_option maxHeartbeats 4000000 in
theorem c_X3_greatestEnd (l : Launch) (D : va_G) (cy : Nat → ClassId) (ad : Nat → Nat) (E : va_W) (X : Nat → Nat → Int32) (v1 v2 : Int32) {res : Int32} (h : f_X3_greatestEnd X v1 v2 = some res) : zMi l yX3_greatestEnd cX3_greatestEnd 5 (some .int) (zrm 3) D (zTy cy) (zW cy ad shC E X) [.ref (ad 1), .int v1, .int v2] res (zW cy ad shC E X) := by
  refine zMi.of (by decide) (Nat.le_of_ble_eq_true rfl) ?_
  intro p e s m below meth c A C hr
  unfold f_X3_greatestEnd at h
  refine zG_L (L' := [(0, .ref (ad 1)), (1, .int v1), (2, .int v2)]) rfl ?_
  refine g_iconst (v := (-1 : Int32)) C dX3_greatestEnd_0 (by decide) ?_
  refine g_istore_n (L' := [(3, .int (-1 : Int32)), (0, .ref (ad 1)), (1, .int v1), (2, .int v2)]) C dX3_greatestEnd_1 rfl (by decide) rfl ?_
  refine g_iconst (v := (nI 0)) C dX3_greatestEnd_2 (by decide) ?_
  refine g_istore (L' := [(4, .int (nI 0)), (3, .int (-1 : Int32)), (0, .ref (ad 1)), (1, .int v1), (2, .int v2)]) C dX3_greatestEnd_3 (by decide) rfl ?_
  refine zG_sub (L' := [(0, .ref (ad 1)), (1, .int v1), (2, .int v2), (3, .int (-1 : Int32)), (4, .int (nI 0))]) [2, 3, 4, 1, 0] rfl ?_
  exact w_X3_greatestEnd_L5 l D cy ad E X v1 v2 C hr zFuel (-1 : Int32) (nI 0) h
def f_X3_isRunning (X : Nat → Nat → Int32) (v1 v2 v3 : Int32) : Int32 := (if v3 < (f_X4_get X 8 360 v1 (nI 3)) then (nI 0) else (if (f_X4_get X 8 360 v1 (nI 4)) ≤ v3 then (nI 0) else (if (f_X3_isShownOn X v1 v2) = 0 then (nI 0) else (nI 1))))
theorem b_X3_isRunning (X : Nat → Nat → Int32) (v1 v2 v3 : Int32) : f_X3_isRunning X v1 v2 v3 = 0 ∨ f_X3_isRunning X v1 v2 v3 = 1 := by
  unfold f_X3_isRunning
  repeat' split
  all_goals first | exact Or.inl rfl | exact Or.inr rfl | apply b_X3_isShownOn
set_option maxRecDepth 100000 in
set_option maxHeartbeats 4000000 in
theorem c_X3_isRunning (l : Launch) (D : va_G) (cy : Nat → ClassId) (ad : Nat → Nat) (E : va_W) (X : Nat → Nat → Int32) (v1 v2 v3 : Int32) : zMi l yX3_isRunning cX3_isRunning 4 (some .boolean) (zrm 3) D (zTy cy) (zW cy ad shC E X) [.ref (ad 1), .int v1, .int v2, .int v3] (f_X3_isRunning X v1 v2 v3) (zW cy ad shC E X) := by
  refine zMi.of (by decide) (Nat.le_of_ble_eq_true rfl) ?_
  intro p e s m below meth c A C hr
  generalize h : f_X3_isRunning X v1 v2 v3 = res
  unfold f_X3_isRunning at h
  refine zG_L (L' := [(0, .ref (ad 1)), (1, .int v1), (2, .int v2), (3, .int v3)]) rfl ?_
  refine g_aload_n (j := 0) C dX3_isRunning_0 rfl rfl ?_
  refine g_getr (k := 3) (N := 8) C sC_1 rfl zin_RX3 (by decide) rfl zfl_RX3_26 rfl dX3_isRunning_1 ?_
  refine g_iload_n (j := 1) C dX3_isRunning_4 rfl rfl ?_
  refine g_iconst (v := (nI 3)) C dX3_isRunning_5 (by decide) ?_
  refine g_vi (ws' := (zW cy ad shC E X)) (As := [.int v1, .int (nI 3)]) (rest := []) (res := (f_X4_get X 8 360 v1 (nI 3))) C (c_X4_get l D cy ad E X 8 360 sC_8 sC_9 (by decide) v1 (nI 3)) zml_RX3_54 zcv_X4_get (zW_get X sC_8) rfl rfl rfl ⟨Nat.le_of_ble_eq_true rfl, Nat.le_of_ble_eq_true rfl⟩ rfl rfl (Nat.le_of_ble_eq_true rfl) ⟨Nat.zero_le _, Nat.zero_le _⟩ dX3_isRunning_6 ?_
  refine g_iload_n (j := 3) C dX3_isRunning_9 rfl rfl ?_
  refine g_icmp_gt C dX3_isRunning_10 (tgt := 39) (by decide) (fun hc_1 => ?_) (fun hc_1 => ?_)
  · replace h := (if_pos hc_1).symm.trans h
    refine g_iconst (v := (nI 0)) C dX3_isRunning_39 (by decide) ?_
    subst h
    exact g_iret rfl C hr (z_nb (Or.inl rfl)) dX3_isRunning_40
  · replace h := (if_neg hc_1).symm.trans h
    refine g_iload_n (j := 3) C dX3_isRunning_13 rfl rfl ?_
    refine g_aload_n (j := 0) C dX3_isRunning_14 rfl rfl ?_
    refine g_getr (k := 3) (N := 8) C sC_1 rfl zin_RX3 (by decide) rfl zfl_RX3_26 rfl dX3_isRunning_15 ?_
    refine g_iload_n (j := 1) C dX3_isRunning_18 rfl rfl ?_
    refine g_iconst (v := (nI 4)) C dX3_isRunning_19 (by decide) ?_
    refine g_vi (ws' := (zW cy ad shC E X)) (As := [.int v1, .int (nI 4)]) (rest := [.int v3]) (res := (f_X4_get X 8 360 v1 (nI 4))) C (c_X4_get l D cy ad E X 8 360 sC_8 sC_9 (by decide) v1 (nI 4)) zml_RX3_54 zcv_X4_get (zW_get X sC_8) rfl rfl rfl ⟨Nat.le_of_ble_eq_true rfl, Nat.le_of_ble_eq_true rfl⟩ rfl rfl (Nat.le_of_ble_eq_true rfl) ⟨Nat.zero_le _, Nat.zero_le _⟩ dX3_isRunning_20 ?_
    refine g_icmp_ge C dX3_isRunning_23 (tgt := 39) (by decide) (fun hc_2 => ?_) (fun hc_2 => ?_)
    · replace h := (if_pos hc_2).symm.trans h
      refine g_iconst (v := (nI 0)) C dX3_isRunning_39 (by decide) ?_
      subst h
      exact g_iret rfl C hr (z_nb (Or.inl rfl)) dX3_isRunning_40
    · replace h := (if_neg hc_2).symm.trans h
      refine g_aload_n (j := 0) C dX3_isRunning_26 rfl rfl ?_
      refine g_iload_n (j := 1) C dX3_isRunning_27 rfl rfl ?_
      refine g_iload_n (j := 2) C dX3_isRunning_28 rfl rfl ?_
      refine g_vi (ws' := (zW cy ad shC E X)) (As := [.int v1, .int v2]) (rest := []) (res := (f_X3_isShownOn X v1 v2)) C (c_X3_isShownOn l D cy ad E X v1 v2) zml_RX3_124 zcv_X3_isShownOn (zW_get X sC_1) rfl rfl rfl ⟨Nat.le_of_ble_eq_true rfl, Nat.le_of_ble_eq_true rfl⟩ rfl rfl (Nat.le_of_ble_eq_true rfl) ⟨Nat.zero_le _, Nat.zero_le _⟩ dX3_isRunning_29 ?_
      refine g_if_eq C dX3_isRunning_32 (tgt := 39) (by decide) (fun hc_3 => ?_) (fun hc_3 => ?_)
      · replace h := (if_pos hc_3).symm.trans h
        refine g_iconst (v := (nI 0)) C dX3_isRunning_39 (by decide) ?_
        subst h
        exact g_iret rfl C hr (z_nb (Or.inl rfl)) dX3_isRunning_40
      · replace h := (if_neg hc_3).symm.trans h
        refine g_iconst (v := (nI 1)) C dX3_isRunning_35 (by decide) ?_
        refine g_goto C dX3_isRunning_36 (tgt := 40) (by decide) ?_
        subst h
        exact g_iret rfl C hr (z_nb (Or.inr rfl)) dX3_isRunning_40
def f_X3_running_L6 (X : Nat → Nat → Int32) (v1 : Int32) (v2 : Int32) (v3 : Int32) : Nat → Int32 → Int32 → Option Int32
  | 0, _, _ => none
  | fu + 1, v4, v5 => (if (f_X4_size X 8 360) ≤ v5 then some v4 else (if (f_X3_isRunning X v5 v2 v3) = 0 then f_X3_running_L6 X v1 v2 v3 fu v4 (v5 + 1) else f_X3_running_L6 X v1 v2 v3 fu (v4 + (f_X3_measureOf X v5 v1)) (v5 + 1)))
set_option maxRecDepth 100000 in
set_option maxHeartbeats 4000000 in
theorem w_X3_running_L6 {p : Program} {e : Env} {s : State} {m : MethodId} {args : Array Value} {below : List Frame} {meth : Method} {c : Code} {A : Nat → Prop} (l : Launch) (D : va_G) (cy : Nat → ClassId) (ad : Nat → Nat) (E : va_W) (X : Nat → Nat → Int32) (v1 : Int32) (v2 : Int32) (v3 : Int32) {res : Int32} (C : zC p s m args meth c cX3_running 6 RX3 D (zTy cy) A) (hr : meth.sig.returnType = (some .int)) : ∀ (fu : Nat) (v4 v5 : Int32) (h : f_X3_running_L6 X v1 v2 v3 fu v4 v5 = some res), zG p l e (zrm 5) s m args below meth c 6 D A 0 0 (MQ below (va_Qi (fun (r : Int32) (_ : Unit) => r = res) (fun _ t => zB D (zTy cy) A (zW cy ad shC E X) t) A) args s 0 0 A) (zW cy ad shC E X) 6 [(0, .ref (ad 1)), (1, .int v1), (2, .int v2), (3, .int v3), (4, .int v4), (5, .int v5)] [] := by
  intro fu
  induction fu with
  | zero => intro v4 v5 h; simp [f_X3_running_L6] at h
  | succ fu ih =>
    intro v4 v5 h
    rw [f_X3_running_L6] at h
    refine g_iload (j := 5) C dX3_running_6 rfl ?_
    refine g_aload_n (j := 0) C dX3_running_8 rfl rfl ?_
    refine g_getr (k := 3) (N := 8) C sC_1 rfl zin_RX3 (by decide) rfl zfl_RX3_26 rfl dX3_running_9 ?_
    refine g_vi (ws' := (zW cy ad shC E X)) (As := []) (rest := [.int v5]) (res := (f_X4_size X 8 360)) C (c_X4_size l D cy ad E X 8 360 sC_8 sC_9 (by decide)) zml_RX3_63 zcv_X4_size (zW_get X sC_8) rfl rfl rfl ⟨Nat.le_of_ble_eq_true rfl, Nat.le_of_ble_eq_true rfl⟩ rfl rfl (Nat.le_of_ble_eq_true rfl) ⟨Nat.zero_le _, Nat.zero_le _⟩ dX3_running_12 ?_
    refine g_icmp_ge C dX3_running_15 (tgt := 47) (by decide) (fun hc_1001 => ?_) (fun hc_1001 => ?_)
    · replace h := (if_pos hc_1001).symm.trans h
      refine g_iload (j := 4) C dX3_running_47 rfl ?_
      obtain rfl := Option.some.inj h
      exact g_iret rfl C hr rfl dX3_running_49
    · replace h := (if_neg hc_1001).symm.trans h
      refine g_aload_n (j := 0) C dX3_running_18 rfl rfl ?_
      refine g_iload (j := 5) C dX3_running_19 rfl ?_
      refine g_iload_n (j := 2) C dX3_running_21 rfl rfl ?_
      refine g_iload_n (j := 3) C dX3_running_22 rfl rfl ?_
      refine g_vi (ws' := (zW cy ad shC E X)) (As := [.int v5, .int v2, .int v3]) (rest := []) (res := (f_X3_isRunning X v5 v2 v3)) C (c_X3_isRunning l D cy ad E X v5 v2 v3) zml_RX3_127 zcv_X3_isRunning (zW_get X sC_1) rfl rfl rfl ⟨Nat.le_of_ble_eq_true rfl, Nat.le_of_ble_eq_true rfl⟩ rfl rfl (Nat.le_of_ble_eq_true rfl) ⟨Nat.zero_le _, Nat.zero_le _⟩ dX3_running_23 ?_
      refine g_if_eq C dX3_running_26 (tgt := 41) (by decide) (fun hc_1002 => ?_) (fun hc_1002 => ?_)
      · replace h := (if_pos hc_1002).symm.trans h
        refine g_iinc (k := 5) (L' := [(5, .int (v5 + 1)), (0, .ref (ad 1)), (1, .int v1), (2, .int v2), (3, .int v3), (4, .int v4)]) C dX3_running_41 rfl (z_iinc (by decide)) (by decide) rfl ?_
        refine g_goto C dX3_running_44 (tgt := 6) (by decide) ?_
        refine zG_sub (L' := [(0, .ref (ad 1)), (1, .int v1), (2, .int v2), (3, .int v3), (4, .int v4), (5, .int (v5 + 1))]) [1, 2, 3, 4, 5, 0] rfl ?_
        exact ih v4 (v5 + 1) h
      · replace h := (if_neg hc_1002).symm.trans h
        refine g_iload (j := 4) C dX3_running_29 rfl ?_
        refine g_aload_n (j := 0) C dX3_running_31 rfl rfl ?_
        refine g_iload (j := 5) C dX3_running_32 rfl ?_
        refine g_iload_n (j := 1) C dX3_running_34 rfl rfl ?_
        refine g_vi (ws' := (zW cy ad shC E X)) (As := [.int v5, .int v1]) (rest := [.int v4]) (res := (f_X3_measureOf X v5 v1)) C (c_X3_measureOf l D cy ad E X v5 v1) zml_RX3_112 zcv_X3_measureOf (zW_get X sC_1) rfl rfl rfl ⟨Nat.le_of_ble_eq_true rfl, Nat.le_of_ble_eq_true rfl⟩ rfl rfl (Nat.le_of_ble_eq_true rfl) ⟨Nat.zero_le _, Nat.zero_le _⟩ dX3_running_35 ?_
        refine g_iadd C dX3_running_38 ?_
        refine g_istore (L' := [(4, .int (v4 + (f_X3_measureOf X v5 v1))), (0, .ref (ad 1)), (1, .int v1), (2, .int v2), (3, .int v3), (5, .int v5)]) C dX3_running_39 (by decide) rfl ?_
        refine g_iinc (k := 5) (L' := [(5, .int (v5 + 1)), (4, .int (v4 + (f_X3_measureOf X v5 v1))), (0, .ref (ad 1)), (1, .int v1), (2, .int v2), (3, .int v3)]) C dX3_running_41 rfl (z_iinc (by decide)) (by decide) rfl ?_
        refine g_goto C dX3_running_44 (tgt := 6) (by decide) ?_
        refine zG_sub (L' := [(0, .ref (ad 1)), (1, .int v1), (2, .int v2), (3, .int v3), (4, .int (v4 + (f_X3_measureOf X v5 v1))), (5, .int (v5 + 1))]) [2, 3, 4, 5, 1, 0] rfl ?_
        exact ih (v4 + (f_X3_measureOf X v5 v1)) (v5 + 1) h
def f_X3_running (X : Nat → Nat → Int32) (v1 v2 v3 : Int32) : Option Int32 := f_X3_running_L6 X v1 v2 v3 zFuel (nI 0) (nI 0)
set_option maxRecDepth 100000 in
set_option maxHeartbeats 4000000 in
theorem c_X3_running (l : Launch) (D : va_G) (cy : Nat → ClassId) (ad : Nat → Nat) (E : va_W) (X : Nat → Nat → Int32) (v1 v2 v3 : Int32) {res : Int32} (h : f_X3_running X v1 v2 v3 = some res) : zMi l yX3_running cX3_running 6 (some .int) (zrm 5) D (zTy cy) (zW cy ad shC E X) [.ref (ad 1), .int v1, .int v2, .int v3] res (zW cy ad shC E X) := by
  refine zMi.of (by decide) (Nat.le_of_ble_eq_true rfl) ?_
  intro p e s m below meth c A C hr
  unfold f_X3_running at h
  refine zG_L (L' := [(0, .ref (ad 1)), (1, .int v1), (2, .int v2), (3, .int v3)]) rfl ?_
  refine g_iconst (v := (nI 0)) C dX3_running_0 (by decide) ?_
  refine g_istore (L' := [(4, .int (nI 0)), (0, .ref (ad 1)), (1, .int v1), (2, .int v2), (3, .int v3)]) C dX3_running_1 (by decide) rfl ?_
  refine g_iconst (v := (nI 0)) C dX3_running_3 (by decide) ?_
  refine g_istore (L' := [(5, .int (nI 0)), (4, .int (nI 0)), (0, .ref (ad 1)), (1, .int v1), (2, .int v2), (3, .int v3)]) C dX3_running_4 (by decide) rfl ?_
  refine zG_sub (L' := [(0, .ref (ad 1)), (1, .int v1), (2, .int v2), (3, .int v3), (4, .int (nI 0)), (5, .int (nI 0))]) [2, 3, 4, 5, 1, 0] rfl ?_
  exact w_X3_running_L6 l D cy ad E X v1 v2 v3 C hr zFuel (nI 0) (nI 0) h
def f_X3_firstRunning_L2 (X : Nat → Nat → Int32) (v1 : Int32) (v2 : Int32) : Nat → Int32 → Option Int32
  | 0, _ => none
  | fu + 1, v3 => (if (f_X4_size X 8 360) ≤ v3 then some (-1 : Int32) else (if (f_X3_isRunning X v3 v1 v2) = 0 then f_X3_firstRunning_L2 X v1 v2 fu (v3 + 1) else some v3))
set_option maxRecDepth 100000 in
set_option maxHeartbeats 4000000 in
theorem w_X3_firstRunning_L2 {p : Program} {e : Env} {s : State} {m : MethodId} {args : Array Value} {below : List Frame} {meth : Method} {c : Code} {A : Nat → Prop} (l : Launch) (D : va_G) (cy : Nat → ClassId) (ad : Nat → Nat) (E : va_W) (X : Nat → Nat → Int32) (v1 : Int32) (v2 : Int32) {res : Int32} (C : zC p s m args meth c cX3_firstRunning 4 RX3 D (zTy cy) A) (hr : meth.sig.returnType = (some .int)) : ∀ (fu : Nat) (v3 : Int32) (h : f_X3_firstRunning_L2 X v1 v2 fu v3 = some res), zG p l e (zrm 4) s m args below meth c 4 D A 0 0 (MQ below (va_Qi (fun (r : Int32) (_ : Unit) => r = res) (fun _ t => zB D (zTy cy) A (zW cy ad shC E X) t) A) args s 0 0 A) (zW cy ad shC E X) 2 [(0, .ref (ad 1)), (1, .int v1), (2, .int v2), (3, .int v3)] [] := by
  intro fu
  induction fu with
  | zero => intro v3 h; simp [f_X3_firstRunning_L2] at h
  | succ fu ih =>
    intro v3 h
    rw [f_X3_firstRunning_L2] at h
    refine g_iload_n (j := 3) C dX3_firstRunning_2 rfl rfl ?_
    refine g_aload_n (j := 0) C dX3_firstRunning_3 rfl rfl ?_
    refine g_getr (k := 3) (N := 8) C sC_1 rfl zin_RX3 (by decide) rfl zfl_RX3_26 rfl dX3_firstRunning_4 ?_
    refine g_vi (ws' := (zW cy ad shC E X)) (As := []) (rest := [.int v3]) (res := (f_X4_size X 8 360)) C (c_X4_size l D cy ad E X 8 360 sC_8 sC_9 (by decide)) zml_RX3_63 zcv_X4_size (zW_get X sC_8) rfl rfl rfl ⟨Nat.le_of_ble_eq_true rfl, Nat.le_of_ble_eq_true rfl⟩ rfl rfl (Nat.le_of_ble_eq_true rfl) ⟨Nat.zero_le _, Nat.zero_le _⟩ dX3_firstRunning_7 ?_
    refine g_icmp_ge C dX3_firstRunning_10 (tgt := 31) (by decide) (fun hc_1001 => ?_) (fun hc_1001 => ?_)
    · replace h := (if_pos hc_1001).symm.trans h
      refine g_iconst (v := (-1 : Int32)) C dX3_firstRunning_31 (by decide) ?_
      obtain rfl := Option.some.inj h
      exact g_iret rfl C hr rfl dX3_firstRunning_32
    · replace h := (if_neg hc_1001).symm.trans h
      refine g_aload_n (j := 0) C dX3_firstRunning_13 rfl rfl ?_
      refine g_iload_n (j := 3) C dX3_firstRunning_14 rfl rfl ?_
      refine g_iload_n (j := 1) C dX3_firstRunning_15 rfl rfl ?_
      refine g_iload_n (j := 2) C dX3_firstRunning_16 rfl rfl ?_
      refine g_vi (ws' := (zW cy ad shC E X)) (As := [.int v3, .int v1, .int v2]) (rest := []) (res := (f_X3_isRunning X v3 v1 v2)) C (c_X3_isRunning l D cy ad E X v3 v1 v2) zml_RX3_127 zcv_X3_isRunning (zW_get X sC_1) rfl rfl rfl ⟨Nat.le_of_ble_eq_true rfl, Nat.le_of_ble_eq_true rfl⟩ rfl rfl (Nat.le_of_ble_eq_true rfl) ⟨Nat.zero_le _, Nat.zero_le _⟩ dX3_firstRunning_17 ?_
      refine g_if_eq C dX3_firstRunning_20 (tgt := 25) (by decide) (fun hc_1002 => ?_) (fun hc_1002 => ?_)
      · replace h := (if_pos hc_1002).symm.trans h
        refine g_iinc (k := 3) (L' := [(3, .int (v3 + 1)), (0, .ref (ad 1)), (1, .int v1), (2, .int v2)]) C dX3_firstRunning_25 rfl (z_iinc (by decide)) (by decide) rfl ?_
        refine g_goto C dX3_firstRunning_28 (tgt := 2) (by decide) ?_
        refine zG_sub (L' := [(0, .ref (ad 1)), (1, .int v1), (2, .int v2), (3, .int (v3 + 1))]) [1, 2, 3, 0] rfl ?_
        exact ih (v3 + 1) h
      · replace h := (if_neg hc_1002).symm.trans h
        refine g_iload_n (j := 3) C dX3_firstRunning_23 rfl rfl ?_
        obtain rfl := Option.some.inj h
        exact g_iret rfl C hr rfl dX3_firstRunning_24
def f_X3_firstRunning (X : Nat → Nat → Int32) (v1 v2 : Int32) : Option Int32 := f_X3_firstRunning_L2 X v1 v2 zFuel (nI 0)
set_option maxRecDepth 100000 in
set_option maxHeartbeats 4000000 in
theorem c_X3_firstRunning (l : Launch) (D : va_G) (cy : Nat → ClassId) (ad : Nat → Nat) (E : va_W) (X : Nat → Nat → Int32) (v1 v2 : Int32) {res : Int32} (h : f_X3_firstRunning X v1 v2 = some res) : zMi l yX3_firstRunning cX3_firstRunning 4 (some .int) (zrm 4) D (zTy cy) (zW cy ad shC E X) [.ref (ad 1), .int v1, .int v2] res (zW cy ad shC E X) := by
  refine zMi.of (by decide) (Nat.le_of_ble_eq_true rfl) ?_
  intro p e s m below meth c A C hr
  unfold f_X3_firstRunning at h
  refine zG_L (L' := [(0, .ref (ad 1)), (1, .int v1), (2, .int v2)]) rfl ?_
  refine g_iconst (v := (nI 0)) C dX3_firstRunning_0 (by decide) ?_
  refine g_istore_n (L' := [(3, .int (nI 0)), (0, .ref (ad 1)), (1, .int v1), (2, .int v2)]) C dX3_firstRunning_1 rfl (by decide) rfl ?_
  refine zG_sub (L' := [(0, .ref (ad 1)), (1, .int v1), (2, .int v2), (3, .int (nI 0))]) [1, 2, 3, 0] rfl ?_
  exact w_X3_firstRunning_L2 l D cy ad E X v1 v2 C hr zFuel (nI 0) h
def f_X3_cleanedHalls_L5 (X : Nat → Nat → Int32) (v1 : Int32) (v2 : Int32) : Nat → Int32 → Int32 → Option Int32
  | 0, _, _ => none
  | fu + 1, v3, v4 => (if (f_X4_size X 8 360) ≤ v4 then some v3 else (if v2 < (f_X4_get X 8 360 v4 (nI 4)) then f_X3_cleanedHalls_L5 X v1 v2 fu v3 (v4 + 1) else (if ((f_X4_get X 8 360 v4 (nI 4)) + (f_X3_cleaningOf X v4)) ≤ v2 then f_X3_cleanedHalls_L5 X v1 v2 fu v3 (v4 + 1) else (if (f_X3_isShownOn X v4 v1) = 0 then f_X3_cleanedHalls_L5 X v1 v2 fu v3 (v4 + 1) else f_X3_cleanedHalls_L5 X v1 v2 fu (v3 + 1) (v4 + 1)))))
set_option maxRecDepth 100000 in
set_option maxHeartbeats 4000000 in
theorem w_X3_cleanedHalls_L5 {p : Program} {e : Env} {s : State} {m : MethodId} {args : Array Value} {below : List Frame} {meth : Method} {c : Code} {A : Nat → Prop} (l : Launch) (D : va_G) (cy : Nat → ClassId) (ad : Nat → Nat) (E : va_W) (X : Nat → Nat → Int32) (v1 : Int32) (v2 : Int32) {res : Int32} (C : zC p s m args meth c cX3_cleanedHalls 6 RX3 D (zTy cy) A) (hr : meth.sig.returnType = (some .int)) : ∀ (fu : Nat) (v3 v4 : Int32) (h : f_X3_cleanedHalls_L5 X v1 v2 fu v3 v4 = some res), zG p l e (zrm 3) s m args below meth c 6 D A 0 0 (MQ below (va_Qi (fun (r : Int32) (_ : Unit) => r = res) (fun _ t => zB D (zTy cy) A (zW cy ad shC E X) t) A) args s 0 0 A) (zW cy ad shC E X) 5 [(0, .ref (ad 1)), (1, .int v1), (2, .int v2), (3, .int v3), (4, .int v4)] [] := by
  intro fu
  induction fu with
  | zero => intro v3 v4 h; simp [f_X3_cleanedHalls_L5] at h
  | succ fu ih =>
    intro v3 v4 h
    rw [f_X3_cleanedHalls_L5] at h
    refine g_iload (j := 4) C dX3_cleanedHalls_5 rfl ?_
    refine g_aload_n (j := 0) C dX3_cleanedHalls_7 rfl rfl ?_
    refine g_getr (k := 3) (N := 8) C sC_1 rfl zin_RX3 (by decide) rfl zfl_RX3_26 rfl dX3_cleanedHalls_8 ?_
    refine g_vi (ws' := (zW cy ad shC E X)) (As := []) (rest := [.int v4]) (res := (f_X4_size X 8 360)) C (c_X4_size l D cy ad E X 8 360 sC_8 sC_9 (by decide)) zml_RX3_63 zcv_X4_size (zW_get X sC_8) rfl rfl rfl ⟨Nat.le_of_ble_eq_true rfl, Nat.le_of_ble_eq_true rfl⟩ rfl rfl (Nat.le_of_ble_eq_true rfl) ⟨Nat.zero_le _, Nat.zero_le _⟩ dX3_cleanedHalls_11 ?_
    refine g_icmp_ge C dX3_cleanedHalls_14 (tgt := 67) (by decide) (fun hc_1001 => ?_) (fun hc_1001 => ?_)
    · replace h := (if_pos hc_1001).symm.trans h
      refine g_iload_n (j := 3) C dX3_cleanedHalls_67 rfl rfl ?_
      obtain rfl := Option.some.inj h
      exact g_iret rfl C hr rfl dX3_cleanedHalls_68
    · replace h := (if_neg hc_1001).symm.trans h
      refine g_aload_n (j := 0) C dX3_cleanedHalls_17 rfl rfl ?_
      refine g_getr (k := 3) (N := 8) C sC_1 rfl zin_RX3 (by decide) rfl zfl_RX3_26 rfl dX3_cleanedHalls_18 ?_
      refine g_iload (j := 4) C dX3_cleanedHalls_21 rfl ?_
      refine g_iconst (v := (nI 4)) C dX3_cleanedHalls_23 (by decide) ?_
      refine g_vi (ws' := (zW cy ad shC E X)) (As := [.int v4, .int (nI 4)]) (rest := []) (res := (f_X4_get X 8 360 v4 (nI 4))) C (c_X4_get l D cy ad E X 8 360 sC_8 sC_9 (by decide) v4 (nI 4)) zml_RX3_54 zcv_X4_get (zW_get X sC_8) rfl rfl rfl ⟨Nat.le_of_ble_eq_true rfl, Nat.le_of_ble_eq_true rfl⟩ rfl rfl (Nat.le_of_ble_eq_true rfl) ⟨Nat.zero_le _, Nat.zero_le _⟩ dX3_cleanedHalls_24 ?_
      refine g_istore (L' := [(5, .int (f_X4_get X 8 360 v4 (nI 4))), (0, .ref (ad 1)), (1, .int v1), (2, .int v2), (3, .int v3), (4, .int v4)]) C dX3_cleanedHalls_27 (by decide) rfl ?_
      refine g_iload (j := 0) C dX3_cleanedHalls_29 rfl ?_
      refine g_iload_n (j := 3) C dX3_cleanedHalls_31 rfl rfl ?_
      refine g_icmp_gt C dX3_cleanedHalls_32 (tgt := 61) (by decide) (fun hc_1002 => ?_) (fun hc_1002 => ?_)
      · replace h := (if_pos hc_1002).symm.trans h
        refine g_iinc (k := 5) (L' := [(4, .int (v4 + 1)), (5, .int (f_X4_get X 8 360 v4 (nI 4))), (0, .ref (ad 1)), (1, .int v1), (2, .int v2), (3, .int v3)]) C dX3_cleanedHalls_61 rfl (z_iinc (by decide)) (by decide) rfl ?_
        refine g_goto C dX3_cleanedHalls_64 (tgt := 5) (by decide) ?_
        refine zG_sub (L' := [(0, .ref (ad 1)), (1, .int v1), (2, .int v2), (3, .int v3), (4, .int (v4 + 1))]) [2, 3, 4, 5, 0] rfl ?_
        exact ih v3 (v4 + 1) h
      · replace h := (if_neg hc_1002).symm.trans h
        refine g_iload_n (j := 3) C dX3_cleanedHalls_35 rfl rfl ?_
        refine g_iload (j := 0) C dX3_cleanedHalls_36 rfl ?_
        refine g_aload_n (j := 1) C dX3_cleanedHalls_38 rfl rfl ?_
        refine g_iload (j := 5) C dX3_cleanedHalls_39 rfl ?_
        refine g_vi (ws' := (zW cy ad shC E X)) (As := [.int v4]) (rest := [.int (f_X4_get X 8 360 v4 (nI 4)), .int v2]) (res := (f_X3_cleaningOf X v4)) C (c_X3_cleaningOf l D cy ad E X v4) zml_RX3_118 zcv_X3_cleaningOf (zW_get X sC_1) rfl rfl rfl ⟨Nat.le_of_ble_eq_true rfl, Nat.le_of_ble_eq_true rfl⟩ rfl rfl (Nat.le_of_ble_eq_true rfl) ⟨Nat.zero_le _, Nat.zero_le _⟩ dX3_cleanedHalls_41 ?_
        refine g_iadd C dX3_cleanedHalls_44 ?_
        refine g_icmp_ge C dX3_cleanedHalls_45 (tgt := 61) (by decide) (fun hc_1003 => ?_) (fun hc_1003 => ?_)
        · replace h := (if_pos hc_1003).symm.trans h
          refine g_iinc (k := 5) (L' := [(4, .int (v4 + 1)), (5, .int (f_X4_get X 8 360 v4 (nI 4))), (0, .ref (ad 1)), (1, .int v1), (2, .int v2), (3, .int v3)]) C dX3_cleanedHalls_61 rfl (z_iinc (by decide)) (by decide) rfl ?_
          refine g_goto C dX3_cleanedHalls_64 (tgt := 5) (by decide) ?_
          refine zG_sub (L' := [(0, .ref (ad 1)), (1, .int v1), (2, .int v2), (3, .int v3), (4, .int (v4 + 1))]) [2, 3, 4, 5, 0] rfl ?_
          exact ih v3 (v4 + 1) h
        · replace h := (if_neg hc_1003).symm.trans h
          refine g_aload_n (j := 1) C dX3_cleanedHalls_48 rfl rfl ?_
          refine g_iload (j := 5) C dX3_cleanedHalls_49 rfl ?_
          refine g_iload_n (j := 2) C dX3_cleanedHalls_51 rfl rfl ?_
          refine g_vi (ws' := (zW cy ad shC E X)) (As := [.int v4, .int v1]) (rest := []) (res := (f_X3_isShownOn X v4 v1)) C (c_X3_isShownOn l D cy ad E X v4 v1) zml_RX3_124 zcv_X3_isShownOn (zW_get X sC_1) rfl rfl rfl ⟨Nat.le_of_ble_eq_true rfl, Nat.le_of_ble_eq_true rfl⟩ rfl rfl (Nat.le_of_ble_eq_true rfl) ⟨Nat.zero_le _, Nat.zero_le _⟩ dX3_cleanedHalls_52 ?_
          refine g_if_eq C dX3_cleanedHalls_55 (tgt := 61) (by decide) (fun hc_1004 => ?_) (fun hc_1004 => ?_)
          · replace h := (if_pos hc_1004).symm.trans h
            refine g_iinc (k := 5) (L' := [(4, .int (v4 + 1)), (5, .int (f_X4_get X 8 360 v4 (nI 4))), (0, .ref (ad 1)), (1, .int v1), (2, .int v2), (3, .int v3)]) C dX3_cleanedHalls_61 rfl (z_iinc (by decide)) (by decide) rfl ?_
            refine g_goto C dX3_cleanedHalls_64 (tgt := 5) (by decide) ?_
            refine zG_sub (L' := [(0, .ref (ad 1)), (1, .int v1), (2, .int v2), (3, .int v3), (4, .int (v4 + 1))]) [2, 3, 4, 5, 0] rfl ?_
            exact ih v3 (v4 + 1) h
          · replace h := (if_neg hc_1004).symm.trans h
            refine g_iinc (k := 4) (L' := [(3, .int (v3 + 1)), (5, .int (f_X4_get X 8 360 v4 (nI 4))), (0, .ref (ad 1)), (1, .int v1), (2, .int v2), (4, .int v4)]) C dX3_cleanedHalls_58 rfl (z_iinc (by decide)) (by decide) rfl ?_
            refine g_iinc (k := 5) (L' := [(4, .int (v4 + 1)), (3, .int (v3 + 1)), (5, .int (f_X4_get X 8 360 v4 (nI 4))), (0, .ref (ad 1)), (1, .int v1), (2, .int v2)]) C dX3_cleanedHalls_61 rfl (z_iinc (by decide)) (by decide) rfl ?_
            refine g_goto C dX3_cleanedHalls_64 (tgt := 5) (by decide) ?_
            refine zG_sub (L' := [(0, .ref (ad 1)), (1, .int v1), (2, .int v2), (3, .int (v3 + 1)), (4, .int (v4 + 1))]) [3, 4, 5, 1, 0] rfl ?_
            exact ih (v3 + 1) (v4 + 1) h
def f_X3_cleanedHalls (X : Nat → Nat → Int32) (v1 v2 : Int32) : Option Int32 := f_X3_cleanedHalls_L5 X v1 v2 zFuel (nI 0) (nI 0)
set_option maxRecDepth 100000 in
set_option maxHeartbeats 4000000 in
theorem c_X3_cleanedHalls (l : Launch) (D : va_G) (cy : Nat → ClassId) (ad : Nat → Nat) (E : va_W) (X : Nat → Nat → Int32) (v1 v2 : Int32) {res : Int32} (h : f_X3_cleanedHalls X v1 v2 = some res) : zMi l yX3_cleanedHalls cX3_cleanedHalls 6 (some .int) (zrm 3) D (zTy cy) (zW cy ad shC E X) [.ref (ad 1), .int v1, .int v2] res (zW cy ad shC E X) := by
  refine zMi.of (by decide) (Nat.le_of_ble_eq_true rfl) ?_
  intro p e s m below meth c A C hr
  unfold f_X3_cleanedHalls at h
  refine zG_L (L' := [(0, .ref (ad 1)), (1, .int v1), (2, .int v2)]) rfl ?_
  refine g_iconst (v := (nI 0)) C dX3_cleanedHalls_0 (by decide) ?_
  refine g_istore_n (L' := [(3, .int (nI 0)), (0, .ref (ad 1)), (1, .int v1), (2, .int v2)]) C dX3_cleanedHalls_1 rfl (by decide) rfl ?_
  refine g_iconst (v := (nI 0)) C dX3_cleanedHalls_2 (by decide) ?_
  refine g_istore (L' := [(4, .int (nI 0)), (3, .int (nI 0)), (0, .ref (ad 1)), (1, .int v1), (2, .int v2)]) C dX3_cleanedHalls_3 (by decide) rfl ?_
  refine zG_sub (L' := [(0, .ref (ad 1)), (1, .int v1), (2, .int v2), (3, .int (nI 0)), (4, .int (nI 0))]) [2, 3, 4, 1, 0] rfl ?_
  exact w_X3_cleanedHalls_L5 l D cy ad E X v1 v2 C hr zFuel (nI 0) (nI 0) h
def f_X2_addOther (X : Nat → Nat → Int32) (v2 v3 : Int32) : Option (Nat → Nat → Int32) := (if (f_X4_get X 8 360 v2 (nI 1)) = (X 146 1) then ((f_X4_addRow X 147 210).bind fun q_18 => (zlet (f_X4_put q_18.2 147 210 q_18.1 (nI 0) v2) fun X_20 => (zlet (f_X4_put X_20 147 210 q_18.1 (nI 1) (f_X4_get X 8 360 v2 (nI 0))) fun X_22 => (zlet (f_X4_put X_22 147 210 q_18.1 (nI 2) (f_X4_get X_22 2 24 (f_X4_get X 8 360 v2 (nI 0)) (nI 2))) fun X_24 => (zlet (f_X4_put X_24 147 210 q_18.1 (nI 3) (f_X4_get X 8 360 v2 (nI 3))) fun X_26 => (zlet (f_X4_put X_26 147 210 q_18.1 (nI 4) (f_X4_get X 8 360 v2 (nI 4))) fun X_28 => (zlet (f_X4_put X_28 147 210 q_18.1 (nI 5) ((f_X4_get X 8 360 v2 (nI 4)) + (f_X4_get X_28 2 24 (f_X4_get X 8 360 v2 (nI 0)) (nI 1)))) fun X_30 => (zlet (f_X4_put X_30 147 210 q_18.1 (nI 6) ((f_X4_get X 8 360 v2 (nI 4)) + v3)) fun X_32 => some X_32)))))))) else ((f_X4_addRow X 147 210).bind fun q_2 => (zlet (f_X4_put q_2.2 147 210 q_2.1 (nI 0) v2) fun X_4 => (zlet (f_X4_put X_4 147 210 q_2.1 (nI 1) (f_X4_get X 8 360 v2 (nI 0))) fun X_6 => (zlet (f_X4_put X_6 147 210 q_2.1 (nI 2) (f_X4_get X_6 2 24 (f_X4_get X 8 360 v2 (nI 0)) (nI 2))) fun X_8 => (zlet (f_X4_put X_8 147 210 q_2.1 (nI 3) (f_X4_get X 8 360 v2 (nI 3))) fun X_10 => (zlet (f_X4_put X_10 147 210 q_2.1 (nI 4) (f_X4_get X 8 360 v2 (nI 4))) fun X_12 => (zlet (f_X4_put X_12 147 210 q_2.1 (nI 5) ((f_X4_get X 8 360 v2 (nI 4)) + (f_X4_get X_12 2 24 (f_X4_get X 8 360 v2 (nI 0)) (nI 1)))) fun X_14 => (zlet (f_X4_put X_14 147 210 q_2.1 (nI 6) (f_X4_get X 8 360 v2 (nI 3))) fun X_16 => some X_16)))))))))
set_option maxRecDepth 100000 in
set_option maxHeartbeats 4000000 in
theorem c_X2_addOther (l : Launch) (D : va_G) (cy : Nat → ClassId) (ad : Nat → Nat) (E : va_W) (X : Nat → Nat → Int32) (v2 v3 : Int32) {res : (Nat → Nat → Int32)} (h : f_X2_addOther X v2 v3 = some res) : zMv l yX2_addOther cX2_addOther 9 none (zrm 2) D (zTy cy) (zW cy ad shC E X) [.ref (ad 146), .ref (ad 1), .int v2, .int v3] (zW cy ad shC E res) := by
  refine zMv.of (by decide) (Nat.le_of_ble_eq_true rfl) ?_
  intro p e s m below meth c A C hr
  unfold f_X2_addOther at h
  refine zG_L (L' := [(0, .ref (ad 146)), (1, .ref (ad 1)), (2, .int v2), (3, .int v3)]) rfl ?_
  refine g_aload_n (j := 1) C dX2_addOther_0 rfl rfl ?_
  refine g_getr (k := 3) (N := 8) C sC_1 rfl zin_RX3 (by decide) rfl zfl_RX2_39 rfl dX2_addOther_1 ?_
  refine g_iload_n (j := 2) C dX2_addOther_4 rfl rfl ?_
  refine g_iconst (v := (nI 0)) C dX2_addOther_5 (by decide) ?_
  refine g_vi (ws' := (zW cy ad shC E X)) (As := [.int v2, .int (nI 0)]) (rest := []) (res := (f_X4_get X 8 360 v2 (nI 0))) C (c_X4_get l D cy ad E X 8 360 sC_8 sC_9 (by decide) v2 (nI 0)) zml_RX2_54 zcv_X4_get (zW_get X sC_8) rfl rfl rfl ⟨Nat.le_of_ble_eq_true rfl, Nat.le_of_ble_eq_true rfl⟩ rfl rfl (Nat.le_of_ble_eq_true rfl) ⟨Nat.zero_le _, Nat.zero_le _⟩ dX2_addOther_6 ?_
  refine g_istore (L' := [(4, .int (f_X4_get X 8 360 v2 (nI 0))), (0, .ref (ad 146)), (1, .ref (ad 1)), (2, .int v2), (3, .int v3)]) C dX2_addOther_9 (by decide) rfl ?_
  refine g_aload_n (j := 2) C dX2_addOther_11 rfl rfl ?_
  refine g_getr (k := 3) (N := 8) C sC_1 rfl zin_RX3 (by decide) rfl zfl_RX2_39 rfl dX2_addOther_12 ?_
  refine g_iload_n (j := 3) C dX2_addOther_15 rfl rfl ?_
  refine g_iconst (v := (nI 3)) C dX2_addOther_16 (by decide) ?_
  refine g_vi (ws' := (zW cy ad shC E X)) (As := [.int v2, .int (nI 3)]) (rest := []) (res := (f_X4_get X 8 360 v2 (nI 3))) C (c_X4_get l D cy ad E X 8 360 sC_8 sC_9 (by decide) v2 (nI 3)) zml_RX2_54 zcv_X4_get (zW_get X sC_8) rfl rfl rfl ⟨Nat.le_of_ble_eq_true rfl, Nat.le_of_ble_eq_true rfl⟩ rfl rfl (Nat.le_of_ble_eq_true rfl) ⟨Nat.zero_le _, Nat.zero_le _⟩ dX2_addOther_17 ?_
  refine g_istore (L' := [(5, .int (f_X4_get X 8 360 v2 (nI 3))), (4, .int (f_X4_get X 8 360 v2 (nI 0))), (0, .ref (ad 146)), (1, .ref (ad 1)), (2, .int v2), (3, .int v3)]) C dX2_addOther_20 (by decide) rfl ?_
  refine g_aload_n (j := 3) C dX2_addOther_22 rfl rfl ?_
  refine g_getr (k := 3) (N := 8) C sC_1 rfl zin_RX3 (by decide) rfl zfl_RX2_39 rfl dX2_addOther_23 ?_
  refine g_iload_n (j := 4) C dX2_addOther_26 rfl rfl ?_
  refine g_iconst (v := (nI 4)) C dX2_addOther_27 (by decide) ?_
  refine g_vi (ws' := (zW cy ad shC E X)) (As := [.int v2, .int (nI 4)]) (rest := []) (res := (f_X4_get X 8 360 v2 (nI 4))) C (c_X4_get l D cy ad E X 8 360 sC_8 sC_9 (by decide) v2 (nI 4)) zml_RX2_54 zcv_X4_get (zW_get X sC_8) rfl rfl rfl ⟨Nat.le_of_ble_eq_true rfl, Nat.le_of_ble_eq_true rfl⟩ rfl rfl (Nat.le_of_ble_eq_true rfl) ⟨Nat.zero_le _, Nat.zero_le _⟩ dX2_addOther_28 ?_
  refine g_istore (L' := [(6, .int (f_X4_get X 8 360 v2 (nI 4))), (5, .int (f_X4_get X 8 360 v2 (nI 3))), (4, .int (f_X4_get X 8 360 v2 (nI 0))), (0, .ref (ad 146)), (1, .ref (ad 1)), (2, .int v2), (3, .int v3)]) C dX2_addOther_31 (by decide) rfl ?_
  refine g_aload_n (j := 4) C dX2_addOther_33 rfl rfl ?_
  refine g_getr (k := 3) (N := 8) C sC_1 rfl zin_RX3 (by decide) rfl zfl_RX2_39 rfl dX2_addOther_34 ?_
  refine g_iload_n (j := 5) C dX2_addOther_37 rfl rfl ?_
  refine g_iconst (v := (nI 1)) C dX2_addOther_38 (by decide) ?_
  refine g_vi (ws' := (zW cy ad shC E X)) (As := [.int v2, .int (nI 1)]) (rest := []) (res := (f_X4_get X 8 360 v2 (nI 1))) C (c_X4_get l D cy ad E X 8 360 sC_8 sC_9 (by decide) v2 (nI 1)) zml_RX2_54 zcv_X4_get (zW_get X sC_8) rfl rfl rfl ⟨Nat.le_of_ble_eq_true rfl, Nat.le_of_ble_eq_true rfl⟩ rfl rfl (Nat.le_of_ble_eq_true rfl) ⟨Nat.zero_le _, Nat.zero_le _⟩ dX2_addOther_39 ?_
  refine g_aload_n (j := 3) C dX2_addOther_42 rfl rfl ?_
  refine g_geti (k := 1) (N := 4) C sC_146 rfl zin_RX2 (by decide) rfl zfl_RX2_20 rfl dX2_addOther_43 ?_
  refine g_icmp_ne C dX2_addOther_46 (tgt := 53) (by decide) (fun hc_1 => ?_) (fun hc_1 => ?_)
  · replace h := (if_neg hc_1).symm.trans h
    refine g_iconst (v := (nI 0)) C dX2_addOther_53 (by decide) ?_
    refine g_istore (L' := [(7, .int (nI 0)), (6, .int (f_X4_get X 8 360 v2 (nI 4))), (5, .int (f_X4_get X 8 360 v2 (nI 3))), (4, .int (f_X4_get X 8 360 v2 (nI 0))), (0, .ref (ad 146)), (1, .ref (ad 1)), (2, .int v2), (3, .int v3)]) C dX2_addOther_54 (by decide) rfl ?_
    refine g_aload_n (j := 4) C dX2_addOther_56 rfl rfl ?_
    refine g_getr (k := 0) (N := 4) C sC_146 rfl zin_RX2 (by decide) rfl zfl_RX2_16 rfl dX2_addOther_57 ?_
    obtain ⟨q_2, hq_3, h⟩ := bind_isome h
    refine g_vi (ws' := (zW cy ad shC E q_2.2)) (As := []) (rest := []) (res := q_2.1) C (c_X4_addRow l D cy ad E X 147 210 sC_147 sC_148 (by decide) hq_3) zml_RX2_58 zcv_X4_addRow (zW_get X sC_147) rfl rfl rfl ⟨Nat.le_of_ble_eq_true rfl, Nat.le_of_ble_eq_true rfl⟩ rfl rfl (Nat.le_of_ble_eq_true rfl) ⟨Nat.zero_le _, Nat.zero_le _⟩ dX2_addOther_60 ?_
    refine g_istore (L' := [(8, .int q_2.1), (7, .int (nI 0)), (6, .int (f_X4_get X 8 360 v2 (nI 4))), (5, .int (f_X4_get X 8 360 v2 (nI 3))), (4, .int (f_X4_get X 8 360 v2 (nI 0))), (0, .ref (ad 146)), (1, .ref (ad 1)), (2, .int v2), (3, .int v3)]) C dX2_addOther_63 (by decide) rfl ?_
    refine g_aload_n (j := 5) C dX2_addOther_65 rfl rfl ?_
    refine g_getr (k := 0) (N := 4) C sC_146 rfl zin_RX2 (by decide) rfl zfl_RX2_16 rfl dX2_addOther_66 ?_
    refine g_iload (j := 0) C dX2_addOther_69 rfl ?_
    refine g_iconst (v := (nI 0)) C dX2_addOther_71 (by decide) ?_
    refine g_iload_n (j := 7) C dX2_addOther_72 rfl rfl ?_
    obtain ⟨X_4, e_5, h⟩ := zlet_ex h
    refine g_vv (ws' := (zW cy ad shC E X_4)) (As := [.int q_2.1, .int (nI 0), .int v2]) (rest := []) C ((by rw [e_5]; exact c_X4_put l D cy ad E q_2.2 147 210 sC_147 sC_148 (by decide) q_2.1 (nI 0) v2)) zml_RX2_61 zcv_X4_put (zW_get q_2.2 sC_147) rfl rfl rfl ⟨Nat.le_of_ble_eq_true rfl, Nat.le_of_ble_eq_true rfl⟩ rfl rfl (Nat.le_of_ble_eq_true rfl) ⟨Nat.zero_le _, Nat.zero_le _⟩ dX2_addOther_73 ?_
    refine g_aload_n (j := 5) C dX2_addOther_76 rfl rfl ?_
    refine g_getr (k := 0) (N := 4) C sC_146 rfl zin_RX2 (by decide) rfl zfl_RX2_16 rfl dX2_addOther_77 ?_
    refine g_iload (j := 0) C dX2_addOther_80 rfl ?_
    refine g_iconst (v := (nI 1)) C dX2_addOther_82 (by decide) ?_
    refine g_iload (j := 4) C dX2_addOther_83 rfl ?_
    obtain ⟨X_6, e_7, h⟩ := zlet_ex h
    refine g_vv (ws' := (zW cy ad shC E X_6)) (As := [.int q_2.1, .int (nI 1), .int (f_X4_get X 8 360 v2 (nI 0))]) (rest := []) C ((by rw [e_7]; exact c_X4_put l D cy ad E X_4 147 210 sC_147 sC_148 (by decide) q_2.1 (nI 1) (f_X4_get X 8 360 v2 (nI 0)))) zml_RX2_61 zcv_X4_put (zW_get X_4 sC_147) rfl rfl rfl ⟨Nat.le_of_ble_eq_true rfl, Nat.le_of_ble_eq_true rfl⟩ rfl rfl (Nat.le_of_ble_eq_true rfl) ⟨Nat.zero_le _, Nat.zero_le _⟩ dX2_addOther_85 ?_
    refine g_aload_n (j := 5) C dX2_addOther_88 rfl rfl ?_
    refine g_getr (k := 0) (N := 4) C sC_146 rfl zin_RX2 (by decide) rfl zfl_RX2_16 rfl dX2_addOther_89 ?_
    refine g_iload (j := 0) C dX2_addOther_92 rfl ?_
    refine g_iconst (v := (nI 2)) C dX2_addOther_94 (by decide) ?_
    refine g_aload_n (j := 6) C dX2_addOther_95 rfl rfl ?_
    refine g_getr (k := 0) (N := 8) C sC_1 rfl zin_RX3 (by decide) rfl zfl_RX2_65 rfl dX2_addOther_96 ?_
    refine g_iload (j := 4) C dX2_addOther_99 rfl ?_
    refine g_iconst (v := (nI 2)) C dX2_addOther_101 (by decide) ?_
    refine g_vi (ws' := (zW cy ad shC E X_6)) (As := [.int (f_X4_get X 8 360 v2 (nI 0)), .int (nI 2)]) (rest := [.int (nI 2), .int q_2.1, .ref (ad 147)]) (res := (f_X4_get X_6 2 24 (f_X4_get X 8 360 v2 (nI 0)) (nI 2))) C (c_X4_get l D cy ad E X_6 2 24 sC_2 sC_3 (by decide) (f_X4_get X 8 360 v2 (nI 0)) (nI 2)) zml_RX2_54 zcv_X4_get (zW_get X_6 sC_2) rfl rfl rfl ⟨Nat.le_of_ble_eq_true rfl, Nat.le_of_ble_eq_true rfl⟩ rfl rfl (Nat.le_of_ble_eq_true rfl) ⟨Nat.zero_le _, Nat.zero_le _⟩ dX2_addOther_102 ?_
    obtain ⟨X_8, e_9, h⟩ := zlet_ex h
    refine g_vv (ws' := (zW cy ad shC E X_8)) (As := [.int q_2.1, .int (nI 2), .int (f_X4_get X_6 2 24 (f_X4_get X 8 360 v2 (nI 0)) (nI 2))]) (rest := []) C ((by rw [e_9]; exact c_X4_put l D cy ad E X_6 147 210 sC_147 sC_148 (by decide) q_2.1 (nI 2) (f_X4_get X_6 2 24 (f_X4_get X 8 360 v2 (nI 0)) (nI 2)))) zml_RX2_61 zcv_X4_put (zW_get X_6 sC_147) rfl rfl rfl ⟨Nat.le_of_ble_eq_true rfl, Nat.le_of_ble_eq_true rfl⟩ rfl rfl (Nat.le_of_ble_eq_true rfl) ⟨Nat.zero_le _, Nat.zero_le _⟩ dX2_addOther_105 ?_
    refine g_aload_n (j := 5) C dX2_addOther_108 rfl rfl ?_
    refine g_getr (k := 0) (N := 4) C sC_146 rfl zin_RX2 (by decide) rfl zfl_RX2_16 rfl dX2_addOther_109 ?_
    refine g_iload (j := 0) C dX2_addOther_112 rfl ?_
    refine g_iconst (v := (nI 3)) C dX2_addOther_114 (by decide) ?_
    refine g_iload (j := 3) C dX2_addOther_115 rfl ?_
    obtain ⟨X_10, e_11, h⟩ := zlet_ex h
    refine g_vv (ws' := (zW cy ad shC E X_10)) (As := [.int q_2.1, .int (nI 3), .int (f_X4_get X 8 360 v2 (nI 3))]) (rest := []) C ((by rw [e_11]; exact c_X4_put l D cy ad E X_8 147 210 sC_147 sC_148 (by decide) q_2.1 (nI 3) (f_X4_get X 8 360 v2 (nI 3)))) zml_RX2_61 zcv_X4_put (zW_get X_8 sC_147) rfl rfl rfl ⟨Nat.le_of_ble_eq_true rfl, Nat.le_of_ble_eq_true rfl⟩ rfl rfl (Nat.le_of_ble_eq_true rfl) ⟨Nat.zero_le _, Nat.zero_le _⟩ dX2_addOther_117 ?_
    refine g_aload_n (j := 5) C dX2_addOther_120 rfl rfl ?_
    refine g_getr (k := 0) (N := 4) C sC_146 rfl zin_RX2 (by decide) rfl zfl_RX2_16 rfl dX2_addOther_121 ?_
    refine g_iload (j := 0) C dX2_addOther_124 rfl ?_
    refine g_iconst (v := (nI 4)) C dX2_addOther_126 (by decide) ?_
    refine g_iload (j := 2) C dX2_addOther_127 rfl ?_
    obtain ⟨X_12, e_13, h⟩ := zlet_ex h
    refine g_vv (ws' := (zW cy ad shC E X_12)) (As := [.int q_2.1, .int (nI 4), .int (f_X4_get X 8 360 v2 (nI 4))]) (rest := []) C ((by rw [e_13]; exact c_X4_put l D cy ad E X_10 147 210 sC_147 sC_148 (by decide) q_2.1 (nI 4) (f_X4_get X 8 360 v2 (nI 4)))) zml_RX2_61 zcv_X4_put (zW_get X_10 sC_147) rfl rfl rfl ⟨Nat.le_of_ble_eq_true rfl, Nat.le_of_ble_eq_true rfl⟩ rfl rfl (Nat.le_of_ble_eq_true rfl) ⟨Nat.zero_le _, Nat.zero_le _⟩ dX2_addOther_129 ?_
    refine g_aload_n (j := 5) C dX2_addOther_132 rfl rfl ?_
    refine g_getr (k := 0) (N := 4) C sC_146 rfl zin_RX2 (by decide) rfl zfl_RX2_16 rfl dX2_addOther_133 ?_
    refine g_iload (j := 0) C dX2_addOther_136 rfl ?_
    refine g_iconst (v := (nI 5)) C dX2_addOther_138 (by decide) ?_
    refine g_iload (j := 2) C dX2_addOther_139 rfl ?_
    refine g_aload_n (j := 6) C dX2_addOther_141 rfl rfl ?_
    refine g_getr (k := 0) (N := 8) C sC_1 rfl zin_RX3 (by decide) rfl zfl_RX2_65 rfl dX2_addOther_142 ?_
    refine g_iload (j := 4) C dX2_addOther_145 rfl ?_
    refine g_iconst (v := (nI 1)) C dX2_addOther_147 (by decide) ?_
    refine g_vi (ws' := (zW cy ad shC E X_12)) (As := [.int (f_X4_get X 8 360 v2 (nI 0)), .int (nI 1)]) (rest := [.int (f_X4_get X 8 360 v2 (nI 4)), .int (nI 5), .int q_2.1, .ref (ad 147)]) (res := (f_X4_get X_12 2 24 (f_X4_get X 8 360 v2 (nI 0)) (nI 1))) C (c_X4_get l D cy ad E X_12 2 24 sC_2 sC_3 (by decide) (f_X4_get X 8 360 v2 (nI 0)) (nI 1)) zml_RX2_54 zcv_X4_get (zW_get X_12 sC_2) rfl rfl rfl ⟨Nat.le_of_ble_eq_true rfl, Nat.le_of_ble_eq_true rfl⟩ rfl rfl (Nat.le_of_ble_eq_true rfl) ⟨Nat.zero_le _, Nat.zero_le _⟩ dX2_addOther_148 ?_
    refine g_iadd C dX2_addOther_151 ?_
    obtain ⟨X_14, e_15, h⟩ := zlet_ex h
    refine g_vv (ws' := (zW cy ad shC E X_14)) (As := [.int q_2.1, .int (nI 5), .int ((f_X4_get X 8 360 v2 (nI 4)) + (f_X4_get X_12 2 24 (f_X4_get X 8 360 v2 (nI 0)) (nI 1)))]) (rest := []) C ((by rw [e_15]; exact c_X4_put l D cy ad E X_12 147 210 sC_147 sC_148 (by decide) q_2.1 (nI 5) ((f_X4_get X 8 360 v2 (nI 4)) + (f_X4_get X_12 2 24 (f_X4_get X 8 360 v2 (nI 0)) (nI 1))))) zml_RX2_61 zcv_X4_put (zW_get X_12 sC_147) rfl rfl rfl ⟨Nat.le_of_ble_eq_true rfl, Nat.le_of_ble_eq_true rfl⟩ rfl rfl (Nat.le_of_ble_eq_true rfl) ⟨Nat.zero_le _, Nat.zero_le _⟩ dX2_addOther_152 ?_
    refine g_aload_n (j := 5) C dX2_addOther_155 rfl rfl ?_
    refine g_getr (k := 0) (N := 4) C sC_146 rfl zin_RX2 (by decide) rfl zfl_RX2_16 rfl dX2_addOther_156 ?_
    refine g_iload (j := 0) C dX2_addOther_159 rfl ?_
    refine g_bipush (v := (nI 6)) C dX2_addOther_161 (by decide) ?_
    refine g_iload (j := 1) C dX2_addOther_163 rfl ?_
    refine g_if_eq C dX2_addOther_165 (tgt := 175) (by decide) (fun _ => ?_) (fun h9 => absurd h9 (by decide))
    refine g_iload (j := 3) C dX2_addOther_175 rfl ?_
    obtain ⟨X_16, e_17, h⟩ := zlet_ex h
    refine g_vv (ws' := (zW cy ad shC E X_16)) (As := [.int q_2.1, .int (nI 6), .int (f_X4_get X 8 360 v2 (nI 3))]) (rest := []) C ((by rw [e_17]; exact c_X4_put l D cy ad E X_14 147 210 sC_147 sC_148 (by decide) q_2.1 (nI 6) (f_X4_get X 8 360 v2 (nI 3)))) zml_RX2_61 zcv_X4_put (zW_get X_14 sC_147) rfl rfl rfl ⟨Nat.le_of_ble_eq_true rfl, Nat.le_of_ble_eq_true rfl⟩ rfl rfl (Nat.le_of_ble_eq_true rfl) ⟨Nat.zero_le _, Nat.zero_le _⟩ dX2_addOther_177 ?_
    obtain rfl := Option.some.inj h
    exact g_vret rfl C hr dX2_addOther_180
  · replace h := (if_pos hc_1).symm.trans h
    refine g_iconst (v := (nI 1)) C dX2_addOther_49 (by decide) ?_
    refine g_goto C dX2_addOther_50 (tgt := 54) (by decide) ?_
    refine g_istore (L' := [(7, .int (nI 1)), (6, .int (f_X4_get X 8 360 v2 (nI 4))), (5, .int (f_X4_get X 8 360 v2 (nI 3))), (4, .int (f_X4_get X 8 360 v2 (nI 0))), (0, .ref (ad 146)), (1, .ref (ad 1)), (2, .int v2), (3, .int v3)]) C dX2_addOther_54 (by decide) rfl ?_
    refine g_aload_n (j := 4) C dX2_addOther_56 rfl rfl ?_
    refine g_getr (k := 0) (N := 4) C sC_146 rfl zin_RX2 (by decide) rfl zfl_RX2_16 rfl dX2_addOther_57 ?_
    obtain ⟨q_18, hq_19, h⟩ := bind_isome h
    refine g_vi (ws' := (zW cy ad shC E q_18.2)) (As := []) (rest := []) (res := q_18.1) C (c_X4_addRow l D cy ad E X 147 210 sC_147 sC_148 (by decide) hq_19) zml_RX2_58 zcv_X4_addRow (zW_get X sC_147) rfl rfl rfl ⟨Nat.le_of_ble_eq_true rfl, Nat.le_of_ble_eq_true rfl⟩ rfl rfl (Nat.le_of_ble_eq_true rfl) ⟨Nat.zero_le _, Nat.zero_le _⟩ dX2_addOther_60 ?_
    refine g_istore (L' := [(8, .int q_18.1), (7, .int (nI 1)), (6, .int (f_X4_get X 8 360 v2 (nI 4))), (5, .int (f_X4_get X 8 360 v2 (nI 3))), (4, .int (f_X4_get X 8 360 v2 (nI 0))), (0, .ref (ad 146)), (1, .ref (ad 1)), (2, .int v2), (3, .int v3)]) C dX2_addOther_63 (by decide) rfl ?_
    refine g_aload_n (j := 5) C dX2_addOther_65 rfl rfl ?_
    refine g_getr (k := 0) (N := 4) C sC_146 rfl zin_RX2 (by decide) rfl zfl_RX2_16 rfl dX2_addOther_66 ?_
    refine g_iload (j := 0) C dX2_addOther_69 rfl ?_
    refine g_iconst (v := (nI 0)) C dX2_addOther_71 (by decide) ?_
    refine g_iload_n (j := 7) C dX2_addOther_72 rfl rfl ?_
    obtain ⟨X_20, e_21, h⟩ := zlet_ex h
    refine g_vv (ws' := (zW cy ad shC E X_20)) (As := [.int q_18.1, .int (nI 0), .int v2]) (rest := []) C ((by rw [e_21]; exact c_X4_put l D cy ad E q_18.2 147 210 sC_147 sC_148 (by decide) q_18.1 (nI 0) v2)) zml_RX2_61 zcv_X4_put (zW_get q_18.2 sC_147) rfl rfl rfl ⟨Nat.le_of_ble_eq_true rfl, Nat.le_of_ble_eq_true rfl⟩ rfl rfl (Nat.le_of_ble_eq_true rfl) ⟨Nat.zero_le _, Nat.zero_le _⟩ dX2_addOther_73 ?_
    refine g_aload_n (j := 5) C dX2_addOther_76 rfl rfl ?_
    refine g_getr (k := 0) (N := 4) C sC_146 rfl zin_RX2 (by decide) rfl zfl_RX2_16 rfl dX2_addOther_77 ?_
    refine g_iload (j := 0) C dX2_addOther_80 rfl ?_
    refine g_iconst (v := (nI 1)) C dX2_addOther_82 (by decide) ?_
    refine g_iload (j := 4) C dX2_addOther_83 rfl ?_
    obtain ⟨X_22, e_23, h⟩ := zlet_ex h
    refine g_vv (ws' := (zW cy ad shC E X_22)) (As := [.int q_18.1, .int (nI 1), .int (f_X4_get X 8 360 v2 (nI 0))]) (rest := []) C ((by rw [e_23]; exact c_X4_put l D cy ad E X_20 147 210 sC_147 sC_148 (by decide) q_18.1 (nI 1) (f_X4_get X 8 360 v2 (nI 0)))) zml_RX2_61 zcv_X4_put (zW_get X_20 sC_147) rfl rfl rfl ⟨Nat.le_of_ble_eq_true rfl, Nat.le_of_ble_eq_true rfl⟩ rfl rfl (Nat.le_of_ble_eq_true rfl) ⟨Nat.zero_le _, Nat.zero_le _⟩ dX2_addOther_85 ?_
    refine g_aload_n (j := 5) C dX2_addOther_88 rfl rfl ?_
    refine g_getr (k := 0) (N := 4) C sC_146 rfl zin_RX2 (by decide) rfl zfl_RX2_16 rfl dX2_addOther_89 ?_
    refine g_iload (j := 0) C dX2_addOther_92 rfl ?_
    refine g_iconst (v := (nI 2)) C dX2_addOther_94 (by decide) ?_
    refine g_aload_n (j := 6) C dX2_addOther_95 rfl rfl ?_
    refine g_getr (k := 0) (N := 8) C sC_1 rfl zin_RX3 (by decide) rfl zfl_RX2_65 rfl dX2_addOther_96 ?_
    refine g_iload (j := 4) C dX2_addOther_99 rfl ?_
    refine g_iconst (v := (nI 2)) C dX2_addOther_101 (by decide) ?_
    refine g_vi (ws' := (zW cy ad shC E X_22)) (As := [.int (f_X4_get X 8 360 v2 (nI 0)), .int (nI 2)]) (rest := [.int (nI 2), .int q_18.1, .ref (ad 147)]) (res := (f_X4_get X_22 2 24 (f_X4_get X 8 360 v2 (nI 0)) (nI 2))) C (c_X4_get l D cy ad E X_22 2 24 sC_2 sC_3 (by decide) (f_X4_get X 8 360 v2 (nI 0)) (nI 2)) zml_RX2_54 zcv_X4_get (zW_get X_22 sC_2) rfl rfl rfl ⟨Nat.le_of_ble_eq_true rfl, Nat.le_of_ble_eq_true rfl⟩ rfl rfl (Nat.le_of_ble_eq_true rfl) ⟨Nat.zero_le _, Nat.zero_le _⟩ dX2_addOther_102 ?_
    obtain ⟨X_24, e_25, h⟩ := zlet_ex h
    refine g_vv (ws' := (zW cy ad shC E X_24)) (As := [.int q_18.1, .int (nI 2), .int (f_X4_get X_22 2 24 (f_X4_get X 8 360 v2 (nI 0)) (nI 2))]) (rest := []) C ((by rw [e_25]; exact c_X4_put l D cy ad E X_22 147 210 sC_147 sC_148 (by decide) q_18.1 (nI 2) (f_X4_get X_22 2 24 (f_X4_get X 8 360 v2 (nI 0)) (nI 2)))) zml_RX2_61 zcv_X4_put (zW_get X_22 sC_147) rfl rfl rfl ⟨Nat.le_of_ble_eq_true rfl, Nat.le_of_ble_eq_true rfl⟩ rfl rfl (Nat.le_of_ble_eq_true rfl) ⟨Nat.zero_le _, Nat.zero_le _⟩ dX2_addOther_105 ?_
    refine g_aload_n (j := 5) C dX2_addOther_108 rfl rfl ?_
    refine g_getr (k := 0) (N := 4) C sC_146 rfl zin_RX2 (by decide) rfl zfl_RX2_16 rfl dX2_addOther_109 ?_
    refine g_iload (j := 0) C dX2_addOther_112 rfl ?_
    refine g_iconst (v := (nI 3)) C dX2_addOther_114 (by decide) ?_
    refine g_iload (j := 3) C dX2_addOther_115 rfl ?_
    obtain ⟨X_26, e_27, h⟩ := zlet_ex h
    refine g_vv (ws' := (zW cy ad shC E X_26)) (As := [.int q_18.1, .int (nI 3), .int (f_X4_get X 8 360 v2 (nI 3))]) (rest := []) C ((by rw [e_27]; exact c_X4_put l D cy ad E X_24 147 210 sC_147 sC_148 (by decide) q_18.1 (nI 3) (f_X4_get X 8 360 v2 (nI 3)))) zml_RX2_61 zcv_X4_put (zW_get X_24 sC_147) rfl rfl rfl ⟨Nat.le_of_ble_eq_true rfl, Nat.le_of_ble_eq_true rfl⟩ rfl rfl (Nat.le_of_ble_eq_true rfl) ⟨Nat.zero_le _, Nat.zero_le _⟩ dX2_addOther_117 ?_
    refine g_aload_n (j := 5) C dX2_addOther_120 rfl rfl ?_
    refine g_getr (k := 0) (N := 4) C sC_146 rfl zin_RX2 (by decide) rfl zfl_RX2_16 rfl dX2_addOther_121 ?_
    refine g_iload (j := 0) C dX2_addOther_124 rfl ?_
    refine g_iconst (v := (nI 4)) C dX2_addOther_126 (by decide) ?_
    refine g_iload (j := 2) C dX2_addOther_127 rfl ?_
    obtain ⟨X_28, e_29, h⟩ := zlet_ex h
    refine g_vv (ws' := (zW cy ad shC E X_28)) (As := [.int q_18.1, .int (nI 4), .int (f_X4_get X 8 360 v2 (nI 4))]) (rest := []) C ((by rw [e_29]; exact c_X4_put l D cy ad E X_26 147 210 sC_147 sC_148 (by decide) q_18.1 (nI 4) (f_X4_get X 8 360 v2 (nI 4)))) zml_RX2_61 zcv_X4_put (zW_get X_26 sC_147) rfl rfl rfl ⟨Nat.le_of_ble_eq_true rfl, Nat.le_of_ble_eq_true rfl⟩ rfl rfl (Nat.le_of_ble_eq_true rfl) ⟨Nat.zero_le _, Nat.zero_le _⟩ dX2_addOther_129 ?_
    refine g_aload_n (j := 5) C dX2_addOther_132 rfl rfl ?_
    refine g_getr (k := 0) (N := 4) C sC_146 rfl zin_RX2 (by decide) rfl zfl_RX2_16 rfl dX2_addOther_133 ?_
    refine g_iload (j := 0) C dX2_addOther_136 rfl ?_
    refine g_iconst (v := (nI 5)) C dX2_addOther_138 (by decide) ?_
    refine g_iload (j := 2) C dX2_addOther_139 rfl ?_
    refine g_aload_n (j := 6) C dX2_addOther_141 rfl rfl ?_
    refine g_getr (k := 0) (N := 8) C sC_1 rfl zin_RX3 (by decide) rfl zfl_RX2_65 rfl dX2_addOther_142 ?_
    refine g_iload (j := 4) C dX2_addOther_145 rfl ?_
    refine g_iconst (v := (nI 1)) C dX2_addOther_147 (by decide) ?_
    refine g_vi (ws' := (zW cy ad shC E X_28)) (As := [.int (f_X4_get X 8 360 v2 (nI 0)), .int (nI 1)]) (rest := [.int (f_X4_get X 8 360 v2 (nI 4)), .int (nI 5), .int q_18.1, .ref (ad 147)]) (res := (f_X4_get X_28 2 24 (f_X4_get X 8 360 v2 (nI 0)) (nI 1))) C (c_X4_get l D cy ad E X_28 2 24 sC_2 sC_3 (by decide) (f_X4_get X 8 360 v2 (nI 0)) (nI 1)) zml_RX2_54 zcv_X4_get (zW_get X_28 sC_2) rfl rfl rfl ⟨Nat.le_of_ble_eq_true rfl, Nat.le_of_ble_eq_true rfl⟩ rfl rfl (Nat.le_of_ble_eq_true rfl) ⟨Nat.zero_le _, Nat.zero_le _⟩ dX2_addOther_148 ?_
    refine g_iadd C dX2_addOther_151 ?_
    obtain ⟨X_30, e_31, h⟩ := zlet_ex h
    refine g_vv (ws' := (zW cy ad shC E X_30)) (As := [.int q_18.1, .int (nI 5), .int ((f_X4_get X 8 360 v2 (nI 4)) + (f_X4_get X_28 2 24 (f_X4_get X 8 360 v2 (nI 0)) (nI 1)))]) (rest := []) C ((by rw [e_31]; exact c_X4_put l D cy ad E X_28 147 210 sC_147 sC_148 (by decide) q_18.1 (nI 5) ((f_X4_get X 8 360 v2 (nI 4)) + (f_X4_get X_28 2 24 (f_X4_get X 8 360 v2 (nI 0)) (nI 1))))) zml_RX2_61 zcv_X4_put (zW_get X_28 sC_147) rfl rfl rfl ⟨Nat.le_of_ble_eq_true rfl, Nat.le_of_ble_eq_true rfl⟩ rfl rfl (Nat.le_of_ble_eq_true rfl) ⟨Nat.zero_le _, Nat.zero_le _⟩ dX2_addOther_152 ?_
    refine g_aload_n (j := 5) C dX2_addOther_155 rfl rfl ?_
    refine g_getr (k := 0) (N := 4) C sC_146 rfl zin_RX2 (by decide) rfl zfl_RX2_16 rfl dX2_addOther_156 ?_
    refine g_iload (j := 0) C dX2_addOther_159 rfl ?_
    refine g_bipush (v := (nI 6)) C dX2_addOther_161 (by decide) ?_
    refine g_iload (j := 1) C dX2_addOther_163 rfl ?_
    refine g_if_eq C dX2_addOther_165 (tgt := 175) (by decide) (fun h9 => absurd h9 (by decide)) (fun _ => ?_)
    refine g_iload (j := 2) C dX2_addOther_168 rfl ?_
    refine g_iload_n (j := 8) C dX2_addOther_170 rfl rfl ?_
    refine g_iadd C dX2_addOther_171 ?_
    refine g_goto C dX2_addOther_172 (tgt := 177) (by decide) ?_
    obtain ⟨X_32, e_33, h⟩ := zlet_ex h
    refine g_vv (ws' := (zW cy ad shC E X_32)) (As := [.int q_18.1, .int (nI 6), .int ((f_X4_get X 8 360 v2 (nI 4)) + v3)]) (rest := []) C ((by rw [e_33]; exact c_X4_put l D cy ad E X_30 147 210 sC_147 sC_148 (by decide) q_18.1 (nI 6) ((f_X4_get X 8 360 v2 (nI 4)) + v3))) zml_RX2_61 zcv_X4_put (zW_get X_30 sC_147) rfl rfl rfl ⟨Nat.le_of_ble_eq_true rfl, Nat.le_of_ble_eq_true rfl⟩ rfl rfl (Nat.le_of_ble_eq_true rfl) ⟨Nat.zero_le _, Nat.zero_le _⟩ dX2_addOther_177 ?_
    obtain rfl := Option.some.inj h
    exact g_vret rfl C hr dX2_addOther_180
def f_X2_takeUp_L28 (v2 : Int32) (v5 : Int32) : Nat → (Nat → Nat → Int32) → Int32 → Option (Nat → Nat → Int32)
  | 0, _, _ => none
  | fu + 1, X, v6 => (if (f_X4_size X 8 360) ≤ v6 then some X else (if v6 = v2 then f_X2_takeUp_L28 v2 v5 fu X (v6 + 1) else (if (f_X3_isShownOn X v6 (X 146 2)) = 0 then f_X2_takeUp_L28 v2 v5 fu X (v6 + 1) else ((f_X2_addOther X v6 v5).bind fun q_1010 => f_X2_takeUp_L28 v2 v5 fu q_1010 (v6 + 1)))))
set_option maxRecDepth 100000 in
set_option maxHeartbeats 4000000 in
theorem w_X2_takeUp_L28 {p : Program} {e : Env} {s : State} {m : MethodId} {args : Array Value} {below : List Frame} {meth : Method} {c : Code} {A : Nat → Prop} (l : Launch) (D : va_G) (cy : Nat → ClassId) (ad : Nat → Nat) (E : va_W) (v2 : Int32) (v5 : Int32) {res : (Nat → Nat → Int32)} (C : zC p s m args meth c cX2_takeUp 7 RX2 D (zTy cy) A) (hr : meth.sig.returnType = none) : ∀ (fu : Nat) (X : Nat → Nat → Int32) (v6 : Int32) (h : f_X2_takeUp_L28 v2 v5 fu X v6 = some res), zG p l e (zrm 3) s m args below meth c 7 D A 0 0 (MQ below (va_Qv (fun (_ : Unit) => True) (fun _ t => zB D (zTy cy) A (zW cy ad shC E res) t) A) args s 0 0 A) (zW cy ad shC E X) 28 [(0, .ref (ad 146)), (1, .ref (ad 1)), (2, .int v2), (5, .int v5), (6, .int v6)] [] := by
  intro fu
  induction fu with
  | zero => intro X v6 h; simp [f_X2_takeUp_L28] at h
  | succ fu ih =>
    intro X v6 h
    rw [f_X2_takeUp_L28] at h
    refine g_iload (j := 4) C dX2_takeUp_28 rfl ?_
    refine g_aload_n (j := 1) C dX2_takeUp_30 rfl rfl ?_
    refine g_getr (k := 3) (N := 8) C sC_1 rfl zin_RX3 (by decide) rfl zfl_RX2_39 rfl dX2_takeUp_31 ?_
    refine g_vi (ws' := (zW cy ad shC E X)) (As := []) (rest := [.int v6]) (res := (f_X4_size X 8 360)) C (c_X4_size l D cy ad E X 8 360 sC_8 sC_9 (by decide)) zml_RX2_42 zcv_X4_size (zW_get X sC_8) rfl rfl rfl ⟨Nat.le_of_ble_eq_true rfl, Nat.le_of_ble_eq_true rfl⟩ rfl rfl (Nat.le_of_ble_eq_true rfl) ⟨Nat.zero_le _, Nat.zero_le _⟩ dX2_takeUp_34 ?_
    refine g_icmp_ge C dX2_takeUp_37 (tgt := 74) (by decide) (fun hc_1007 => ?_) (fun hc_1007 => ?_)
    · replace h := (if_pos hc_1007).symm.trans h
      obtain rfl := Option.some.inj h
      exact g_vret rfl C hr dX2_takeUp_74
    · replace h := (if_neg hc_1007).symm.trans h
      refine g_iload (j := 4) C dX2_takeUp_40 rfl ?_
      refine g_iload_n (j := 2) C dX2_takeUp_42 rfl rfl ?_
      refine g_icmp_eq C dX2_takeUp_43 (tgt := 68) (by decide) (fun hc_1008 => ?_) (fun hc_1008 => ?_)
      · replace h := (if_pos hc_1008).symm.trans h
        refine g_iinc (k := 4) (L' := [(6, .int (v6 + 1)), (0, .ref (ad 146)), (1, .ref (ad 1)), (2, .int v2), (5, .int v5)]) C dX2_takeUp_68 rfl (z_iinc (by decide)) (by decide) rfl ?_
        refine g_goto C dX2_takeUp_71 (tgt := 28) (by decide) ?_
        refine zG_sub (L' := [(0, .ref (ad 146)), (1, .ref (ad 1)), (2, .int v2), (5, .int v5), (6, .int (v6 + 1))]) [1, 2, 3, 4, 0] rfl ?_
        exact ih X (v6 + 1) h
      · replace h := (if_neg hc_1008).symm.trans h
        refine g_aload_n (j := 1) C dX2_takeUp_46 rfl rfl ?_
        refine g_iload (j := 4) C dX2_takeUp_47 rfl ?_
        refine g_aload_n (j := 0) C dX2_takeUp_49 rfl rfl ?_
        refine g_geti (k := 2) (N := 4) C sC_146 rfl zin_RX2 (by decide) rfl zfl_RX2_24 rfl dX2_takeUp_50 ?_
        refine g_vi (ws' := (zW cy ad shC E X)) (As := [.int v6, .int (X 146 2)]) (rest := []) (res := (f_X3_isShownOn X v6 (X 146 2))) C (c_X3_isShownOn l D cy ad E X v6 (X 146 2)) zml_RX2_46 zcv_X3_isShownOn (zW_get X sC_1) rfl rfl rfl ⟨Nat.le_of_ble_eq_true rfl, Nat.le_of_ble_eq_true rfl⟩ rfl rfl (Nat.le_of_ble_eq_true rfl) ⟨Nat.zero_le _, Nat.zero_le _⟩ dX2_takeUp_53 ?_
        refine g_if_eq C dX2_takeUp_56 (tgt := 68) (by decide) (fun hc_1009 => ?_) (fun hc_1009 => ?_)
        · replace h := (if_pos hc_1009).symm.trans h
          refine g_iinc (k := 4) (L' := [(6, .int (v6 + 1)), (0, .ref (ad 146)), (1, .ref (ad 1)), (2, .int v2), (5, .int v5)]) C dX2_takeUp_68 rfl (z_iinc (by decide)) (by decide) rfl ?_
          refine g_goto C dX2_takeUp_71 (tgt := 28) (by decide) ?_
          refine zG_sub (L' := [(0, .ref (ad 146)), (1, .ref (ad 1)), (2, .int v2), (5, .int v5), (6, .int (v6 + 1))]) [1, 2, 3, 4, 0] rfl ?_
          exact ih X (v6 + 1) h
        · replace h := (if_neg hc_1009).symm.trans h
          refine g_aload_n (j := 0) C dX2_takeUp_59 rfl rfl ?_
          refine g_aload_n (j := 1) C dX2_takeUp_60 rfl rfl ?_
          refine g_iload (j := 4) C dX2_takeUp_61 rfl ?_
          refine g_iload (j := 3) C dX2_takeUp_63 rfl ?_
          obtain ⟨q_1010, hq_1011, h⟩ := bind_isome h
          refine g_vv (ws' := (zW cy ad shC E q_1010)) (As := [.ref (ad 1), .int v6, .int v5]) (rest := []) C (c_X2_addOther l D cy ad E X v6 v5 hq_1011) zml_RX2_50 zcv_X2_addOther (zW_get X sC_146) rfl rfl rfl ⟨Nat.le_of_ble_eq_true rfl, Nat.le_of_ble_eq_true rfl⟩ rfl rfl (Nat.le_of_ble_eq_true rfl) ⟨Nat.zero_le _, Nat.zero_le _⟩ dX2_takeUp_65 ?_
          refine g_iinc (k := 4) (L' := [(6, .int (v6 + 1)), (0, .ref (ad 146)), (1, .ref (ad 1)), (2, .int v2), (5, .int v5)]) C dX2_takeUp_68 rfl (z_iinc (by decide)) (by decide) rfl ?_
          refine g_goto C dX2_takeUp_71 (tgt := 28) (by decide) ?_
          refine zG_sub (L' := [(0, .ref (ad 146)), (1, .ref (ad 1)), (2, .int v2), (5, .int v5), (6, .int (v6 + 1))]) [1, 2, 3, 4, 0] rfl ?_
          exact ih q_1010 (v6 + 1) h
def f_X2_takeUp (X : Nat → Nat → Int32) (v2 v3 v4 : Int32) : Option (Nat → Nat → Int32) := (zlet (zU X 146 1 v3) fun X_1 => (zlet (zU X_1 146 2 v4) fun X_3 => (zlet (f_X4_clear X_3 147 210) fun X_5 => f_X2_takeUp_L28 v2 (f_X3_settingOf X_3 (nI 2)) zFuel X_5 (nI 0))))
set_option maxRecDepth 100000 in
set_option maxHeartbeats 4000000 in
theorem c_X2_takeUp (l : Launch) (D : va_G) (cy : Nat → ClassId) (ad : Nat → Nat) (E : va_W) (X : Nat → Nat → Int32) (v2 v3 v4 : Int32) {res : (Nat → Nat → Int32)} (h : f_X2_takeUp X v2 v3 v4 = some res) : zMv l yX2_takeUp cX2_takeUp 7 none (zrm 3) D (zTy cy) (zW cy ad shC E X) [.ref (ad 146), .ref (ad 1), .int v2, .int v3, .int v4] (zW cy ad shC E res) := by
  refine zMv.of (by decide) (Nat.le_of_ble_eq_true rfl) ?_
  intro p e s m below meth c A C hr
  unfold f_X2_takeUp at h
  refine zG_L (L' := [(0, .ref (ad 146)), (1, .ref (ad 1)), (2, .int v2), (3, .int v3), (4, .int v4)]) rfl ?_
  refine g_aload_n (j := 0) C dX2_takeUp_0 rfl rfl ?_
  refine g_iload_n (j := 3) C dX2_takeUp_1 rfl rfl ?_
  refine g_puti (k := 1) (N := 4) (ty := .int) C sC_146 rfl zin_RX2 (by decide) rfl zfl_RX2_20 rfl tyX2_ok nmX2 rfl (by decide +kernel) rfl rfl dX2_takeUp_2 ?_
  obtain ⟨X_1, e_2, h⟩ := zlet_ex h
  rw [← e_2]
  refine g_aload_n (j := 0) C dX2_takeUp_5 rfl rfl ?_
  refine g_iload (j := 4) C dX2_takeUp_6 rfl ?_
  refine g_puti (k := 2) (N := 4) (ty := .int) C sC_146 rfl zin_RX2 (by decide) rfl zfl_RX2_24 rfl tyX2_ok nmX2 rfl (by decide +kernel) rfl rfl dX2_takeUp_8 ?_
  obtain ⟨X_3, e_4, h⟩ := zlet_ex h
  rw [← e_4]
  refine g_aload_n (j := 1) C dX2_takeUp_11 rfl rfl ?_
  refine g_iconst (v := (nI 2)) C dX2_takeUp_12 (by decide) ?_
  refine g_vi (ws' := (zW cy ad shC E X_3)) (As := [.int (nI 2)]) (rest := []) (res := (f_X3_settingOf X_3 (nI 2))) C (c_X3_settingOf l D cy ad E X_3 (nI 2)) zml_RX2_30 zcv_X3_settingOf (zW_get X_3 sC_1) rfl rfl rfl ⟨Nat.le_of_ble_eq_true rfl, Nat.le_of_ble_eq_true rfl⟩ rfl rfl (Nat.le_of_ble_eq_true rfl) ⟨Nat.zero_le _, Nat.zero_le _⟩ dX2_takeUp_13 ?_
  refine g_istore (L' := [(5, .int (f_X3_settingOf X_3 (nI 2))), (0, .ref (ad 146)), (1, .ref (ad 1)), (2, .int v2), (3, .int v3), (4, .int v4)]) C dX2_takeUp_16 (by decide) rfl ?_
  refine g_aload_n (j := 1) C dX2_takeUp_18 rfl rfl ?_
  refine g_getr (k := 0) (N := 4) C sC_146 rfl zin_RX2 (by decide) rfl zfl_RX2_16 rfl dX2_takeUp_19 ?_
  obtain ⟨X_5, e_6, h⟩ := zlet_ex h
  refine g_vv (ws' := (zW cy ad shC E X_5)) (As := []) (rest := []) C ((by rw [e_6]; exact c_X4_clear l D cy ad E X_3 147 210 sC_147 sC_148 (by decide))) zml_RX2_36 zcv_X4_clear (zW_get X_3 sC_147) rfl rfl rfl ⟨Nat.le_of_ble_eq_true rfl, Nat.le_of_ble_eq_true rfl⟩ rfl rfl (Nat.le_of_ble_eq_true rfl) ⟨Nat.zero_le _, Nat.zero_le _⟩ dX2_takeUp_22 ?_
  refine g_iconst (v := (nI 0)) C dX2_takeUp_25 (by decide) ?_
  refine g_istore (L' := [(6, .int (nI 0)), (5, .int (f_X3_settingOf X_3 (nI 2))), (0, .ref (ad 146)), (1, .ref (ad 1)), (2, .int v2), (3, .int v3), (4, .int v4)]) C dX2_takeUp_26 (by decide) rfl ?_
  refine zG_sub (L' := [(0, .ref (ad 146)), (1, .ref (ad 1)), (2, .int v2), (5, .int (f_X3_settingOf X_3 (nI 2))), (6, .int (nI 0))]) [2, 3, 4, 1, 0] rfl ?_
  exact w_X2_takeUp_L28 l D cy ad E v2 (f_X3_settingOf X_3 (nI 2)) C hr zFuel X_5 (nI 0) h
def f_X2_broken (X : Nat → Nat → Int32) (v1 v2 : Int32) : Int32 × (Nat → Nat → Int32) := (zlet (zU X 146 3 v2) fun X_1 => (v1, X_1))
set_option maxRecDepth 100000 in
set_option maxHeartbeats 4000000 in
theorem c_X2_broken (l : Launch) (D : va_G) (cy : Nat → ClassId) (ad : Nat → Nat) (E : va_W) (X : Nat → Nat → Int32) (v1 v2 : Int32) : zMi l yX2_broken cX2_broken 3 (some .int) (zrm 1) D (zTy cy) (zW cy ad shC E X) [.ref (ad 146), .int v1, .int v2] ((f_X2_broken X v1 v2).1) (zW cy ad shC E (f_X2_broken X v1 v2).2) := by
  refine zMi.of (by decide) (Nat.le_of_ble_eq_true rfl) ?_
  intro p e s m below meth c A C hr
  generalize h : f_X2_broken X v1 v2 = res
  unfold f_X2_broken at h
  refine zG_L (L' := [(0, .ref (ad 146)), (1, .int v1), (2, .int v2)]) rfl ?_
  refine g_aload_n (j := 0) C dX2_broken_0 rfl rfl ?_
  refine g_iload_n (j := 2) C dX2_broken_1 rfl rfl ?_
  refine g_puti (k := 3) (N := 4) (ty := .int) C sC_146 rfl zin_RX2 (by decide) rfl zfl_RX2_27 rfl tyX2_ok nmX2 rfl (by decide +kernel) rfl rfl dX2_broken_2 ?_
  obtain ⟨X_1, e_2, h⟩ := zlet_ex h
  rw [← e_2]
  refine g_iload_n (j := 1) C dX2_broken_5 rfl rfl ?_
  subst h
  exact g_iret rfl C hr rfl dX2_broken_6
def f_X2_firstAtExit_L3 (k : Int32 → Option Int32) (X : Nat → Nat → Int32) (v1 : Int32) (v2 : Int32) (v3 : Int32) : Nat → Int32 → Option Int32
  | 0, _ => none
  | fu + 1, v4 => (if (f_X4_size X 147 210) ≤ v4 then some (-1 : Int32) else (if (f_X4_get X 147 210 v4 (nI 2)) = v1 then (if v3 ≤ (if 0 ≤ ((f_X4_get X 147 210 v4 (nI 4)) - v2) then ((f_X4_get X 147 210 v4 (nI 4)) - v2) else 0 - ((f_X4_get X 147 210 v4 (nI 4)) - v2)) then f_X2_firstAtExit_L3 k X v1 v2 v3 fu (v4 + 1) else k v4) else f_X2_firstAtExit_L3 k X v1 v2 v3 fu (v4 + 1)))
set_option maxRecDepth 100000 in
set_option maxHeartbeats 4000000 in
theorem w_X2_firstAtExit_L3 {p : Program} {e : Env} {s : State} {m : MethodId} {args : Array Value} {below : List Frame} {meth : Method} {c : Code} {A : Nat → Prop} (l : Launch) (D : va_G) (cy : Nat → ClassId) (ad : Nat → Nat) (E : va_W) (k : Int32 → Option Int32) (X : Nat → Nat → Int32) (v1 : Int32) (v2 : Int32) (v3 : Int32) {res : Int32} (C : zC p s m args meth c cX2_firstAtExit 5 RX2 D (zTy cy) A) (hr : meth.sig.returnType = (some .int)) : ∀ (fu : Nat) (v4 : Int32) (h : f_X2_firstAtExit_L3 k X v1 v2 v3 fu v4 = some res) (hk : ∀ (v4 : Int32), k v4 = some res → zG p l e (zrm 2) s m args below meth c 5 D A 0 0 (MQ below (va_Qi (fun (r : Int32) (_ : Unit) => r = res) (fun _ t => zB D (zTy cy) A (zW cy ad shC E X) t) A) args s 0 0 A) (zW cy ad shC E X) 48 [(0, .ref (ad 146)), (4, .int v4)] []), zG p l e (zrm 2) s m args below meth c 5 D A 0 0 (MQ below (va_Qi (fun (r : Int32) (_ : Unit) => r = res) (fun _ t => zB D (zTy cy) A (zW cy ad shC E X) t) A) args s 0 0 A) (zW cy ad shC E X) 3 [(0, .ref (ad 146)), (1, .int v1), (2, .int v2), (3, .int v3), (4, .int v4)] [] := by
  intro fu
  induction fu with
  | zero => intro v4 h hk; simp [f_X2_firstAtExit_L3] at h
  | succ fu ih =>
    intro v4 h hk
    rw [f_X2_firstAtExit_L3] at h
    refine g_iload (j := 4) C dX2_firstAtExit_3 rfl ?_
    refine g_aload_n (j := 0) C dX2_firstAtExit_5 rfl rfl ?_
    refine g_getr (k := 0) (N := 4) C sC_146 rfl zin_RX2 (by decide) rfl zfl_RX2_16 rfl dX2_firstAtExit_6 ?_
    refine g_vi (ws' := (zW cy ad shC E X)) (As := []) (rest := [.int v4]) (res := (f_X4_size X 147 210)) C (c_X4_size l D cy ad E X 147 210 sC_147 sC_148 (by decide)) zml_RX2_42 zcv_X4_size (zW_get X sC_147) rfl rfl rfl ⟨Nat.le_of_ble_eq_true rfl, Nat.le_of_ble_eq_true rfl⟩ rfl rfl (Nat.le_of_ble_eq_true rfl) ⟨Nat.zero_le _, Nat.zero_le _⟩ dX2_firstAtExit_9 ?_
    refine g_icmp_ge C dX2_firstAtExit_12 (tgt := 65) (by decide) (fun hc_1001 => ?_) (fun hc_1001 => ?_)
    · replace h := (if_pos hc_1001).symm.trans h
      refine g_iconst (v := (-1 : Int32)) C dX2_firstAtExit_65 (by decide) ?_
      obtain rfl := Option.some.inj h
      exact g_iret rfl C hr rfl dX2_firstAtExit_66
    · replace h := (if_neg hc_1001).symm.trans h
      refine g_aload_n (j := 0) C dX2_firstAtExit_15 rfl rfl ?_
      refine g_getr (k := 0) (N := 4) C sC_146 rfl zin_RX2 (by decide) rfl zfl_RX2_16 rfl dX2_firstAtExit_16 ?_
      refine g_iload (j := 4) C dX2_firstAtExit_19 rfl ?_
      refine g_iconst (v := (nI 2)) C dX2_firstAtExit_21 (by decide) ?_
      refine g_vi (ws' := (zW cy ad shC E X)) (As := [.int v4, .int (nI 2)]) (rest := []) (res := (f_X4_get X 147 210 v4 (nI 2))) C (c_X4_get l D cy ad E X 147 210 sC_147 sC_148 (by decide) v4 (nI 2)) zml_RX2_54 zcv_X4_get (zW_get X sC_147) rfl rfl rfl ⟨Nat.le_of_ble_eq_true rfl, Nat.le_of_ble_eq_true rfl⟩ rfl rfl (Nat.le_of_ble_eq_true rfl) ⟨Nat.zero_le _, Nat.zero_le _⟩ dX2_firstAtExit_22 ?_
      refine g_iload_n (j := 1) C dX2_firstAtExit_25 rfl rfl ?_
      refine g_icmp_ne C dX2_firstAtExit_26 (tgt := 59) (by decide) (fun hc_1002 => ?_) (fun hc_1002 => ?_)
      · replace h := (if_neg hc_1002).symm.trans h
        refine g_iinc (k := 4) (L' := [(4, .int (v4 + 1)), (0, .ref (ad 146)), (1, .int v1), (2, .int v2), (3, .int v3)]) C dX2_firstAtExit_59 rfl (z_iinc (by decide)) (by decide) rfl ?_
        refine g_goto C dX2_firstAtExit_62 (tgt := 3) (by decide) ?_
        refine zG_sub (L' := [(0, .ref (ad 146)), (1, .int v1), (2, .int v2), (3, .int v3), (4, .int (v4 + 1))]) [1, 2, 3, 4, 0] rfl ?_
        exact ih (v4 + 1) h hk
      · replace h := (if_pos hc_1002).symm.trans h
        refine g_aload_n (j := 0) C dX2_firstAtExit_29 rfl rfl ?_
        refine g_getr (k := 0) (N := 4) C sC_146 rfl zin_RX2 (by decide) rfl zfl_RX2_16 rfl dX2_firstAtExit_30 ?_
        refine g_iload (j := 4) C dX2_firstAtExit_33 rfl ?_
        refine g_iconst (v := (nI 4)) C dX2_firstAtExit_35 (by decide) ?_
        refine g_vi (ws' := (zW cy ad shC E X)) (As := [.int v4, .int (nI 4)]) (rest := []) (res := (f_X4_get X 147 210 v4 (nI 4))) C (c_X4_get l D cy ad E X 147 210 sC_147 sC_148 (by decide) v4 (nI 4)) zml_RX2_54 zcv_X4_get (zW_get X sC_147) rfl rfl rfl ⟨Nat.le_of_ble_eq_true rfl, Nat.le_of_ble_eq_true rfl⟩ rfl rfl (Nat.le_of_ble_eq_true rfl) ⟨Nat.zero_le _, Nat.zero_le _⟩ dX2_firstAtExit_36 ?_
        refine g_iload_n (j := 2) C dX2_firstAtExit_39 rfl rfl ?_
        refine g_isub C dX2_firstAtExit_40 ?_
        refine g_mabs C zml_RX2_91 (Nat.le_of_ble_eq_true rfl) (Nat.le_of_ble_eq_true rfl) (Nat.le_of_ble_eq_true rfl) (Nat.le_of_ble_eq_true rfl) dX2_firstAtExit_41 ?_
        refine g_iload_n (j := 3) C dX2_firstAtExit_44 rfl rfl ?_
        refine g_icmp_ge C dX2_firstAtExit_45 (tgt := 59) (by decide) (fun hc_1003 => ?_) (fun hc_1003 => ?_)
        · replace h := (if_pos hc_1003).symm.trans h
          refine g_iinc (k := 4) (L' := [(4, .int (v4 + 1)), (0, .ref (ad 146)), (1, .int v1), (2, .int v2), (3, .int v3)]) C dX2_firstAtExit_59 rfl (z_iinc (by decide)) (by decide) rfl ?_
          refine g_goto C dX2_firstAtExit_62 (tgt := 3) (by decide) ?_
          refine zG_sub (L' := [(0, .ref (ad 146)), (1, .int v1), (2, .int v2), (3, .int v3), (4, .int (v4 + 1))]) [1, 2, 3, 4, 0] rfl ?_
          exact ih (v4 + 1) h hk
        · replace h := (if_neg hc_1003).symm.trans h
          refine zG_sub (L' := [(0, .ref (ad 146)), (4, .int v4)]) [0, 4] rfl ?_
          exact hk v4 h
def f_X2_firstAtExit (X : Nat → Nat → Int32) (v1 v2 v3 : Int32) : Option Int32 := f_X2_firstAtExit_L3 (fun v4_1004 => some (f_X4_get X 147 210 v4_1004 (nI 0))) X v1 v2 v3 zFuel (nI 0)
set_option maxRecDepth 100000 in
set_option maxHeartbeats 4000000 in
theorem c_X2_firstAtExit (l : Launch) (D : va_G) (cy : Nat → ClassId) (ad : Nat → Nat) (E : va_W) (X : Nat → Nat → Int32) (v1 v2 v3 : Int32) {res : Int32} (h : f_X2_firstAtExit X v1 v2 v3 = some res) : zMi l yX2_firstAtExit cX2_firstAtExit 5 (some .int) (zrm 2) D (zTy cy) (zW cy ad shC E X) [.ref (ad 146), .int v1, .int v2, .int v3] res (zW cy ad shC E X) := by
  refine zMi.of (by decide) (Nat.le_of_ble_eq_true rfl) ?_
  intro p e s m below meth c A C hr
  unfold f_X2_firstAtExit at h
  refine zG_L (L' := [(0, .ref (ad 146)), (1, .int v1), (2, .int v2), (3, .int v3)]) rfl ?_
  refine g_iconst (v := (nI 0)) C dX2_firstAtExit_0 (by decide) ?_
  refine g_istore (L' := [(4, .int (nI 0)), (0, .ref (ad 146)), (1, .int v1), (2, .int v2), (3, .int v3)]) C dX2_firstAtExit_1 (by decide) rfl ?_
  refine zG_sub (L' := [(0, .ref (ad 146)), (1, .int v1), (2, .int v2), (3, .int v3), (4, .int (nI 0))]) [1, 2, 3, 4, 0] rfl ?_
  refine w_X2_firstAtExit_L3 l D cy ad E _ X v1 v2 v3 C hr zFuel (nI 0) h ?_
  intro v4_1004 h
  refine g_aload_n (j := 0) C dX2_firstAtExit_48 rfl rfl ?_
  refine g_getr (k := 0) (N := 4) C sC_146 rfl zin_RX2 (by decide) rfl zfl_RX2_16 rfl dX2_firstAtExit_49 ?_
  refine g_iload (j := 1) C dX2_firstAtExit_52 rfl ?_
  refine g_iconst (v := (nI 0)) C dX2_firstAtExit_54 (by decide) ?_
  refine g_vi (ws' := (zW cy ad shC E X)) (As := [.int v4_1004, .int (nI 0)]) (rest := []) (res := (f_X4_get X 147 210 v4_1004 (nI 0))) C (c_X4_get l D cy ad E X 147 210 sC_147 sC_148 (by decide) v4_1004 (nI 0)) zml_RX2_54 zcv_X4_get (zW_get X sC_147) rfl rfl rfl ⟨Nat.le_of_ble_eq_true rfl, Nat.le_of_ble_eq_true rfl⟩ rfl rfl (Nat.le_of_ble_eq_true rfl) ⟨Nat.zero_le _, Nat.zero_le _⟩ dX2_firstAtExit_55 ?_
  obtain rfl := Option.some.inj h
  exact g_iret rfl C hr rfl dX2_firstAtExit_58
