/-! laid by wip/whole/mkparts.py -/
theorem in_X6_at_RX6 : ∀ w ∈ u_ws RX6 TX6 27, w ∈ wsX6_at := by decide +kernel
theorem fl_X6_at_9 : (Cond.fieldLink RX6 9 RX6 (TX6 1).2.1 (TX6 1).2.2.1) ∈ wsX6_at := by decide +kernel
theorem hd_X6_at : yX6_at.cls = RX6 ∧ yX6_at.cls ≠ "java/lang/invoke/MethodHandle" ∧ yX6_at.cls ≠ "java/lang/invoke/VarHandle" ∧ (parseMethodDescriptor yX6_at.desc).map (fun d => d.parameters.length) = some 3 := by decide +kernel
def f_X6_at_L48 (k : Int32 → Int32 → Int32 → Int32 → Option (Int32 × (Nat → Nat → Int32))) (X : Nat → Nat → Int32) (v1 : Int32) (v2 : Int32) (v3 : Int32) : Nat → Int32 → Int32 → Int32 → Int32 → Int32 → Option (Int32 × (Nat → Nat → Int32))
  | 0, _, _, _, _, _ => none
  | fu + 1, v4, v5, v6, v7, v8 => (if (X 1 (4 : Int32).toNatClampNeg) ≤ v8 then k v4 v5 v6 v7 else ((f_X6_stands X v8).bind fun q_1009 => (if q_1009 = 0 then f_X6_at_L48 k X v1 v2 v3 fu v4 v5 v6 v7 (v8 + 1) else ((f_X6_showAt X v8 (2 : Int32)).bind fun q_1012 => (if q_1012 = v1 then ((f_X6_showAt X v8 (3 : Int32)).bind fun q_1015 => ((f_X6_endOf X v8).bind fun q_1017 => (if (f_X6_in v2 q_1015 (q_1017 - (1 : Int32))) = 0 then ((f_X6_endOf X v8).bind fun q_1020 => ((f_X6_endOf X v8).bind fun q_1022 => ((f_X6_cleanOf X v8).bind fun q_1024 => (if (f_X6_in v2 q_1020 ((q_1022 + q_1024) - (1 : Int32))) = 0 then f_X6_at_L48 k X v1 v2 v3 fu (v4 + (0 : Int32)) (v5 + (0 : Int32)) (v6 + (0 : Int32)) v7 (v8 + 1) else f_X6_at_L48 k X v1 v2 v3 fu (v4 + (0 : Int32)) (v5 + (1 : Int32)) (v6 + (0 : Int32)) v7 (v8 + 1))))) else ((f_X6_showAt X v8 (0 : Int32)).bind fun q_1027 => ((f_X6_hallAt X q_1027 (0 : Int32)).bind fun q_1029 => (if v7 = (-1 : Int32) then ((f_X6_endOf X v8).bind fun q_1039 => ((f_X6_endOf X v8).bind fun q_1041 => ((f_X6_cleanOf X v8).bind fun q_1043 => (if (f_X6_in v2 q_1039 ((q_1041 + q_1043) - (1 : Int32))) = 0 then f_X6_at_L48 k X v1 v2 v3 fu (v4 + (1 : Int32)) (v5 + (0 : Int32)) (v6 + q_1029) v8 (v8 + 1) else f_X6_at_L48 k X v1 v2 v3 fu (v4 + (1 : Int32)) (v5 + (1 : Int32)) (v6 + q_1029) v8 (v8 + 1))))) else ((f_X6_endOf X v8).bind fun q_1032 => ((f_X6_endOf X v8).bind fun q_1034 => ((f_X6_cleanOf X v8).bind fun q_1036 => (if (f_X6_in v2 q_1032 ((q_1034 + q_1036) - (1 : Int32))) = 0 then f_X6_at_L48 k X v1 v2 v3 fu (v4 + (1 : Int32)) (v5 + (0 : Int32)) (v6 + q_1029) v7 (v8 + 1) else f_X6_at_L48 k X v1 v2 v3 fu (v4 + (1 : Int32)) (v5 + (1 : Int32)) (v6 + q_1029) v7 (v8 + 1))))))))))) else f_X6_at_L48 k X v1 v2 v3 fu v4 v5 v6 v7 (v8 + 1))))))
set_option maxRecDepth 100000 in
set_option maxHeartbeats 4000000 in
theorem w_X6_at_L48 {p : Program} {e : Env} {s : State} {m : MethodId} {args : Array Value} {below : List Frame} {meth : Method} {c : Code} {A : Nat → Prop} (l : Launch) (D : va_G) (cy : Nat → ClassId) (ad : Nat → Nat) (E : va_W) (k : Int32 → Int32 → Int32 → Int32 → Option (Int32 × (Nat → Nat → Int32))) (X : Nat → Nat → Int32) (v1 : Int32) (v2 : Int32) (v3 : Int32) {res : Int32 × (Nat → Nat → Int32)} (C : zC p s m args meth c cX6_at 10 RX6 wsX6_at D (zTy cy) A) (hr : meth.sig.returnType = (some .int)) : ∀ (fu : Nat) (v4 v5 v6 v7 v8 : Int32) (h : f_X6_at_L48 k X v1 v2 v3 fu v4 v5 v6 v7 v8 = some res) (hk : ∀ (v4 v5 v6 v7 : Int32), k v4 v5 v6 v7 = some res → zG p l e (headSpec wsX6_at (zrm 4)).room s m args below meth c 10 D A 0 0 (MQ below (va_Qi (fun (r : Int32) (_ : Unit) => r = res.1) (fun _ t => zB D (zTy cy) A (zW cy ad shM E res.2) t) A) args s 0 0 A) (zW cy ad shM E X) 205 [(0, .ref (ad 0)), (3, .int v3), (4, .int v4), (5, .int v5), (6, .int v6), (7, .int v7)] []), zG p l e (headSpec wsX6_at (zrm 4)).room s m args below meth c 10 D A 0 0 (MQ below (va_Qi (fun (r : Int32) (_ : Unit) => r = res.1) (fun _ t => zB D (zTy cy) A (zW cy ad shM E res.2) t) A) args s 0 0 A) (zW cy ad shM E X) 48 [(0, .ref (ad 0)), (1, .int v1), (2, .int v2), (3, .int v3), (4, .int v4), (5, .int v5), (6, .int v6), (7, .int v7), (8, .int v8)] [] := by
  intro fu
  induction fu with
  | zero => intro v4 v5 v6 v7 v8 h hk; simp [f_X6_at_L48] at h
  | succ fu ih =>
    intro v4 v5 v6 v7 v8 h hk
    rw [f_X6_at_L48] at h
    refine g_iload (j := 8) C dX6_at_48 rfl ?_
    refine g_aload_n (j := 0) C dX6_at_50 rfl rfl ?_
    refine g_getr (k := 1) (N := 27) C sM_0 rfl in_X6_at_RX6 (by decide) rfl fl_X6_at_9 rfl dX6_at_51 ?_
    refine g_iconst (v := 4) C dX6_at_54 (by decide) ?_
    refine g_iald C sM_1 (by decide) dX6_at_55 ?_
    refine g_icmp_ge C dX6_at_56 (tgt := 205) (by decide) (fun hc_1008 => ?_) (fun hc_1008 => ?_)
    · replace h := (if_pos hc_1008).symm.trans h
      refine zG_sub (L' := [(0, .ref (ad 0)), (3, .int v3), (4, .int v4), (5, .int v5), (6, .int v6), (7, .int v7)]) [0, 3, 4, 5, 6, 7] rfl ?_
      exact hk v4 v5 v6 v7 h
    · replace h := (if_neg hc_1008).symm.trans h
      refine g_aload_n (j := 0) C dX6_at_59 rfl rfl ?_
      refine g_iload (j := 8) C dX6_at_60 rfl ?_
      obtain ⟨q_1009, hq_1010, h⟩ := bind_isome h
      refine g_vi (ws' := (zW cy ad shM E X)) (As := [.int v8]) (rest := []) (res := q_1009) C (c_X6_stands l D cy ad E X v8 hq_1010) gX6_at_X6_stands rfl hd_X6_stands (zW_get X sM_0) rfl rfl rfl ⟨Nat.le_of_ble_eq_true rfl, Nat.le_of_ble_eq_true rfl⟩ rfl rfl (Nat.le_of_ble_eq_true rfl) ⟨Nat.zero_le _, Nat.zero_le _⟩ dX6_at_62 ?_
      refine g_if_eq C dX6_at_65 (tgt := 199) (by decide) (fun hc_1011 => ?_) (fun hc_1011 => ?_)
      · replace h := (if_pos hc_1011).symm.trans h
        refine g_iinc (k := 8) (L' := [(8, .int (v8 + 1)), (0, .ref (ad 0)), (1, .int v1), (2, .int v2), (3, .int v3), (4, .int v4), (5, .int v5), (6, .int v6), (7, .int v7)]) C dX6_at_199 rfl (z_iinc (by decide)) (by decide) rfl ?_
        refine g_goto C dX6_at_202 (tgt := 48) (by decide) ?_
        refine zG_sub (L' := [(0, .ref (ad 0)), (1, .int v1), (2, .int v2), (3, .int v3), (4, .int v4), (5, .int v5), (6, .int v6), (7, .int v7), (8, .int (v8 + 1))]) [1, 2, 3, 4, 5, 6, 7, 8, 0] rfl ?_
        exact ih v4 v5 v6 v7 (v8 + 1) h hk
      · replace h := (if_neg hc_1011).symm.trans h
        refine g_aload_n (j := 0) C dX6_at_68 rfl rfl ?_
        refine g_iload (j := 8) C dX6_at_69 rfl ?_
        refine g_iconst (v := 2) C dX6_at_71 (by decide) ?_
        obtain ⟨q_1012, hq_1013, h⟩ := bind_isome h
        refine g_vi (ws' := (zW cy ad shM E X)) (As := [.int v8, .int (2 : Int32)]) (rest := []) (res := q_1012) C (c_X6_showAt l D cy ad E X v8 (2 : Int32) hq_1013) gX6_at_X6_showAt rfl hd_X6_showAt (zW_get X sM_0) rfl rfl rfl ⟨Nat.le_of_ble_eq_true rfl, Nat.le_of_ble_eq_true rfl⟩ rfl rfl (Nat.le_of_ble_eq_true rfl) ⟨Nat.zero_le _, Nat.zero_le _⟩ dX6_at_72 ?_
        refine g_iload_n (j := 1) C dX6_at_75 rfl rfl ?_
        refine g_icmp_ne C dX6_at_76 (tgt := 199) (by decide) (fun hc_1014 => ?_) (fun hc_1014 => ?_)
        · replace h := (if_neg hc_1014).symm.trans h
          refine g_iinc (k := 8) (L' := [(8, .int (v8 + 1)), (0, .ref (ad 0)), (1, .int v1), (2, .int v2), (3, .int v3), (4, .int v4), (5, .int v5), (6, .int v6), (7, .int v7)]) C dX6_at_199 rfl (z_iinc (by decide)) (by decide) rfl ?_
          refine g_goto C dX6_at_202 (tgt := 48) (by decide) ?_
          refine zG_sub (L' := [(0, .ref (ad 0)), (1, .int v1), (2, .int v2), (3, .int v3), (4, .int v4), (5, .int v5), (6, .int v6), (7, .int v7), (8, .int (v8 + 1))]) [1, 2, 3, 4, 5, 6, 7, 8, 0] rfl ?_
          exact ih v4 v5 v6 v7 (v8 + 1) h hk
        · replace h := (if_pos hc_1014).symm.trans h
          refine g_iload_n (j := 2) C dX6_at_79 rfl rfl ?_
          refine g_aload_n (j := 0) C dX6_at_80 rfl rfl ?_
          refine g_iload (j := 8) C dX6_at_81 rfl ?_
          refine g_iconst (v := 3) C dX6_at_83 (by decide) ?_
          obtain ⟨q_1015, hq_1016, h⟩ := bind_isome h
          refine g_vi (ws' := (zW cy ad shM E X)) (As := [.int v8, .int (3 : Int32)]) (rest := [.int v2]) (res := q_1015) C (c_X6_showAt l D cy ad E X v8 (3 : Int32) hq_1016) gX6_at_X6_showAt rfl hd_X6_showAt (zW_get X sM_0) rfl rfl rfl ⟨Nat.le_of_ble_eq_true rfl, Nat.le_of_ble_eq_true rfl⟩ rfl rfl (Nat.le_of_ble_eq_true rfl) ⟨Nat.zero_le _, Nat.zero_le _⟩ dX6_at_84 ?_
          refine g_aload_n (j := 0) C dX6_at_87 rfl rfl ?_
          refine g_iload (j := 8) C dX6_at_88 rfl ?_
          obtain ⟨q_1017, hq_1018, h⟩ := bind_isome h
          refine g_vi (ws' := (zW cy ad shM E X)) (As := [.int v8]) (rest := [.int q_1015, .int v2]) (res := q_1017) C (c_X6_endOf l D cy ad E X v8 hq_1018) gX6_at_X6_endOf rfl hd_X6_endOf (zW_get X sM_0) rfl rfl rfl ⟨Nat.le_of_ble_eq_true rfl, Nat.le_of_ble_eq_true rfl⟩ rfl rfl (Nat.le_of_ble_eq_true rfl) ⟨Nat.zero_le _, Nat.zero_le _⟩ dX6_at_90 ?_
          refine g_iconst (v := 1) C dX6_at_93 (by decide) ?_
          refine g_isub C dX6_at_94 ?_
          refine g_si (ws' := (zW cy ad shM E X)) (As := [.int v2, .int q_1015, .int (q_1017 - (1 : Int32))]) (rest := []) (res := (f_X6_in v2 q_1015 (q_1017 - (1 : Int32)))) C (c_X6_in l D cy (zW cy ad shM E X) v2 q_1015 (q_1017 - (1 : Int32))) gX6_at_X6_in rfl hd_X6_in rfl rfl ⟨Nat.le_of_ble_eq_true rfl, Nat.le_of_ble_eq_true rfl⟩ rfl rfl (Nat.le_of_ble_eq_true rfl) ⟨Nat.zero_le _, Nat.zero_le _⟩ dX6_at_95 ?_
          refine g_istore (L' := [(9, .int (f_X6_in v2 q_1015 (q_1017 - (1 : Int32)))), (0, .ref (ad 0)), (1, .int v1), (2, .int v2), (3, .int v3), (4, .int v4), (5, .int v5), (6, .int v6), (7, .int v7), (8, .int v8)]) C dX6_at_98 (by decide) rfl ?_
          refine g_iload (j := 5) C dX6_at_100 rfl ?_
          refine g_iload (j := 0) C dX6_at_102 rfl ?_
          refine g_if_eq C dX6_at_104 (tgt := 111) (by decide) (fun hc_1019 => ?_) (fun hc_1019 => ?_)
          · replace h := (if_pos hc_1019).symm.trans h
            refine g_iconst (v := 0) C dX6_at_111 (by decide) ?_
            refine g_iadd C dX6_at_112 ?_
            refine g_istore (L' := [(4, .int (v4 + (0 : Int32))), (9, .int (f_X6_in v2 q_1015 (q_1017 - (1 : Int32)))), (0, .ref (ad 0)), (1, .int v1), (2, .int v2), (3, .int v3), (5, .int v5), (6, .int v6), (7, .int v7), (8, .int v8)]) C dX6_at_113 (by decide) rfl ?_
            refine g_iload (j := 7) C dX6_at_115 rfl ?_
            refine g_iload (j := 1) C dX6_at_117 rfl ?_
            refine g_if_eq C dX6_at_119 (tgt := 137) (by decide) (fun _ => ?_) (fun h9 => absurd hc_1019 h9)
            refine g_iconst (v := 0) C dX6_at_137 (by decide) ?_
            refine g_iadd C dX6_at_138 ?_
            refine g_istore (L' := [(6, .int (v6 + (0 : Int32))), (4, .int (v4 + (0 : Int32))), (9, .int (f_X6_in v2 q_1015 (q_1017 - (1 : Int32)))), (0, .ref (ad 0)), (1, .int v1), (2, .int v2), (3, .int v3), (5, .int v5), (7, .int v7), (8, .int v8)]) C dX6_at_139 (by decide) rfl ?_
            refine g_iload (j := 2) C dX6_at_141 rfl ?_
            refine g_if_eq C dX6_at_143 (tgt := 157) (by decide) (fun _ => ?_) (fun h9 => absurd hc_1019 h9)
            refine g_iload (j := 8) C dX6_at_157 rfl ?_
            refine g_istore (L' := [(7, .int v7), (6, .int (v6 + (0 : Int32))), (4, .int (v4 + (0 : Int32))), (9, .int (f_X6_in v2 q_1015 (q_1017 - (1 : Int32)))), (0, .ref (ad 0)), (1, .int v1), (2, .int v2), (3, .int v3), (5, .int v5), (8, .int v8)]) C dX6_at_159 (by decide) rfl ?_
            refine g_iload (j := 8) C dX6_at_161 rfl ?_
            refine g_iload_n (j := 6) C dX6_at_163 rfl rfl ?_
            refine g_aload_n (j := 4) C dX6_at_164 rfl rfl ?_
            refine g_iload (j := 9) C dX6_at_165 rfl ?_
            obtain ⟨q_1020, hq_1021, h⟩ := bind_isome h
            refine g_vi (ws' := (zW cy ad shM E X)) (As := [.int v8]) (rest := [.int v2, .int v5]) (res := q_1020) C (c_X6_endOf l D cy ad E X v8 hq_1021) gX6_at_X6_endOf rfl hd_X6_endOf (zW_get X sM_0) rfl rfl rfl ⟨Nat.le_of_ble_eq_true rfl, Nat.le_of_ble_eq_true rfl⟩ rfl rfl (Nat.le_of_ble_eq_true rfl) ⟨Nat.zero_le _, Nat.zero_le _⟩ dX6_at_167 ?_
            refine g_aload_n (j := 4) C dX6_at_170 rfl rfl ?_
            refine g_iload (j := 9) C dX6_at_171 rfl ?_
            obtain ⟨q_1022, hq_1023, h⟩ := bind_isome h
            refine g_vi (ws' := (zW cy ad shM E X)) (As := [.int v8]) (rest := [.int q_1020, .int v2, .int v5]) (res := q_1022) C (c_X6_endOf l D cy ad E X v8 hq_1023) gX6_at_X6_endOf rfl hd_X6_endOf (zW_get X sM_0) rfl rfl rfl ⟨Nat.le_of_ble_eq_true rfl, Nat.le_of_ble_eq_true rfl⟩ rfl rfl (Nat.le_of_ble_eq_true rfl) ⟨Nat.zero_le _, Nat.zero_le _⟩ dX6_at_173 ?_
            refine g_aload_n (j := 4) C dX6_at_176 rfl rfl ?_
            refine g_iload (j := 9) C dX6_at_177 rfl ?_
            obtain ⟨q_1024, hq_1025, h⟩ := bind_isome h
            refine g_vi (ws' := (zW cy ad shM E X)) (As := [.int v8]) (rest := [.int q_1022, .int q_1020, .int v2, .int v5]) (res := q_1024) C (c_X6_cleanOf l D cy ad E X v8 hq_1025) gX6_at_X6_cleanOf rfl hd_X6_cleanOf (zW_get X sM_0) rfl rfl rfl ⟨Nat.le_of_ble_eq_true rfl, Nat.le_of_ble_eq_true rfl⟩ rfl rfl (Nat.le_of_ble_eq_true rfl) ⟨Nat.zero_le _, Nat.zero_le _⟩ dX6_at_179 ?_
            refine g_iadd C dX6_at_182 ?_
            refine g_iconst (v := 1) C dX6_at_183 (by decide) ?_
            refine g_isub C dX6_at_184 ?_
            refine g_si (ws' := (zW cy ad shM E X)) (As := [.int v2, .int q_1020, .int ((q_1022 + q_1024) - (1 : Int32))]) (rest := [.int v5]) (res := (f_X6_in v2 q_1020 ((q_1022 + q_1024) - (1 : Int32)))) C (c_X6_in l D cy (zW cy ad shM E X) v2 q_1020 ((q_1022 + q_1024) - (1 : Int32))) gX6_at_X6_in rfl hd_X6_in rfl rfl ⟨Nat.le_of_ble_eq_true rfl, Nat.le_of_ble_eq_true rfl⟩ rfl rfl (Nat.le_of_ble_eq_true rfl) ⟨Nat.zero_le _, Nat.zero_le _⟩ dX6_at_185 ?_
            refine g_if_eq C dX6_at_188 (tgt := 195) (by decide) (fun hc_1026 => ?_) (fun hc_1026 => ?_)
            · replace h := (if_pos hc_1026).symm.trans h
              refine g_iconst (v := 0) C dX6_at_195 (by decide) ?_
              refine g_iadd C dX6_at_196 ?_
              refine g_istore (L' := [(5, .int (v5 + (0 : Int32))), (7, .int v7), (6, .int (v6 + (0 : Int32))), (4, .int (v4 + (0 : Int32))), (9, .int (f_X6_in v2 q_1015 (q_1017 - (1 : Int32)))), (0, .ref (ad 0)), (1, .int v1), (2, .int v2), (3, .int v3), (8, .int v8)]) C dX6_at_197 (by decide) rfl ?_
              refine g_iinc (k := 9) (L' := [(8, .int (v8 + 1)), (5, .int (v5 + (0 : Int32))), (7, .int v7), (6, .int (v6 + (0 : Int32))), (4, .int (v4 + (0 : Int32))), (9, .int (f_X6_in v2 q_1015 (q_1017 - (1 : Int32)))), (0, .ref (ad 0)), (1, .int v1), (2, .int v2), (3, .int v3)]) C dX6_at_199 rfl (z_iinc (by decide)) (by decide) rfl ?_
              refine g_goto C dX6_at_202 (tgt := 48) (by decide) ?_
              refine zG_sub (L' := [(0, .ref (ad 0)), (1, .int v1), (2, .int v2), (3, .int v3), (4, .int (v4 + (0 : Int32))), (5, .int (v5 + (0 : Int32))), (6, .int (v6 + (0 : Int32))), (7, .int v7), (8, .int (v8 + 1))]) [6, 7, 8, 9, 4, 1, 3, 2, 0] rfl ?_
              exact ih (v4 + (0 : Int32)) (v5 + (0 : Int32)) (v6 + (0 : Int32)) v7 (v8 + 1) h hk
            · replace h := (if_neg hc_1026).symm.trans h
              refine g_iconst (v := 1) C dX6_at_191 (by decide) ?_
              refine g_goto C dX6_at_192 (tgt := 196) (by decide) ?_
              refine g_iadd C dX6_at_196 ?_
              refine g_istore (L' := [(5, .int (v5 + (1 : Int32))), (7, .int v7), (6, .int (v6 + (0 : Int32))), (4, .int (v4 + (0 : Int32))), (9, .int (f_X6_in v2 q_1015 (q_1017 - (1 : Int32)))), (0, .ref (ad 0)), (1, .int v1), (2, .int v2), (3, .int v3), (8, .int v8)]) C dX6_at_197 (by decide) rfl ?_
              refine g_iinc (k := 9) (L' := [(8, .int (v8 + 1)), (5, .int (v5 + (1 : Int32))), (7, .int v7), (6, .int (v6 + (0 : Int32))), (4, .int (v4 + (0 : Int32))), (9, .int (f_X6_in v2 q_1015 (q_1017 - (1 : Int32)))), (0, .ref (ad 0)), (1, .int v1), (2, .int v2), (3, .int v3)]) C dX6_at_199 rfl (z_iinc (by decide)) (by decide) rfl ?_
              refine g_goto C dX6_at_202 (tgt := 48) (by decide) ?_
              refine zG_sub (L' := [(0, .ref (ad 0)), (1, .int v1), (2, .int v2), (3, .int v3), (4, .int (v4 + (0 : Int32))), (5, .int (v5 + (1 : Int32))), (6, .int (v6 + (0 : Int32))), (7, .int v7), (8, .int (v8 + 1))]) [6, 7, 8, 9, 4, 1, 3, 2, 0] rfl ?_
              exact ih (v4 + (0 : Int32)) (v5 + (1 : Int32)) (v6 + (0 : Int32)) v7 (v8 + 1) h hk
          · replace h := (if_neg hc_1019).symm.trans h
            refine g_iconst (v := 1) C dX6_at_107 (by decide) ?_
            refine g_goto C dX6_at_108 (tgt := 112) (by decide) ?_
            refine g_iadd C dX6_at_112 ?_
            refine g_istore (L' := [(4, .int (v4 + (1 : Int32))), (9, .int (f_X6_in v2 q_1015 (q_1017 - (1 : Int32)))), (0, .ref (ad 0)), (1, .int v1), (2, .int v2), (3, .int v3), (5, .int v5), (6, .int v6), (7, .int v7), (8, .int v8)]) C dX6_at_113 (by decide) rfl ?_
            refine g_iload (j := 7) C dX6_at_115 rfl ?_
            refine g_iload (j := 1) C dX6_at_117 rfl ?_
            refine g_if_eq C dX6_at_119 (tgt := 137) (by decide) (fun h9 => absurd h9 hc_1019) (fun _ => ?_)
            refine g_aload_n (j := 2) C dX6_at_122 rfl rfl ?_
            refine g_aload_n (j := 2) C dX6_at_123 rfl rfl ?_
            refine g_iload (j := 9) C dX6_at_124 rfl ?_
            refine g_iconst (v := 0) C dX6_at_126 (by decide) ?_
            obtain ⟨q_1027, hq_1028, h⟩ := bind_isome h
            refine g_vi (ws' := (zW cy ad shM E X)) (As := [.int v8, .int (0 : Int32)]) (rest := [.ref (ad 0), .int v6]) (res := q_1027) C (c_X6_showAt l D cy ad E X v8 (0 : Int32) hq_1028) gX6_at_X6_showAt rfl hd_X6_showAt (zW_get X sM_0) rfl rfl rfl ⟨Nat.le_of_ble_eq_true rfl, Nat.le_of_ble_eq_true rfl⟩ rfl rfl (Nat.le_of_ble_eq_true rfl) ⟨Nat.zero_le _, Nat.zero_le _⟩ dX6_at_127 ?_
            refine g_iconst (v := 0) C dX6_at_130 (by decide) ?_
            obtain ⟨q_1029, hq_1030, h⟩ := bind_isome h
            refine g_vi (ws' := (zW cy ad shM E X)) (As := [.int q_1027, .int (0 : Int32)]) (rest := [.int v6]) (res := q_1029) C (c_X6_hallAt l D cy ad E X q_1027 (0 : Int32) hq_1030) gX6_at_X6_hallAt rfl hd_X6_hallAt (zW_get X sM_0) rfl rfl rfl ⟨Nat.le_of_ble_eq_true rfl, Nat.le_of_ble_eq_true rfl⟩ rfl rfl (Nat.le_of_ble_eq_true rfl) ⟨Nat.zero_le _, Nat.zero_le _⟩ dX6_at_131 ?_
            refine g_goto C dX6_at_134 (tgt := 138) (by decide) ?_
            refine g_iadd C dX6_at_138 ?_
            refine g_istore (L' := [(6, .int (v6 + q_1029)), (4, .int (v4 + (1 : Int32))), (9, .int (f_X6_in v2 q_1015 (q_1017 - (1 : Int32)))), (0, .ref (ad 0)), (1, .int v1), (2, .int v2), (3, .int v3), (5, .int v5), (7, .int v7), (8, .int v8)]) C dX6_at_139 (by decide) rfl ?_
            refine g_iload (j := 2) C dX6_at_141 rfl ?_
            refine g_if_eq C dX6_at_143 (tgt := 157) (by decide) (fun h9 => absurd h9 hc_1019) (fun _ => ?_)
            refine g_iload (j := 8) C dX6_at_146 rfl ?_
            refine g_iconst (v := -1) C dX6_at_148 (by decide) ?_
            refine g_icmp_ne C dX6_at_149 (tgt := 157) (by decide) (fun hc_1031 => ?_) (fun hc_1031 => ?_)
            · replace h := (if_neg hc_1031).symm.trans h
              refine g_iload (j := 8) C dX6_at_157 rfl ?_
              refine g_istore (L' := [(7, .int v7), (6, .int (v6 + q_1029)), (4, .int (v4 + (1 : Int32))), (9, .int (f_X6_in v2 q_1015 (q_1017 - (1 : Int32)))), (0, .ref (ad 0)), (1, .int v1), (2, .int v2), (3, .int v3), (5, .int v5), (8, .int v8)]) C dX6_at_159 (by decide) rfl ?_
              refine g_iload (j := 8) C dX6_at_161 rfl ?_
              refine g_iload_n (j := 6) C dX6_at_163 rfl rfl ?_
              refine g_aload_n (j := 4) C dX6_at_164 rfl rfl ?_
              refine g_iload (j := 9) C dX6_at_165 rfl ?_
              obtain ⟨q_1032, hq_1033, h⟩ := bind_isome h
              refine g_vi (ws' := (zW cy ad shM E X)) (As := [.int v8]) (rest := [.int v2, .int v5]) (res := q_1032) C (c_X6_endOf l D cy ad E X v8 hq_1033) gX6_at_X6_endOf rfl hd_X6_endOf (zW_get X sM_0) rfl rfl rfl ⟨Nat.le_of_ble_eq_true rfl, Nat.le_of_ble_eq_true rfl⟩ rfl rfl (Nat.le_of_ble_eq_true rfl) ⟨Nat.zero_le _, Nat.zero_le _⟩ dX6_at_167 ?_
              refine g_aload_n (j := 4) C dX6_at_170 rfl rfl ?_
              refine g_iload (j := 9) C dX6_at_171 rfl ?_
              obtain ⟨q_1034, hq_1035, h⟩ := bind_isome h
              refine g_vi (ws' := (zW cy ad shM E X)) (As := [.int v8]) (rest := [.int q_1032, .int v2, .int v5]) (res := q_1034) C (c_X6_endOf l D cy ad E X v8 hq_1035) gX6_at_X6_endOf rfl hd_X6_endOf (zW_get X sM_0) rfl rfl rfl ⟨Nat.le_of_ble_eq_true rfl, Nat.le_of_ble_eq_true rfl⟩ rfl rfl (Nat.le_of_ble_eq_true rfl) ⟨Nat.zero_le _, Nat.zero_le _⟩ dX6_at_173 ?_
              refine g_aload_n (j := 4) C dX6_at_176 rfl rfl ?_
              refine g_iload (j := 9) C dX6_at_177 rfl ?_
              obtain ⟨q_1036, hq_1037, h⟩ := bind_isome h
              refine g_vi (ws' := (zW cy ad shM E X)) (As := [.int v8]) (rest := [.int q_1034, .int q_1032, .int v2, .int v5]) (res := q_1036) C (c_X6_cleanOf l D cy ad E X v8 hq_1037) gX6_at_X6_cleanOf rfl hd_X6_cleanOf (zW_get X sM_0) rfl rfl rfl ⟨Nat.le_of_ble_eq_true rfl, Nat.le_of_ble_eq_true rfl⟩ rfl rfl (Nat.le_of_ble_eq_true rfl) ⟨Nat.zero_le _, Nat.zero_le _⟩ dX6_at_179 ?_
              refine g_iadd C dX6_at_182 ?_
              refine g_iconst (v := 1) C dX6_at_183 (by decide) ?_
              refine g_isub C dX6_at_184 ?_
              refine g_si (ws' := (zW cy ad shM E X)) (As := [.int v2, .int q_1032, .int ((q_1034 + q_1036) - (1 : Int32))]) (rest := [.int v5]) (res := (f_X6_in v2 q_1032 ((q_1034 + q_1036) - (1 : Int32)))) C (c_X6_in l D cy (zW cy ad shM E X) v2 q_1032 ((q_1034 + q_1036) - (1 : Int32))) gX6_at_X6_in rfl hd_X6_in rfl rfl ⟨Nat.le_of_ble_eq_true rfl, Nat.le_of_ble_eq_true rfl⟩ rfl rfl (Nat.le_of_ble_eq_true rfl) ⟨Nat.zero_le _, Nat.zero_le _⟩ dX6_at_185 ?_
              refine g_if_eq C dX6_at_188 (tgt := 195) (by decide) (fun hc_1038 => ?_) (fun hc_1038 => ?_)
              · replace h := (if_pos hc_1038).symm.trans h
                refine g_iconst (v := 0) C dX6_at_195 (by decide) ?_
                refine g_iadd C dX6_at_196 ?_
                refine g_istore (L' := [(5, .int (v5 + (0 : Int32))), (7, .int v7), (6, .int (v6 + q_1029)), (4, .int (v4 + (1 : Int32))), (9, .int (f_X6_in v2 q_1015 (q_1017 - (1 : Int32)))), (0, .ref (ad 0)), (1, .int v1), (2, .int v2), (3, .int v3), (8, .int v8)]) C dX6_at_197 (by decide) rfl ?_
                refine g_iinc (k := 9) (L' := [(8, .int (v8 + 1)), (5, .int (v5 + (0 : Int32))), (7, .int v7), (6, .int (v6 + q_1029)), (4, .int (v4 + (1 : Int32))), (9, .int (f_X6_in v2 q_1015 (q_1017 - (1 : Int32)))), (0, .ref (ad 0)), (1, .int v1), (2, .int v2), (3, .int v3)]) C dX6_at_199 rfl (z_iinc (by decide)) (by decide) rfl ?_
                refine g_goto C dX6_at_202 (tgt := 48) (by decide) ?_
                refine zG_sub (L' := [(0, .ref (ad 0)), (1, .int v1), (2, .int v2), (3, .int v3), (4, .int (v4 + (1 : Int32))), (5, .int (v5 + (0 : Int32))), (6, .int (v6 + q_1029)), (7, .int v7), (8, .int (v8 + 1))]) [6, 7, 8, 9, 4, 1, 3, 2, 0] rfl ?_
                exact ih (v4 + (1 : Int32)) (v5 + (0 : Int32)) (v6 + q_1029) v7 (v8 + 1) h hk
              · replace h := (if_neg hc_1038).symm.trans h
                refine g_iconst (v := 1) C dX6_at_191 (by decide) ?_
                refine g_goto C dX6_at_192 (tgt := 196) (by decide) ?_
                refine g_iadd C dX6_at_196 ?_
                refine g_istore (L' := [(5, .int (v5 + (1 : Int32))), (7, .int v7), (6, .int (v6 + q_1029)), (4, .int (v4 + (1 : Int32))), (9, .int (f_X6_in v2 q_1015 (q_1017 - (1 : Int32)))), (0, .ref (ad 0)), (1, .int v1), (2, .int v2), (3, .int v3), (8, .int v8)]) C dX6_at_197 (by decide) rfl ?_
                refine g_iinc (k := 9) (L' := [(8, .int (v8 + 1)), (5, .int (v5 + (1 : Int32))), (7, .int v7), (6, .int (v6 + q_1029)), (4, .int (v4 + (1 : Int32))), (9, .int (f_X6_in v2 q_1015 (q_1017 - (1 : Int32)))), (0, .ref (ad 0)), (1, .int v1), (2, .int v2), (3, .int v3)]) C dX6_at_199 rfl (z_iinc (by decide)) (by decide) rfl ?_
                refine g_goto C dX6_at_202 (tgt := 48) (by decide) ?_
                refine zG_sub (L' := [(0, .ref (ad 0)), (1, .int v1), (2, .int v2), (3, .int v3), (4, .int (v4 + (1 : Int32))), (5, .int (v5 + (1 : Int32))), (6, .int (v6 + q_1029)), (7, .int v7), (8, .int (v8 + 1))]) [6, 7, 8, 9, 4, 1, 3, 2, 0] rfl ?_
                exact ih (v4 + (1 : Int32)) (v5 + (1 : Int32)) (v6 + q_1029) v7 (v8 + 1) h hk
            · replace h := (if_pos hc_1031).symm.trans h
              refine g_iload (j := 9) C dX6_at_152 rfl ?_
              refine g_goto C dX6_at_154 (tgt := 159) (by decide) ?_
              refine g_istore (L' := [(7, .int v8), (6, .int (v6 + q_1029)), (4, .int (v4 + (1 : Int32))), (9, .int (f_X6_in v2 q_1015 (q_1017 - (1 : Int32)))), (0, .ref (ad 0)), (1, .int v1), (2, .int v2), (3, .int v3), (5, .int v5), (8, .int v8)]) C dX6_at_159 (by decide) rfl ?_
              refine g_iload (j := 8) C dX6_at_161 rfl ?_
              refine g_iload_n (j := 6) C dX6_at_163 rfl rfl ?_
              refine g_aload_n (j := 4) C dX6_at_164 rfl rfl ?_
              refine g_iload (j := 9) C dX6_at_165 rfl ?_
              obtain ⟨q_1039, hq_1040, h⟩ := bind_isome h
              refine g_vi (ws' := (zW cy ad shM E X)) (As := [.int v8]) (rest := [.int v2, .int v5]) (res := q_1039) C (c_X6_endOf l D cy ad E X v8 hq_1040) gX6_at_X6_endOf rfl hd_X6_endOf (zW_get X sM_0) rfl rfl rfl ⟨Nat.le_of_ble_eq_true rfl, Nat.le_of_ble_eq_true rfl⟩ rfl rfl (Nat.le_of_ble_eq_true rfl) ⟨Nat.zero_le _, Nat.zero_le _⟩ dX6_at_167 ?_
              refine g_aload_n (j := 4) C dX6_at_170 rfl rfl ?_
              refine g_iload (j := 9) C dX6_at_171 rfl ?_
              obtain ⟨q_1041, hq_1042, h⟩ := bind_isome h
              refine g_vi (ws' := (zW cy ad shM E X)) (As := [.int v8]) (rest := [.int q_1039, .int v2, .int v5]) (res := q_1041) C (c_X6_endOf l D cy ad E X v8 hq_1042) gX6_at_X6_endOf rfl hd_X6_endOf (zW_get X sM_0) rfl rfl rfl ⟨Nat.le_of_ble_eq_true rfl, Nat.le_of_ble_eq_true rfl⟩ rfl rfl (Nat.le_of_ble_eq_true rfl) ⟨Nat.zero_le _, Nat.zero_le _⟩ dX6_at_173 ?_
              refine g_aload_n (j := 4) C dX6_at_176 rfl rfl ?_
              refine g_iload (j := 9) C dX6_at_177 rfl ?_
              obtain ⟨q_1043, hq_1044, h⟩ := bind_isome h
              refine g_vi (ws' := (zW cy ad shM E X)) (As := [.int v8]) (rest := [.int q_1041, .int q_1039, .int v2, .int v5]) (res := q_1043) C (c_X6_cleanOf l D cy ad E X v8 hq_1044) gX6_at_X6_cleanOf rfl hd_X6_cleanOf (zW_get X sM_0) rfl rfl rfl ⟨Nat.le_of_ble_eq_true rfl, Nat.le_of_ble_eq_true rfl⟩ rfl rfl (Nat.le_of_ble_eq_true rfl) ⟨Nat.zero_le _, Nat.zero_le _⟩ dX6_at_179 ?_
              refine g_iadd C dX6_at_182 ?_
              refine g_iconst (v := 1) C dX6_at_183 (by decide) ?_
              refine g_isub C dX6_at_184 ?_
              refine g_si (ws' := (zW cy ad shM E X)) (As := [.int v2, .int q_1039, .int ((q_1041 + q_1043) - (1 : Int32))]) (rest := [.int v5]) (res := (f_X6_in v2 q_1039 ((q_1041 + q_1043) - (1 : Int32)))) C (c_X6_in l D cy (zW cy ad shM E X) v2 q_1039 ((q_1041 + q_1043) - (1 : Int32))) gX6_at_X6_in rfl hd_X6_in rfl rfl ⟨Nat.le_of_ble_eq_true rfl, Nat.le_of_ble_eq_true rfl⟩ rfl rfl (Nat.le_of_ble_eq_true rfl) ⟨Nat.zero_le _, Nat.zero_le _⟩ dX6_at_185 ?_
              refine g_if_eq C dX6_at_188 (tgt := 195) (by decide) (fun hc_1045 => ?_) (fun hc_1045 => ?_)
              · replace h := (if_pos hc_1045).symm.trans h
                refine g_iconst (v := 0) C dX6_at_195 (by decide) ?_
                refine g_iadd C dX6_at_196 ?_
                refine g_istore (L' := [(5, .int (v5 + (0 : Int32))), (7, .int v8), (6, .int (v6 + q_1029)), (4, .int (v4 + (1 : Int32))), (9, .int (f_X6_in v2 q_1015 (q_1017 - (1 : Int32)))), (0, .ref (ad 0)), (1, .int v1), (2, .int v2), (3, .int v3), (8, .int v8)]) C dX6_at_197 (by decide) rfl ?_
                refine g_iinc (k := 9) (L' := [(8, .int (v8 + 1)), (5, .int (v5 + (0 : Int32))), (7, .int v8), (6, .int (v6 + q_1029)), (4, .int (v4 + (1 : Int32))), (9, .int (f_X6_in v2 q_1015 (q_1017 - (1 : Int32)))), (0, .ref (ad 0)), (1, .int v1), (2, .int v2), (3, .int v3)]) C dX6_at_199 rfl (z_iinc (by decide)) (by decide) rfl ?_
                refine g_goto C dX6_at_202 (tgt := 48) (by decide) ?_
                refine zG_sub (L' := [(0, .ref (ad 0)), (1, .int v1), (2, .int v2), (3, .int v3), (4, .int (v4 + (1 : Int32))), (5, .int (v5 + (0 : Int32))), (6, .int (v6 + q_1029)), (7, .int v8), (8, .int (v8 + 1))]) [6, 7, 8, 9, 4, 1, 3, 2, 0] rfl ?_
                exact ih (v4 + (1 : Int32)) (v5 + (0 : Int32)) (v6 + q_1029) v8 (v8 + 1) h hk
              · replace h := (if_neg hc_1045).symm.trans h
                refine g_iconst (v := 1) C dX6_at_191 (by decide) ?_
                refine g_goto C dX6_at_192 (tgt := 196) (by decide) ?_
                refine g_iadd C dX6_at_196 ?_
                refine g_istore (L' := [(5, .int (v5 + (1 : Int32))), (7, .int v8), (6, .int (v6 + q_1029)), (4, .int (v4 + (1 : Int32))), (9, .int (f_X6_in v2 q_1015 (q_1017 - (1 : Int32)))), (0, .ref (ad 0)), (1, .int v1), (2, .int v2), (3, .int v3), (8, .int v8)]) C dX6_at_197 (by decide) rfl ?_
                refine g_iinc (k := 9) (L' := [(8, .int (v8 + 1)), (5, .int (v5 + (1 : Int32))), (7, .int v8), (6, .int (v6 + q_1029)), (4, .int (v4 + (1 : Int32))), (9, .int (f_X6_in v2 q_1015 (q_1017 - (1 : Int32)))), (0, .ref (ad 0)), (1, .int v1), (2, .int v2), (3, .int v3)]) C dX6_at_199 rfl (z_iinc (by decide)) (by decide) rfl ?_
                refine g_goto C dX6_at_202 (tgt := 48) (by decide) ?_
                refine zG_sub (L' := [(0, .ref (ad 0)), (1, .int v1), (2, .int v2), (3, .int v3), (4, .int (v4 + (1 : Int32))), (5, .int (v5 + (1 : Int32))), (6, .int (v6 + q_1029)), (7, .int v8), (8, .int (v8 + 1))]) [6, 7, 8, 9, 4, 1, 3, 2, 0] rfl ?_
                exact ih (v4 + (1 : Int32)) (v5 + (1 : Int32)) (v6 + q_1029) v8 (v8 + 1) h hk
def f_X6_at (X : Nat → Nat → Int32) (v1 v2 v3 : Int32) : Option (Int32 × (Nat → Nat → Int32)) := (if (f_X6_isDay v1) = 0 then (zlet (f_X6_fails X (1 : Int32)) fun q_2 => some (q_2.1, q_2.2)) else (if (f_X6_in v2 (0 : Int32) (1200 : Int32)) = 0 then (zlet (f_X6_fails X (1 : Int32)) fun q_5 => some (q_5.1, q_5.2)) else (if (f_X6_in v3 (0 : Int32) (3 : Int32)) = 0 then (zlet (f_X6_fails X (1 : Int32)) fun q_1061 => some (q_1061.1, q_1061.2)) else f_X6_at_L48 (fun v4_1046 v5_1047 v6_1048 v7_1049 => (if v3 = 0 then (zlet (f_X6_done X v4_1046) fun q_1059 => some (q_1059.1, q_1059.2)) else (if v3 = (1 : Int32) then (zlet (f_X6_done X v5_1047) fun q_1057 => some (q_1057.1, q_1057.2)) else (if v3 = (2 : Int32) then (zlet (f_X6_done X v6_1048) fun q_1055 => some (q_1055.1, q_1055.2)) else (zlet (f_X6_done X v7_1049) fun q_1053 => some (q_1053.1, q_1053.2)))))) X v1 v2 v3 zFuel (0 : Int32) (0 : Int32) (0 : Int32) (-1 : Int32) (0 : Int32))))
set_option maxRecDepth 100000 in
set_option maxHeartbeats 4000000 in
theorem c_X6_at (l : Launch) (D : va_G) (cy : Nat → ClassId) (ad : Nat → Nat) (E : va_W) (X : Nat → Nat → Int32) (v1 v2 v3 : Int32) {res : Int32 × (Nat → Nat → Int32)} (h : f_X6_at X v1 v2 v3 = some res) : zMi l yX6_at wsX6_at (zrm 4) D (zTy cy) (zW cy ad shM E X) [.ref (ad 0), .int v1, .int v2, .int v3] res.1 (zW cy ad shM E res.2) := by
  refine zMi.of (cc := cX6_at) (maxL := 10) (ret := (some .int)) (by decide) rfl (Nat.le_of_ble_eq_true rfl) ?_
  intro p e s m below meth c A C hr
  unfold f_X6_at at h
  refine zG_L (L' := [(0, .ref (ad 0)), (1, .int v1), (2, .int v2), (3, .int v3)]) rfl ?_
  refine g_iload_n (j := 1) C dX6_at_0 rfl rfl ?_
  refine g_si (ws' := (zW cy ad shM E X)) (As := [.int v1]) (rest := []) (res := (f_X6_isDay v1)) C (c_X6_isDay l D cy (zW cy ad shM E X) v1) gX6_at_X6_isDay rfl hd_X6_isDay rfl rfl ⟨Nat.le_of_ble_eq_true rfl, Nat.le_of_ble_eq_true rfl⟩ rfl rfl (Nat.le_of_ble_eq_true rfl) ⟨Nat.zero_le _, Nat.zero_le _⟩ dX6_at_1 ?_
  refine g_if_eq C dX6_at_4 (tgt := 27) (by decide) (fun hc_1 => ?_) (fun hc_1 => ?_)
  · replace h := (if_pos hc_1).symm.trans h
    refine g_aload_n (j := 0) C dX6_at_27 rfl rfl ?_
    refine g_iconst (v := 1) C dX6_at_28 (by decide) ?_
    obtain ⟨q_2, e_3, h⟩ := zlet_ex h
    refine g_vi (ws' := (zW cy ad shM E q_2.2)) (As := [.int (1 : Int32)]) (rest := []) (res := q_2.1) C ((by rw [e_3]; exact c_X6_fails l D cy ad E X (1 : Int32))) gX6_at_X6_fails rfl hd_X6_fails (zW_get X sM_0) rfl rfl rfl ⟨Nat.le_of_ble_eq_true rfl, Nat.le_of_ble_eq_true rfl⟩ rfl rfl (Nat.le_of_ble_eq_true rfl) ⟨Nat.zero_le _, Nat.zero_le _⟩ dX6_at_29 ?_
    obtain rfl := Option.some.inj h
    exact g_iret rfl C hr rfl dX6_at_32
  · replace h := (if_neg hc_1).symm.trans h
    refine g_iload_n (j := 2) C dX6_at_7 rfl rfl ?_
    refine g_iconst (v := 0) C dX6_at_8 (by decide) ?_
    refine g_sipush (v := 1200) C dX6_at_9 (by decide) ?_
    refine g_si (ws' := (zW cy ad shM E X)) (As := [.int v2, .int (0 : Int32), .int (1200 : Int32)]) (rest := []) (res := (f_X6_in v2 (0 : Int32) (1200 : Int32))) C (c_X6_in l D cy (zW cy ad shM E X) v2 (0 : Int32) (1200 : Int32)) gX6_at_X6_in rfl hd_X6_in rfl rfl ⟨Nat.le_of_ble_eq_true rfl, Nat.le_of_ble_eq_true rfl⟩ rfl rfl (Nat.le_of_ble_eq_true rfl) ⟨Nat.zero_le _, Nat.zero_le _⟩ dX6_at_12 ?_
    refine g_if_eq C dX6_at_15 (tgt := 27) (by decide) (fun hc_4 => ?_) (fun hc_4 => ?_)
    · replace h := (if_pos hc_4).symm.trans h
      refine g_aload_n (j := 0) C dX6_at_27 rfl rfl ?_
      refine g_iconst (v := 1) C dX6_at_28 (by decide) ?_
      obtain ⟨q_5, e_6, h⟩ := zlet_ex h
      refine g_vi (ws' := (zW cy ad shM E q_5.2)) (As := [.int (1 : Int32)]) (rest := []) (res := q_5.1) C ((by rw [e_6]; exact c_X6_fails l D cy ad E X (1 : Int32))) gX6_at_X6_fails rfl hd_X6_fails (zW_get X sM_0) rfl rfl rfl ⟨Nat.le_of_ble_eq_true rfl, Nat.le_of_ble_eq_true rfl⟩ rfl rfl (Nat.le_of_ble_eq_true rfl) ⟨Nat.zero_le _, Nat.zero_le _⟩ dX6_at_29 ?_
      obtain rfl := Option.some.inj h
      exact g_iret rfl C hr rfl dX6_at_32
    · replace h := (if_neg hc_4).symm.trans h
      refine g_iload_n (j := 3) C dX6_at_18 rfl rfl ?_
      refine g_iconst (v := 0) C dX6_at_19 (by decide) ?_
      refine g_iconst (v := 3) C dX6_at_20 (by decide) ?_
      refine g_si (ws' := (zW cy ad shM E X)) (As := [.int v3, .int (0 : Int32), .int (3 : Int32)]) (rest := []) (res := (f_X6_in v3 (0 : Int32) (3 : Int32))) C (c_X6_in l D cy (zW cy ad shM E X) v3 (0 : Int32) (3 : Int32)) gX6_at_X6_in rfl hd_X6_in rfl rfl ⟨Nat.le_of_ble_eq_true rfl, Nat.le_of_ble_eq_true rfl⟩ rfl rfl (Nat.le_of_ble_eq_true rfl) ⟨Nat.zero_le _, Nat.zero_le _⟩ dX6_at_21 ?_
      refine g_if_ne C dX6_at_24 (tgt := 33) (by decide) (fun hc_7 => ?_) (fun hc_7 => ?_)
      · replace h := (if_neg hc_7).symm.trans h
        refine g_iconst (v := 0) C dX6_at_33 (by decide) ?_
        refine g_istore (L' := [(4, .int (0 : Int32)), (0, .ref (ad 0)), (1, .int v1), (2, .int v2), (3, .int v3)]) C dX6_at_34 (by decide) rfl ?_
        refine g_iconst (v := 0) C dX6_at_36 (by decide) ?_
        refine g_istore (L' := [(5, .int (0 : Int32)), (4, .int (0 : Int32)), (0, .ref (ad 0)), (1, .int v1), (2, .int v2), (3, .int v3)]) C dX6_at_37 (by decide) rfl ?_
        refine g_iconst (v := 0) C dX6_at_39 (by decide) ?_
        refine g_istore (L' := [(6, .int (0 : Int32)), (5, .int (0 : Int32)), (4, .int (0 : Int32)), (0, .ref (ad 0)), (1, .int v1), (2, .int v2), (3, .int v3)]) C dX6_at_40 (by decide) rfl ?_
        refine g_iconst (v := -1) C dX6_at_42 (by decide) ?_
        refine g_istore (L' := [(7, .int (-1 : Int32)), (6, .int (0 : Int32)), (5, .int (0 : Int32)), (4, .int (0 : Int32)), (0, .ref (ad 0)), (1, .int v1), (2, .int v2), (3, .int v3)]) C dX6_at_43 (by decide) rfl ?_
        refine g_iconst (v := 0) C dX6_at_45 (by decide) ?_
        refine g_istore (L' := [(8, .int (0 : Int32)), (7, .int (-1 : Int32)), (6, .int (0 : Int32)), (5, .int (0 : Int32)), (4, .int (0 : Int32)), (0, .ref (ad 0)), (1, .int v1), (2, .int v2), (3, .int v3)]) C dX6_at_46 (by decide) rfl ?_
        refine zG_sub (L' := [(0, .ref (ad 0)), (1, .int v1), (2, .int v2), (3, .int v3), (4, .int (0 : Int32)), (5, .int (0 : Int32)), (6, .int (0 : Int32)), (7, .int (-1 : Int32)), (8, .int (0 : Int32))]) [5, 6, 7, 8, 4, 3, 2, 1, 0] rfl ?_
        refine w_X6_at_L48 l D cy ad E _ X v1 v2 v3 C hr zFuel (0 : Int32) (0 : Int32) (0 : Int32) (-1 : Int32) (0 : Int32) h ?_
        intro v4_1046 v5_1047 v6_1048 v7_1049 h
        refine g_aload_n (j := 0) C dX6_at_205 rfl rfl ?_
        refine g_iload_n (j := 1) C dX6_at_206 rfl rfl ?_
        refine g_if_ne C dX6_at_207 (tgt := 215) (by decide) (fun hc_1050 => ?_) (fun hc_1050 => ?_)
        · replace h := (if_neg hc_1050).symm.trans h
          refine g_iload_n (j := 1) C dX6_at_215 rfl rfl ?_
          refine g_iconst (v := 1) C dX6_at_216 (by decide) ?_
          refine g_icmp_ne C dX6_at_217 (tgt := 225) (by decide) (fun hc_1051 => ?_) (fun hc_1051 => ?_)
          · replace h := (if_neg hc_1051).symm.trans h
            refine g_iload_n (j := 1) C dX6_at_225 rfl rfl ?_
            refine g_iconst (v := 2) C dX6_at_226 (by decide) ?_
            refine g_icmp_ne C dX6_at_227 (tgt := 235) (by decide) (fun hc_1052 => ?_) (fun hc_1052 => ?_)
            · replace h := (if_neg hc_1052).symm.trans h
              refine g_iload (j := 5) C dX6_at_235 rfl ?_
              obtain ⟨q_1053, e_1054, h⟩ := zlet_ex h
              refine g_vi (ws' := (zW cy ad shM E q_1053.2)) (As := [.int v7_1049]) (rest := []) (res := q_1053.1) C ((by rw [e_1054]; exact c_X6_done l D cy ad E X v7_1049)) gX6_at_X6_done rfl hd_X6_done (zW_get X sM_0) rfl rfl rfl ⟨Nat.le_of_ble_eq_true rfl, Nat.le_of_ble_eq_true rfl⟩ rfl rfl (Nat.le_of_ble_eq_true rfl) ⟨Nat.zero_le _, Nat.zero_le _⟩ dX6_at_237 ?_
              obtain rfl := Option.some.inj h
              exact g_iret rfl C hr rfl dX6_at_240
            · replace h := (if_pos hc_1052).symm.trans h
              refine g_iload (j := 4) C dX6_at_230 rfl ?_
              refine g_goto C dX6_at_232 (tgt := 237) (by decide) ?_
              obtain ⟨q_1055, e_1056, h⟩ := zlet_ex h
              refine g_vi (ws' := (zW cy ad shM E q_1055.2)) (As := [.int v6_1048]) (rest := []) (res := q_1055.1) C ((by rw [e_1056]; exact c_X6_done l D cy ad E X v6_1048)) gX6_at_X6_done rfl hd_X6_done (zW_get X sM_0) rfl rfl rfl ⟨Nat.le_of_ble_eq_true rfl, Nat.le_of_ble_eq_true rfl⟩ rfl rfl (Nat.le_of_ble_eq_true rfl) ⟨Nat.zero_le _, Nat.zero_le _⟩ dX6_at_237 ?_
              obtain rfl := Option.some.inj h
              exact g_iret rfl C hr rfl dX6_at_240
          · replace h := (if_pos hc_1051).symm.trans h
            refine g_iload (j := 3) C dX6_at_220 rfl ?_
            refine g_goto C dX6_at_222 (tgt := 237) (by decide) ?_
            obtain ⟨q_1057, e_1058, h⟩ := zlet_ex h
            refine g_vi (ws' := (zW cy ad shM E q_1057.2)) (As := [.int v5_1047]) (rest := []) (res := q_1057.1) C ((by rw [e_1058]; exact c_X6_done l D cy ad E X v5_1047)) gX6_at_X6_done rfl hd_X6_done (zW_get X sM_0) rfl rfl rfl ⟨Nat.le_of_ble_eq_true rfl, Nat.le_of_ble_eq_true rfl⟩ rfl rfl (Nat.le_of_ble_eq_true rfl) ⟨Nat.zero_le _, Nat.zero_le _⟩ dX6_at_237 ?_
            obtain rfl := Option.some.inj h
            exact g_iret rfl C hr rfl dX6_at_240
        · replace h := (if_pos hc_1050).symm.trans h
          refine g_iload (j := 2) C dX6_at_210 rfl ?_
          refine g_goto C dX6_at_212 (tgt := 237) (by decide) ?_
          obtain ⟨q_1059, e_1060, h⟩ := zlet_ex h
          refine g_vi (ws' := (zW cy ad shM E q_1059.2)) (As := [.int v4_1046]) (rest := []) (res := q_1059.1) C ((by rw [e_1060]; exact c_X6_done l D cy ad E X v4_1046)) gX6_at_X6_done rfl hd_X6_done (zW_get X sM_0) rfl rfl rfl ⟨Nat.le_of_ble_eq_true rfl, Nat.le_of_ble_eq_true rfl⟩ rfl rfl (Nat.le_of_ble_eq_true rfl) ⟨Nat.zero_le _, Nat.zero_le _⟩ dX6_at_237 ?_
          obtain rfl := Option.some.inj h
          exact g_iret rfl C hr rfl dX6_at_240
      · replace h := (if_pos hc_7).symm.trans h
        refine g_aload_n (j := 0) C dX6_at_27 rfl rfl ?_
        refine g_iconst (v := 1) C dX6_at_28 (by decide) ?_
        obtain ⟨q_1061, e_1062, h⟩ := zlet_ex h
        refine g_vi (ws' := (zW cy ad shM E q_1061.2)) (As := [.int (1 : Int32)]) (rest := []) (res := q_1061.1) C ((by rw [e_1062]; exact c_X6_fails l D cy ad E X (1 : Int32))) gX6_at_X6_fails rfl hd_X6_fails (zW_get X sM_0) rfl rfl rfl ⟨Nat.le_of_ble_eq_true rfl, Nat.le_of_ble_eq_true rfl⟩ rfl rfl (Nat.le_of_ble_eq_true rfl) ⟨Nat.zero_le _, Nat.zero_le _⟩ dX6_at_29 ?_
        obtain rfl := Option.some.inj h
        exact g_iret rfl C hr rfl dX6_at_32
theorem in_X6_refusal_RX6 : ∀ w ∈ u_ws RX6 TX6 27, w ∈ wsX6_refusal := by decide +kernel
theorem fl_X6_refusal_39 : (Cond.fieldLink RX6 39 RX6 (TX6 8).2.1 (TX6 8).2.2.1) ∈ wsX6_refusal := by decide +kernel
theorem fl_X6_refusal_42 : (Cond.fieldLink RX6 42 RX6 (TX6 9).2.1 (TX6 9).2.2.1) ∈ wsX6_refusal := by decide +kernel
theorem hd_X6_refusal : yX6_refusal.cls = RX6 ∧ yX6_refusal.cls ≠ "java/lang/invoke/MethodHandle" ∧ yX6_refusal.cls ≠ "java/lang/invoke/VarHandle" ∧ (parseMethodDescriptor yX6_refusal.desc).map (fun d => d.parameters.length) = some 1 := by decide +kernel
def f_X6_refusal (X : Nat → Nat → Int32) (v1 : Int32) : Int32 × (Nat → Nat → Int32) := (if (X 0 8) = 0 then (zlet (f_X6_fails X (1 : Int32)) fun q_7 => (q_7.1, q_7.2)) else (if v1 = 0 then (zlet (f_X6_done X (X 0 8)) fun q_3 => (q_3.1, q_3.2)) else (zlet (f_X6_done X (X 0 9)) fun q_5 => (q_5.1, q_5.2))))
set_option maxRecDepth 100000 in
set_option maxHeartbeats 4000000 in
theorem c_X6_refusal (l : Launch) (D : va_G) (cy : Nat → ClassId) (ad : Nat → Nat) (E : va_W) (X : Nat → Nat → Int32) (v1 : Int32) : zMi l yX6_refusal wsX6_refusal (zrm 2) D (zTy cy) (zW cy ad shM E X) [.ref (ad 0), .int v1] ((f_X6_refusal X v1).1) (zW cy ad shM E (f_X6_refusal X v1).2) := by
  refine zMi.of (cc := cX6_refusal) (maxL := 2) (ret := (some .int)) (by decide) rfl (Nat.le_of_ble_eq_true rfl) ?_
  intro p e s m below meth c A C hr
  generalize h : f_X6_refusal X v1 = res
  unfold f_X6_refusal at h
  refine zG_L (L' := [(0, .ref (ad 0)), (1, .int v1)]) rfl ?_
  refine g_aload_n (j := 0) C dX6_refusal_0 rfl rfl ?_
  refine g_geti (k := 8) (N := 27) C sM_0 rfl in_X6_refusal_RX6 (by decide) rfl fl_X6_refusal_39 rfl dX6_refusal_1 ?_
  refine g_if_ne C dX6_refusal_4 (tgt := 15) (by decide) (fun hc_1 => ?_) (fun hc_1 => ?_)
  · replace h := (if_neg hc_1).symm.trans h
    refine g_aload_n (j := 0) C dX6_refusal_15 rfl rfl ?_
    refine g_iload_n (j := 1) C dX6_refusal_16 rfl rfl ?_
    refine g_if_eq C dX6_refusal_17 (tgt := 27) (by decide) (fun hc_2 => ?_) (fun hc_2 => ?_)
    · replace h := (if_pos hc_2).symm.trans h
      refine g_aload_n (j := 0) C dX6_refusal_27 rfl rfl ?_
      refine g_geti (k := 8) (N := 27) C sM_0 rfl in_X6_refusal_RX6 (by decide) rfl fl_X6_refusal_39 rfl dX6_refusal_28 ?_
      obtain ⟨q_3, e_4, h⟩ := zlet_ex h
      refine g_vi (ws' := (zW cy ad shM E q_3.2)) (As := [.int (X 0 8)]) (rest := []) (res := q_3.1) C ((by rw [e_4]; exact c_X6_done l D cy ad E X (X 0 8))) gX6_refusal_X6_done rfl hd_X6_done (zW_get X sM_0) rfl rfl rfl ⟨Nat.le_of_ble_eq_true rfl, Nat.le_of_ble_eq_true rfl⟩ rfl rfl (Nat.le_of_ble_eq_true rfl) ⟨Nat.zero_le _, Nat.zero_le _⟩ dX6_refusal_31 ?_
      subst h
      exact g_iret rfl C hr rfl dX6_refusal_34
    · replace h := (if_neg hc_2).symm.trans h
      refine g_aload_n (j := 0) C dX6_refusal_20 rfl rfl ?_
      refine g_geti (k := 9) (N := 27) C sM_0 rfl in_X6_refusal_RX6 (by decide) rfl fl_X6_refusal_42 rfl dX6_refusal_21 ?_
      refine g_goto C dX6_refusal_24 (tgt := 31) (by decide) ?_
      obtain ⟨q_5, e_6, h⟩ := zlet_ex h
      refine g_vi (ws' := (zW cy ad shM E q_5.2)) (As := [.int (X 0 9)]) (rest := []) (res := q_5.1) C ((by rw [e_6]; exact c_X6_done l D cy ad E X (X 0 9))) gX6_refusal_X6_done rfl hd_X6_done (zW_get X sM_0) rfl rfl rfl ⟨Nat.le_of_ble_eq_true rfl, Nat.le_of_ble_eq_true rfl⟩ rfl rfl (Nat.le_of_ble_eq_true rfl) ⟨Nat.zero_le _, Nat.zero_le _⟩ dX6_refusal_31 ?_
      subst h
      exact g_iret rfl C hr rfl dX6_refusal_34
  · replace h := (if_pos hc_1).symm.trans h
    refine g_aload_n (j := 0) C dX6_refusal_7 rfl rfl ?_
    refine g_iconst (v := 1) C dX6_refusal_8 (by decide) ?_
    obtain ⟨q_7, e_8, h⟩ := zlet_ex h
    refine g_vi (ws' := (zW cy ad shM E q_7.2)) (As := [.int (1 : Int32)]) (rest := []) (res := q_7.1) C ((by rw [e_8]; exact c_X6_fails l D cy ad E X (1 : Int32))) gX6_refusal_X6_fails rfl hd_X6_fails (zW_get X sM_0) rfl rfl rfl ⟨Nat.le_of_ble_eq_true rfl, Nat.le_of_ble_eq_true rfl⟩ rfl rfl (Nat.le_of_ble_eq_true rfl) ⟨Nat.zero_le _, Nat.zero_le _⟩ dX6_refusal_9 ?_
    refine g_goto C dX6_refusal_12 (tgt := 34) (by decide) ?_
    subst h
    exact g_iret rfl C hr rfl dX6_refusal_34
theorem in_X6_advance_RX6 : ∀ w ∈ u_ws RX6 TX6 27, w ∈ wsX6_advance := by decide +kernel
theorem fl_X6_advance_9 : (Cond.fieldLink RX6 9 RX6 (TX6 1).2.1 (TX6 1).2.2.1) ∈ wsX6_advance := by decide +kernel
theorem hd_X6_advance : yX6_advance.cls = RX6 ∧ yX6_advance.cls ≠ "java/lang/invoke/MethodHandle" ∧ yX6_advance.cls ≠ "java/lang/invoke/VarHandle" ∧ (parseMethodDescriptor yX6_advance.desc).map (fun d => d.parameters.length) = some 1 := by decide +kernel
def f_X6_advance (X : Nat → Nat → Int32) (v1 : Int32) : Option (Int32 × (Nat → Nat → Int32)) := (if (f_X6_in v1 (1 : Int32) (30 : Int32)) = 0 then (zlet (f_X6_fails X (1 : Int32)) fun q_2 => some (q_2.1, q_2.2)) else (if ((X 1 (0 : Int32).toNatClampNeg) + v1) < (60 : Int32) then ((f_X6_remembers X).bind fun q_5 => (zlet (zU q_5 1 (0 : Int32).toNatClampNeg ((q_5 1 (0 : Int32).toNatClampNeg) + v1)) fun X_7 => (zlet (f_X6_done X_7 (X_7 1 (0 : Int32).toNatClampNeg)) fun q_9 => some (q_9.1, q_9.2)))) else (zlet (f_X6_fails X (1 : Int32)) fun q_11 => some (q_11.1, q_11.2))))
set_option maxRecDepth 100000 in
set_option maxHeartbeats 4000000 in
theorem c_X6_advance (l : Launch) (D : va_G) (cy : Nat → ClassId) (ad : Nat → Nat) (E : va_W) (X : Nat → Nat → Int32) (v1 : Int32) {res : Int32 × (Nat → Nat → Int32)} (h : f_X6_advance X v1 = some res) : zMi l yX6_advance wsX6_advance (zrm 4) D (zTy cy) (zW cy ad shM E X) [.ref (ad 0), .int v1] res.1 (zW cy ad shM E res.2) := by
  refine zMi.of (cc := cX6_advance) (maxL := 2) (ret := (some .int)) (by decide) rfl (Nat.le_of_ble_eq_true rfl) ?_
  intro p e s m below meth c A C hr
  unfold f_X6_advance at h
  refine zG_L (L' := [(0, .ref (ad 0)), (1, .int v1)]) rfl ?_
  refine g_iload_n (j := 1) C dX6_advance_0 rfl rfl ?_
  refine g_iconst (v := 1) C dX6_advance_1 (by decide) ?_
  refine g_bipush (v := 30) C dX6_advance_2 (by decide) ?_
  refine g_si (ws' := (zW cy ad shM E X)) (As := [.int v1, .int (1 : Int32), .int (30 : Int32)]) (rest := []) (res := (f_X6_in v1 (1 : Int32) (30 : Int32))) C (c_X6_in l D cy (zW cy ad shM E X) v1 (1 : Int32) (30 : Int32)) gX6_advance_X6_in rfl hd_X6_in rfl rfl ⟨Nat.le_of_ble_eq_true rfl, Nat.le_of_ble_eq_true rfl⟩ rfl rfl (Nat.le_of_ble_eq_true rfl) ⟨Nat.zero_le _, Nat.zero_le _⟩ dX6_advance_4 ?_
  refine g_if_eq C dX6_advance_7 (tgt := 23) (by decide) (fun hc_1 => ?_) (fun hc_1 => ?_)
  · replace h := (if_pos hc_1).symm.trans h
    refine g_aload_n (j := 0) C dX6_advance_23 rfl rfl ?_
    refine g_iconst (v := 1) C dX6_advance_24 (by decide) ?_
    obtain ⟨q_2, e_3, h⟩ := zlet_ex h
    refine g_vi (ws' := (zW cy ad shM E q_2.2)) (As := [.int (1 : Int32)]) (rest := []) (res := q_2.1) C ((by rw [e_3]; exact c_X6_fails l D cy ad E X (1 : Int32))) gX6_advance_X6_fails rfl hd_X6_fails (zW_get X sM_0) rfl rfl rfl ⟨Nat.le_of_ble_eq_true rfl, Nat.le_of_ble_eq_true rfl⟩ rfl rfl (Nat.le_of_ble_eq_true rfl) ⟨Nat.zero_le _, Nat.zero_le _⟩ dX6_advance_25 ?_
    obtain rfl := Option.some.inj h
    exact g_iret rfl C hr rfl dX6_advance_28
  · replace h := (if_neg hc_1).symm.trans h
    refine g_aload_n (j := 0) C dX6_advance_10 rfl rfl ?_
    refine g_getr (k := 1) (N := 27) C sM_0 rfl in_X6_advance_RX6 (by decide) rfl fl_X6_advance_9 rfl dX6_advance_11 ?_
    refine g_iconst (v := 0) C dX6_advance_14 (by decide) ?_
    refine g_iald C sM_1 (by decide) dX6_advance_15 ?_
    refine g_iload_n (j := 1) C dX6_advance_16 rfl rfl ?_
    refine g_iadd C dX6_advance_17 ?_
    refine g_bipush (v := 60) C dX6_advance_18 (by decide) ?_
    refine g_icmp_lt C dX6_advance_20 (tgt := 29) (by decide) (fun hc_4 => ?_) (fun hc_4 => ?_)
    · replace h := (if_pos hc_4).symm.trans h
      refine g_aload_n (j := 0) C dX6_advance_29 rfl rfl ?_
      obtain ⟨q_5, hq_6, h⟩ := bind_isome h
      refine g_vv (ws' := (zW cy ad shM E q_5)) (As := []) (rest := []) C (c_X6_remembers l D cy ad E X hq_6) gX6_advance_X6_remembers rfl hd_X6_remembers (zW_get X sM_0) rfl rfl rfl ⟨Nat.le_of_ble_eq_true rfl, Nat.le_of_ble_eq_true rfl⟩ rfl rfl (Nat.le_of_ble_eq_true rfl) ⟨Nat.zero_le _, Nat.zero_le _⟩ dX6_advance_30 ?_
      refine g_aload_n (j := 0) C dX6_advance_33 rfl rfl ?_
      refine g_getr (k := 1) (N := 27) C sM_0 rfl in_X6_advance_RX6 (by decide) rfl fl_X6_advance_9 rfl dX6_advance_34 ?_
      refine g_iconst (v := 0) C dX6_advance_37 (by decide) ?_
      refine g_dup2 C dX6_advance_38 rfl rfl ?_
      refine g_iald C sM_1 (by decide) dX6_advance_39 ?_
      refine g_iload_n (j := 1) C dX6_advance_40 rfl rfl ?_
      refine g_iadd C dX6_advance_41 ?_
      refine g_iast C sM_1 (by decide) dX6_advance_42 ?_
      obtain ⟨X_7, e_8, h⟩ := zlet_ex h
      rw [← e_8]
      refine g_aload_n (j := 0) C dX6_advance_43 rfl rfl ?_
      refine g_aload_n (j := 0) C dX6_advance_44 rfl rfl ?_
      refine g_getr (k := 1) (N := 27) C sM_0 rfl in_X6_advance_RX6 (by decide) rfl fl_X6_advance_9 rfl dX6_advance_45 ?_
      refine g_iconst (v := 0) C dX6_advance_48 (by decide) ?_
      refine g_iald C sM_1 (by decide) dX6_advance_49 ?_
      obtain ⟨q_9, e_10, h⟩ := zlet_ex h
      refine g_vi (ws' := (zW cy ad shM E q_9.2)) (As := [.int (X_7 1 (0 : Int32).toNatClampNeg)]) (rest := []) (res := q_9.1) C ((by rw [e_10]; exact c_X6_done l D cy ad E X_7 (X_7 1 (0 : Int32).toNatClampNeg))) gX6_advance_X6_done rfl hd_X6_done (zW_get X_7 sM_0) rfl rfl rfl ⟨Nat.le_of_ble_eq_true rfl, Nat.le_of_ble_eq_true rfl⟩ rfl rfl (Nat.le_of_ble_eq_true rfl) ⟨Nat.zero_le _, Nat.zero_le _⟩ dX6_advance_50 ?_
      obtain rfl := Option.some.inj h
      exact g_iret rfl C hr rfl dX6_advance_53
    · replace h := (if_neg hc_4).symm.trans h
      refine g_aload_n (j := 0) C dX6_advance_23 rfl rfl ?_
      refine g_iconst (v := 1) C dX6_advance_24 (by decide) ?_
      obtain ⟨q_11, e_12, h⟩ := zlet_ex h
      refine g_vi (ws' := (zW cy ad shM E q_11.2)) (As := [.int (1 : Int32)]) (rest := []) (res := q_11.1) C ((by rw [e_12]; exact c_X6_fails l D cy ad E X (1 : Int32))) gX6_advance_X6_fails rfl hd_X6_fails (zW_get X sM_0) rfl rfl rfl ⟨Nat.le_of_ble_eq_true rfl, Nat.le_of_ble_eq_true rfl⟩ rfl rfl (Nat.le_of_ble_eq_true rfl) ⟨Nat.zero_le _, Nat.zero_le _⟩ dX6_advance_25 ?_
      obtain rfl := Option.some.inj h
      exact g_iret rfl C hr rfl dX6_advance_28
theorem in_X6_sumOf_RX6 : ∀ w ∈ u_ws RX6 TX6 27, w ∈ wsX6_sumOf := by decide +kernel
theorem fl_X6_sumOf_9 : (Cond.fieldLink RX6 9 RX6 (TX6 1).2.1 (TX6 1).2.2.1) ∈ wsX6_sumOf := by decide +kernel
theorem hd_X6_sumOf : yX6_sumOf.cls = RX6 ∧ yX6_sumOf.cls ≠ "java/lang/invoke/MethodHandle" ∧ yX6_sumOf.cls ≠ "java/lang/invoke/VarHandle" ∧ (parseMethodDescriptor yX6_sumOf.desc).map (fun d => d.parameters.length) = some 1 := by decide +kernel
def f_X6_sumOf_L4 (X : Nat → Nat → Int32) (v1 : Int32) : Nat → Int32 → Int32 → Option Int32
  | 0, _, _ => none
  | fu + 1, v2, v3 => (if (X 1 (4 : Int32).toNatClampNeg) ≤ v3 then some v2 else (if v1 = (4 : Int32) then ((f_X6_stands X v3).bind fun q_1017 => (if q_1017 = 0 then f_X6_sumOf_L4 X v1 fu (v2 + (1 : Int32)) (v3 + 1) else f_X6_sumOf_L4 X v1 fu (v2 + (0 : Int32)) (v3 + 1))) else ((f_X6_stands X v3).bind fun q_1003 => (if q_1003 = 0 then f_X6_sumOf_L4 X v1 fu v2 (v3 + 1) else (if v1 = (5 : Int32) then ((f_X6_showAt X v3 (7 : Int32)).bind fun q_1015 => f_X6_sumOf_L4 X v1 fu (v2 + q_1015) (v3 + 1)) else (if v1 = (6 : Int32) then ((f_X6_receiptsOf X v3).bind fun q_1013 => f_X6_sumOf_L4 X v1 fu (v2 + q_1013) (v3 + 1)) else (if v1 = (7 : Int32) then ((f_X6_partOf X v3).bind fun q_1011 => f_X6_sumOf_L4 X v1 fu (v2 + q_1011) (v3 + 1)) else ((f_X6_minutesOf X v3).bind fun q_1009 => f_X6_sumOf_L4 X v1 fu (v2 + q_1009) (v3 + 1)))))))))
set_option maxRecDepth 100000 in
set_option maxHeartbeats 4000000 in
theorem w_X6_sumOf_L4 {p : Program} {e : Env} {s : State} {m : MethodId} {args : Array Value} {below : List Frame} {meth : Method} {c : Code} {A : Nat → Prop} (l : Launch) (D : va_G) (cy : Nat → ClassId) (ad : Nat → Nat) (E : va_W) (X : Nat → Nat → Int32) (v1 : Int32) {res : Int32} (C : zC p s m args meth c cX6_sumOf 4 RX6 wsX6_sumOf D (zTy cy) A) (hr : meth.sig.returnType = (some .int)) : ∀ (fu : Nat) (v2 v3 : Int32) (h : f_X6_sumOf_L4 X v1 fu v2 v3 = some res), zG p l e (headSpec wsX6_sumOf (zrm 4)).room s m args below meth c 4 D A 0 0 (MQ below (va_Qi (fun (r : Int32) (_ : Unit) => r = res) (fun _ t => zB D (zTy cy) A (zW cy ad shM E X) t) A) args s 0 0 A) (zW cy ad shM E X) 4 [(0, .ref (ad 0)), (1, .int v1), (2, .int v2), (3, .int v3)] [] := by
  intro fu
  induction fu with
  | zero => intro v2 v3 h; simp [f_X6_sumOf_L4] at h
  | succ fu ih =>
    intro v2 v3 h
    rw [f_X6_sumOf_L4] at h
    refine g_iload_n (j := 3) C dX6_sumOf_4 rfl rfl ?_
    refine g_aload_n (j := 0) C dX6_sumOf_5 rfl rfl ?_
    refine g_getr (k := 1) (N := 27) C sM_0 rfl in_X6_sumOf_RX6 (by decide) rfl fl_X6_sumOf_9 rfl dX6_sumOf_6 ?_
    refine g_iconst (v := 4) C dX6_sumOf_9 (by decide) ?_
    refine g_iald C sM_1 (by decide) dX6_sumOf_10 ?_
    refine g_icmp_ge C dX6_sumOf_11 (tgt := 103) (by decide) (fun hc_1001 => ?_) (fun hc_1001 => ?_)
    · replace h := (if_pos hc_1001).symm.trans h
      refine g_iload_n (j := 2) C dX6_sumOf_103 rfl rfl ?_
      obtain rfl := Option.some.inj h
      exact g_iret rfl C hr rfl dX6_sumOf_104
    · replace h := (if_neg hc_1001).symm.trans h
      refine g_iload_n (j := 1) C dX6_sumOf_14 rfl rfl ?_
      refine g_iconst (v := 4) C dX6_sumOf_15 (by decide) ?_
      refine g_icmp_ne C dX6_sumOf_16 (tgt := 38) (by decide) (fun hc_1002 => ?_) (fun hc_1002 => ?_)
      · replace h := (if_neg hc_1002).symm.trans h
        refine g_aload_n (j := 0) C dX6_sumOf_38 rfl rfl ?_
        refine g_iload_n (j := 3) C dX6_sumOf_39 rfl rfl ?_
        obtain ⟨q_1003, hq_1004, h⟩ := bind_isome h
        refine g_vi (ws' := (zW cy ad shM E X)) (As := [.int v3]) (rest := []) (res := q_1003) C (c_X6_stands l D cy ad E X v3 hq_1004) gX6_sumOf_X6_stands rfl hd_X6_stands (zW_get X sM_0) rfl rfl rfl ⟨Nat.le_of_ble_eq_true rfl, Nat.le_of_ble_eq_true rfl⟩ rfl rfl (Nat.le_of_ble_eq_true rfl) ⟨Nat.zero_le _, Nat.zero_le _⟩ dX6_sumOf_40 ?_
        refine g_if_eq C dX6_sumOf_43 (tgt := 97) (by decide) (fun hc_1005 => ?_) (fun hc_1005 => ?_)
        · replace h := (if_pos hc_1005).symm.trans h
          refine g_iinc (k := 3) (L' := [(3, .int (v3 + 1)), (0, .ref (ad 0)), (1, .int v1), (2, .int v2)]) C dX6_sumOf_97 rfl (z_iinc (by decide)) (by decide) rfl ?_
          refine g_goto C dX6_sumOf_100 (tgt := 4) (by decide) ?_
          refine zG_sub (L' := [(0, .ref (ad 0)), (1, .int v1), (2, .int v2), (3, .int (v3 + 1))]) [1, 2, 3, 0] rfl ?_
          exact ih v2 (v3 + 1) h
        · replace h := (if_neg hc_1005).symm.trans h
          refine g_iload_n (j := 2) C dX6_sumOf_46 rfl rfl ?_
          refine g_iload_n (j := 1) C dX6_sumOf_47 rfl rfl ?_
          refine g_iconst (v := 5) C dX6_sumOf_48 (by decide) ?_
          refine g_icmp_ne C dX6_sumOf_49 (tgt := 62) (by decide) (fun hc_1006 => ?_) (fun hc_1006 => ?_)
          · replace h := (if_neg hc_1006).symm.trans h
            refine g_iload_n (j := 1) C dX6_sumOf_62 rfl rfl ?_
            refine g_bipush (v := 6) C dX6_sumOf_63 (by decide) ?_
            refine g_icmp_ne C dX6_sumOf_65 (tgt := 76) (by decide) (fun hc_1007 => ?_) (fun hc_1007 => ?_)
            · replace h := (if_neg hc_1007).symm.trans h
              refine g_iload_n (j := 1) C dX6_sumOf_76 rfl rfl ?_
              refine g_bipush (v := 7) C dX6_sumOf_77 (by decide) ?_
              refine g_icmp_ne C dX6_sumOf_79 (tgt := 90) (by decide) (fun hc_1008 => ?_) (fun hc_1008 => ?_)
              · replace h := (if_neg hc_1008).symm.trans h
                refine g_aload_n (j := 0) C dX6_sumOf_90 rfl rfl ?_
                refine g_iload_n (j := 3) C dX6_sumOf_91 rfl rfl ?_
                obtain ⟨q_1009, hq_1010, h⟩ := bind_isome h
                refine g_vi (ws' := (zW cy ad shM E X)) (As := [.int v3]) (rest := [.int v2]) (res := q_1009) C (c_X6_minutesOf l D cy ad E X v3 hq_1010) gX6_sumOf_X6_minutesOf rfl hd_X6_minutesOf (zW_get X sM_0) rfl rfl rfl ⟨Nat.le_of_ble_eq_true rfl, Nat.le_of_ble_eq_true rfl⟩ rfl rfl (Nat.le_of_ble_eq_true rfl) ⟨Nat.zero_le _, Nat.zero_le _⟩ dX6_sumOf_92 ?_
                refine g_iadd C dX6_sumOf_95 ?_
                refine g_istore_n (L' := [(2, .int (v2 + q_1009)), (0, .ref (ad 0)), (1, .int v1), (3, .int v3)]) C dX6_sumOf_96 rfl (by decide) rfl ?_
                refine g_iinc (k := 3) (L' := [(3, .int (v3 + 1)), (2, .int (v2 + q_1009)), (0, .ref (ad 0)), (1, .int v1)]) C dX6_sumOf_97 rfl (z_iinc (by decide)) (by decide) rfl ?_
                refine g_goto C dX6_sumOf_100 (tgt := 4) (by decide) ?_
                refine zG_sub (L' := [(0, .ref (ad 0)), (1, .int v1), (2, .int (v2 + q_1009)), (3, .int (v3 + 1))]) [2, 3, 1, 0] rfl ?_
                exact ih (v2 + q_1009) (v3 + 1) h
              · replace h := (if_pos hc_1008).symm.trans h
                refine g_aload_n (j := 0) C dX6_sumOf_82 rfl rfl ?_
                refine g_iload_n (j := 3) C dX6_sumOf_83 rfl rfl ?_
                obtain ⟨q_1011, hq_1012, h⟩ := bind_isome h
                refine g_vi (ws' := (zW cy ad shM E X)) (As := [.int v3]) (rest := [.int v2]) (res := q_1011) C (c_X6_partOf l D cy ad E X v3 hq_1012) gX6_sumOf_X6_partOf rfl hd_X6_partOf (zW_get X sM_0) rfl rfl rfl ⟨Nat.le_of_ble_eq_true rfl, Nat.le_of_ble_eq_true rfl⟩ rfl rfl (Nat.le_of_ble_eq_true rfl) ⟨Nat.zero_le _, Nat.zero_le _⟩ dX6_sumOf_84 ?_
                refine g_goto C dX6_sumOf_87 (tgt := 95) (by decide) ?_
                refine g_iadd C dX6_sumOf_95 ?_
                refine g_istore_n (L' := [(2, .int (v2 + q_1011)), (0, .ref (ad 0)), (1, .int v1), (3, .int v3)]) C dX6_sumOf_96 rfl (by decide) rfl ?_
                refine g_iinc (k := 3) (L' := [(3, .int (v3 + 1)), (2, .int (v2 + q_1011)), (0, .ref (ad 0)), (1, .int v1)]) C dX6_sumOf_97 rfl (z_iinc (by decide)) (by decide) rfl ?_
                refine g_goto C dX6_sumOf_100 (tgt := 4) (by decide) ?_
                refine zG_sub (L' := [(0, .ref (ad 0)), (1, .int v1), (2, .int (v2 + q_1011)), (3, .int (v3 + 1))]) [2, 3, 1, 0] rfl ?_
                exact ih (v2 + q_1011) (v3 + 1) h
            · replace h := (if_pos hc_1007).symm.trans h
              refine g_aload_n (j := 0) C dX6_sumOf_68 rfl rfl ?_
              refine g_iload_n (j := 3) C dX6_sumOf_69 rfl rfl ?_
              obtain ⟨q_1013, hq_1014, h⟩ := bind_isome h
              refine g_vi (ws' := (zW cy ad shM E X)) (As := [.int v3]) (rest := [.int v2]) (res := q_1013) C (c_X6_receiptsOf l D cy ad E X v3 hq_1014) gX6_sumOf_X6_receiptsOf rfl hd_X6_receiptsOf (zW_get X sM_0) rfl rfl rfl ⟨Nat.le_of_ble_eq_true rfl, Nat.le_of_ble_eq_true rfl⟩ rfl rfl (Nat.le_of_ble_eq_true rfl) ⟨Nat.zero_le _, Nat.zero_le _⟩ dX6_sumOf_70 ?_
              refine g_goto C dX6_sumOf_73 (tgt := 95) (by decide) ?_
              refine g_iadd C dX6_sumOf_95 ?_
              refine g_istore_n (L' := [(2, .int (v2 + q_1013)), (0, .ref (ad 0)), (1, .int v1), (3, .int v3)]) C dX6_sumOf_96 rfl (by decide) rfl ?_
              refine g_iinc (k := 3) (L' := [(3, .int (v3 + 1)), (2, .int (v2 + q_1013)), (0, .ref (ad 0)), (1, .int v1)]) C dX6_sumOf_97 rfl (z_iinc (by decide)) (by decide) rfl ?_
              refine g_goto C dX6_sumOf_100 (tgt := 4) (by decide) ?_
              refine zG_sub (L' := [(0, .ref (ad 0)), (1, .int v1), (2, .int (v2 + q_1013)), (3, .int (v3 + 1))]) [2, 3, 1, 0] rfl ?_
              exact ih (v2 + q_1013) (v3 + 1) h
          · replace h := (if_pos hc_1006).symm.trans h
            refine g_aload_n (j := 0) C dX6_sumOf_52 rfl rfl ?_
            refine g_iload_n (j := 3) C dX6_sumOf_53 rfl rfl ?_
            refine g_bipush (v := 7) C dX6_sumOf_54 (by decide) ?_
            obtain ⟨q_1015, hq_1016, h⟩ := bind_isome h
            refine g_vi (ws' := (zW cy ad shM E X)) (As := [.int v3, .int (7 : Int32)]) (rest := [.int v2]) (res := q_1015) C (c_X6_showAt l D cy ad E X v3 (7 : Int32) hq_1016) gX6_sumOf_X6_showAt rfl hd_X6_showAt (zW_get X sM_0) rfl rfl rfl ⟨Nat.le_of_ble_eq_true rfl, Nat.le_of_ble_eq_true rfl⟩ rfl rfl (Nat.le_of_ble_eq_true rfl) ⟨Nat.zero_le _, Nat.zero_le _⟩ dX6_sumOf_56 ?_
            refine g_goto C dX6_sumOf_59 (tgt := 95) (by decide) ?_
            refine g_iadd C dX6_sumOf_95 ?_
            refine g_istore_n (L' := [(2, .int (v2 + q_1015)), (0, .ref (ad 0)), (1, .int v1), (3, .int v3)]) C dX6_sumOf_96 rfl (by decide) rfl ?_
            refine g_iinc (k := 3) (L' := [(3, .int (v3 + 1)), (2, .int (v2 + q_1015)), (0, .ref (ad 0)), (1, .int v1)]) C dX6_sumOf_97 rfl (z_iinc (by decide)) (by decide) rfl ?_
            refine g_goto C dX6_sumOf_100 (tgt := 4) (by decide) ?_
            refine zG_sub (L' := [(0, .ref (ad 0)), (1, .int v1), (2, .int (v2 + q_1015)), (3, .int (v3 + 1))]) [2, 3, 1, 0] rfl ?_
            exact ih (v2 + q_1015) (v3 + 1) h
      · replace h := (if_pos hc_1002).symm.trans h
        refine g_iload_n (j := 2) C dX6_sumOf_19 rfl rfl ?_
        refine g_aload_n (j := 0) C dX6_sumOf_20 rfl rfl ?_
        refine g_iload_n (j := 3) C dX6_sumOf_21 rfl rfl ?_
        obtain ⟨q_1017, hq_1018, h⟩ := bind_isome h
        refine g_vi (ws' := (zW cy ad shM E X)) (As := [.int v3]) (rest := [.int v2]) (res := q_1017) C (c_X6_stands l D cy ad E X v3 hq_1018) gX6_sumOf_X6_stands rfl hd_X6_stands (zW_get X sM_0) rfl rfl rfl ⟨Nat.le_of_ble_eq_true rfl, Nat.le_of_ble_eq_true rfl⟩ rfl rfl (Nat.le_of_ble_eq_true rfl) ⟨Nat.zero_le _, Nat.zero_le _⟩ dX6_sumOf_22 ?_
        refine g_if_eq C dX6_sumOf_25 (tgt := 32) (by decide) (fun hc_1019 => ?_) (fun hc_1019 => ?_)
        · replace h := (if_pos hc_1019).symm.trans h
          refine g_iconst (v := 1) C dX6_sumOf_32 (by decide) ?_
          refine g_iadd C dX6_sumOf_33 ?_
          refine g_istore_n (L' := [(2, .int (v2 + (1 : Int32))), (0, .ref (ad 0)), (1, .int v1), (3, .int v3)]) C dX6_sumOf_34 rfl (by decide) rfl ?_
          refine g_goto C dX6_sumOf_35 (tgt := 97) (by decide) ?_
          refine g_iinc (k := 3) (L' := [(3, .int (v3 + 1)), (2, .int (v2 + (1 : Int32))), (0, .ref (ad 0)), (1, .int v1)]) C dX6_sumOf_97 rfl (z_iinc (by decide)) (by decide) rfl ?_
          refine g_goto C dX6_sumOf_100 (tgt := 4) (by decide) ?_
          refine zG_sub (L' := [(0, .ref (ad 0)), (1, .int v1), (2, .int (v2 + (1 : Int32))), (3, .int (v3 + 1))]) [2, 3, 1, 0] rfl ?_
          exact ih (v2 + (1 : Int32)) (v3 + 1) h
        · replace h := (if_neg hc_1019).symm.trans h
          refine g_iconst (v := 0) C dX6_sumOf_28 (by decide) ?_
          refine g_goto C dX6_sumOf_29 (tgt := 33) (by decide) ?_
          refine g_iadd C dX6_sumOf_33 ?_
          refine g_istore_n (L' := [(2, .int (v2 + (0 : Int32))), (0, .ref (ad 0)), (1, .int v1), (3, .int v3)]) C dX6_sumOf_34 rfl (by decide) rfl ?_
          refine g_goto C dX6_sumOf_35 (tgt := 97) (by decide) ?_
          refine g_iinc (k := 3) (L' := [(3, .int (v3 + 1)), (2, .int (v2 + (0 : Int32))), (0, .ref (ad 0)), (1, .int v1)]) C dX6_sumOf_97 rfl (z_iinc (by decide)) (by decide) rfl ?_
          refine g_goto C dX6_sumOf_100 (tgt := 4) (by decide) ?_
          refine zG_sub (L' := [(0, .ref (ad 0)), (1, .int v1), (2, .int (v2 + (0 : Int32))), (3, .int (v3 + 1))]) [2, 3, 1, 0] rfl ?_
          exact ih (v2 + (0 : Int32)) (v3 + 1) h
def f_X6_sumOf (X : Nat → Nat → Int32) (v1 : Int32) : Option Int32 := f_X6_sumOf_L4 X v1 zFuel (0 : Int32) (0 : Int32)
set_option maxRecDepth 100000 in
set_option maxHeartbeats 4000000 in
theorem c_X6_sumOf (l : Launch) (D : va_G) (cy : Nat → ClassId) (ad : Nat → Nat) (E : va_W) (X : Nat → Nat → Int32) (v1 : Int32) {res : Int32} (h : f_X6_sumOf X v1 = some res) : zMi l yX6_sumOf wsX6_sumOf (zrm 4) D (zTy cy) (zW cy ad shM E X) [.ref (ad 0), .int v1] res (zW cy ad shM E X) := by
  refine zMi.of (cc := cX6_sumOf) (maxL := 4) (ret := (some .int)) (by decide) rfl (Nat.le_of_ble_eq_true rfl) ?_
  intro p e s m below meth c A C hr
  unfold f_X6_sumOf at h
  refine zG_L (L' := [(0, .ref (ad 0)), (1, .int v1)]) rfl ?_
  refine g_iconst (v := 0) C dX6_sumOf_0 (by decide) ?_
  refine g_istore_n (L' := [(2, .int (0 : Int32)), (0, .ref (ad 0)), (1, .int v1)]) C dX6_sumOf_1 rfl (by decide) rfl ?_
  refine g_iconst (v := 0) C dX6_sumOf_2 (by decide) ?_
  refine g_istore_n (L' := [(3, .int (0 : Int32)), (2, .int (0 : Int32)), (0, .ref (ad 0)), (1, .int v1)]) C dX6_sumOf_3 rfl (by decide) rfl ?_
  refine zG_sub (L' := [(0, .ref (ad 0)), (1, .int v1), (2, .int (0 : Int32)), (3, .int (0 : Int32))]) [2, 3, 1, 0] rfl ?_
  exact w_X6_sumOf_L4 l D cy ad E X v1 C hr zFuel (0 : Int32) (0 : Int32) h
theorem in_X6_account_RX6 : ∀ w ∈ u_ws RX6 TX6 27, w ∈ wsX6_account := by decide +kernel
theorem fl_X6_account_9 : (Cond.fieldLink RX6 9 RX6 (TX6 1).2.1 (TX6 1).2.2.1) ∈ wsX6_account := by decide +kernel
theorem hd_X6_account : yX6_account.cls = RX6 ∧ yX6_account.cls ≠ "java/lang/invoke/MethodHandle" ∧ yX6_account.cls ≠ "java/lang/invoke/VarHandle" ∧ (parseMethodDescriptor yX6_account.desc).map (fun d => d.parameters.length) = some 1 := by decide +kernel
def f_X6_account (X : Nat → Nat → Int32) (v1 : Int32) : Option (Int32 × (Nat → Nat → Int32)) := (if (f_X6_in v1 (0 : Int32) (11 : Int32)) = 0 then (zlet (f_X6_fails X (1 : Int32)) fun q_23 => some (q_23.1, q_23.2)) else (if (4 : Int32) ≤ v1 then (if v1 = (8 : Int32) then ((f_X6_sumOf X (6 : Int32)).bind fun q_14 => ((f_X6_sumOf X (7 : Int32)).bind fun q_16 => (zlet (f_X6_done X (q_14 - q_16)) fun q_18 => some (q_18.1, q_18.2)))) else (if v1 = (9 : Int32) then (zlet (f_X6_done X (X 1 (5 : Int32).toNatClampNeg)) fun q_12 => some (q_12.1, q_12.2)) else (if v1 = (11 : Int32) then (zlet (f_X6_done X (X 1 (0 : Int32).toNatClampNeg)) fun q_10 => some (q_10.1, q_10.2)) else ((f_X6_sumOf X v1).bind fun q_6 => (zlet (f_X6_done X q_6) fun q_8 => some (q_8.1, q_8.2)))))) else (if ((1 : Int32) + v1) < 0 ∨ 580 ≤ ((1 : Int32) + v1).toNatClampNeg then none else (zlet (f_X6_done X (X 1 ((1 : Int32) + v1).toNatClampNeg)) fun q_21 => some (q_21.1, q_21.2)))))
set_option maxRecDepth 100000 in
set_option maxHeartbeats 4000000 in
theorem c_X6_account (l : Launch) (D : va_G) (cy : Nat → ClassId) (ad : Nat → Nat) (E : va_W) (X : Nat → Nat → Int32) (v1 : Int32) {res : Int32 × (Nat → Nat → Int32)} (h : f_X6_account X v1 = some res) : zMi l yX6_account wsX6_account (zrm 5) D (zTy cy) (zW cy ad shM E X) [.ref (ad 0), .int v1] res.1 (zW cy ad shM E res.2) := by
  refine zMi.of (cc := cX6_account) (maxL := 2) (ret := (some .int)) (by decide) rfl (Nat.le_of_ble_eq_true rfl) ?_
  intro p e s m below meth c A C hr
  unfold f_X6_account at h
  refine zG_L (L' := [(0, .ref (ad 0)), (1, .int v1)]) rfl ?_
  refine g_iload_n (j := 1) C dX6_account_0 rfl rfl ?_
  refine g_iconst (v := 0) C dX6_account_1 (by decide) ?_
  refine g_bipush (v := 11) C dX6_account_2 (by decide) ?_
  refine g_si (ws' := (zW cy ad shM E X)) (As := [.int v1, .int (0 : Int32), .int (11 : Int32)]) (rest := []) (res := (f_X6_in v1 (0 : Int32) (11 : Int32))) C (c_X6_in l D cy (zW cy ad shM E X) v1 (0 : Int32) (11 : Int32)) gX6_account_X6_in rfl hd_X6_in rfl rfl ⟨Nat.le_of_ble_eq_true rfl, Nat.le_of_ble_eq_true rfl⟩ rfl rfl (Nat.le_of_ble_eq_true rfl) ⟨Nat.zero_le _, Nat.zero_le _⟩ dX6_account_4 ?_
  refine g_if_ne C dX6_account_7 (tgt := 16) (by decide) (fun hc_1 => ?_) (fun hc_1 => ?_)
  · replace h := (if_neg hc_1).symm.trans h
    refine g_iload_n (j := 1) C dX6_account_16 rfl rfl ?_
    refine g_iconst (v := 4) C dX6_account_17 (by decide) ?_
    refine g_icmp_ge C dX6_account_18 (tgt := 34) (by decide) (fun hc_2 => ?_) (fun hc_2 => ?_)
    · replace h := (if_pos hc_2).symm.trans h
      refine g_aload_n (j := 0) C dX6_account_34 rfl rfl ?_
      refine g_iload_n (j := 1) C dX6_account_35 rfl rfl ?_
      refine g_bipush (v := 8) C dX6_account_36 (by decide) ?_
      refine g_icmp_ne C dX6_account_38 (tgt := 57) (by decide) (fun hc_3 => ?_) (fun hc_3 => ?_)
      · replace h := (if_neg hc_3).symm.trans h
        refine g_iload_n (j := 1) C dX6_account_57 rfl rfl ?_
        refine g_bipush (v := 9) C dX6_account_58 (by decide) ?_
        refine g_icmp_ne C dX6_account_60 (tgt := 72) (by decide) (fun hc_4 => ?_) (fun hc_4 => ?_)
        · replace h := (if_neg hc_4).symm.trans h
          refine g_iload_n (j := 1) C dX6_account_72 rfl rfl ?_
          refine g_bipush (v := 11) C dX6_account_73 (by decide) ?_
          refine g_icmp_ne C dX6_account_75 (tgt := 87) (by decide) (fun hc_5 => ?_) (fun hc_5 => ?_)
          · replace h := (if_neg hc_5).symm.trans h
            refine g_aload_n (j := 0) C dX6_account_87 rfl rfl ?_
            refine g_iload_n (j := 1) C dX6_account_88 rfl rfl ?_
            obtain ⟨q_6, hq_7, h⟩ := bind_isome h
            refine g_vi (ws' := (zW cy ad shM E X)) (As := [.int v1]) (rest := [.ref (ad 0)]) (res := q_6) C (c_X6_sumOf l D cy ad E X v1 hq_7) gX6_account_X6_sumOf rfl hd_X6_sumOf (zW_get X sM_0) rfl rfl rfl ⟨Nat.le_of_ble_eq_true rfl, Nat.le_of_ble_eq_true rfl⟩ rfl rfl (Nat.le_of_ble_eq_true rfl) ⟨Nat.zero_le _, Nat.zero_le _⟩ dX6_account_89 ?_
            obtain ⟨q_8, e_9, h⟩ := zlet_ex h
            refine g_vi (ws' := (zW cy ad shM E q_8.2)) (As := [.int q_6]) (rest := []) (res := q_8.1) C ((by rw [e_9]; exact c_X6_done l D cy ad E X q_6)) gX6_account_X6_done rfl hd_X6_done (zW_get X sM_0) rfl rfl rfl ⟨Nat.le_of_ble_eq_true rfl, Nat.le_of_ble_eq_true rfl⟩ rfl rfl (Nat.le_of_ble_eq_true rfl) ⟨Nat.zero_le _, Nat.zero_le _⟩ dX6_account_92 ?_
            obtain rfl := Option.some.inj h
            exact g_iret rfl C hr rfl dX6_account_95
          · replace h := (if_pos hc_5).symm.trans h
            refine g_aload_n (j := 0) C dX6_account_78 rfl rfl ?_
            refine g_getr (k := 1) (N := 27) C sM_0 rfl in_X6_account_RX6 (by decide) rfl fl_X6_account_9 rfl dX6_account_79 ?_
            refine g_iconst (v := 0) C dX6_account_82 (by decide) ?_
            refine g_iald C sM_1 (by decide) dX6_account_83 ?_
            refine g_goto C dX6_account_84 (tgt := 92) (by decide) ?_
            obtain ⟨q_10, e_11, h⟩ := zlet_ex h
            refine g_vi (ws' := (zW cy ad shM E q_10.2)) (As := [.int (X 1 (0 : Int32).toNatClampNeg)]) (rest := []) (res := q_10.1) C ((by rw [e_11]; exact c_X6_done l D cy ad E X (X 1 (0 : Int32).toNatClampNeg))) gX6_account_X6_done rfl hd_X6_done (zW_get X sM_0) rfl rfl rfl ⟨Nat.le_of_ble_eq_true rfl, Nat.le_of_ble_eq_true rfl⟩ rfl rfl (Nat.le_of_ble_eq_true rfl) ⟨Nat.zero_le _, Nat.zero_le _⟩ dX6_account_92 ?_
            obtain rfl := Option.some.inj h
            exact g_iret rfl C hr rfl dX6_account_95
        · replace h := (if_pos hc_4).symm.trans h
          refine g_aload_n (j := 0) C dX6_account_63 rfl rfl ?_
          refine g_getr (k := 1) (N := 27) C sM_0 rfl in_X6_account_RX6 (by decide) rfl fl_X6_account_9 rfl dX6_account_64 ?_
          refine g_iconst (v := 5) C dX6_account_67 (by decide) ?_
          refine g_iald C sM_1 (by decide) dX6_account_68 ?_
          refine g_goto C dX6_account_69 (tgt := 92) (by decide) ?_
          obtain ⟨q_12, e_13, h⟩ := zlet_ex h
          refine g_vi (ws' := (zW cy ad shM E q_12.2)) (As := [.int (X 1 (5 : Int32).toNatClampNeg)]) (rest := []) (res := q_12.1) C ((by rw [e_13]; exact c_X6_done l D cy ad E X (X 1 (5 : Int32).toNatClampNeg))) gX6_account_X6_done rfl hd_X6_done (zW_get X sM_0) rfl rfl rfl ⟨Nat.le_of_ble_eq_true rfl, Nat.le_of_ble_eq_true rfl⟩ rfl rfl (Nat.le_of_ble_eq_true rfl) ⟨Nat.zero_le _, Nat.zero_le _⟩ dX6_account_92 ?_
          obtain rfl := Option.some.inj h
          exact g_iret rfl C hr rfl dX6_account_95
      · replace h := (if_pos hc_3).symm.trans h
        refine g_aload_n (j := 0) C dX6_account_41 rfl rfl ?_
        refine g_bipush (v := 6) C dX6_account_42 (by decide) ?_
        obtain ⟨q_14, hq_15, h⟩ := bind_isome h
        refine g_vi (ws' := (zW cy ad shM E X)) (As := [.int (6 : Int32)]) (rest := [.ref (ad 0)]) (res := q_14) C (c_X6_sumOf l D cy ad E X (6 : Int32) hq_15) gX6_account_X6_sumOf rfl hd_X6_sumOf (zW_get X sM_0) rfl rfl rfl ⟨Nat.le_of_ble_eq_true rfl, Nat.le_of_ble_eq_true rfl⟩ rfl rfl (Nat.le_of_ble_eq_true rfl) ⟨Nat.zero_le _, Nat.zero_le _⟩ dX6_account_44 ?_
        refine g_aload_n (j := 0) C dX6_account_47 rfl rfl ?_
        refine g_bipush (v := 7) C dX6_account_48 (by decide) ?_
        obtain ⟨q_16, hq_17, h⟩ := bind_isome h
        refine g_vi (ws' := (zW cy ad shM E X)) (As := [.int (7 : Int32)]) (rest := [.int q_14, .ref (ad 0)]) (res := q_16) C (c_X6_sumOf l D cy ad E X (7 : Int32) hq_17) gX6_account_X6_sumOf rfl hd_X6_sumOf (zW_get X sM_0) rfl rfl rfl ⟨Nat.le_of_ble_eq_true rfl, Nat.le_of_ble_eq_true rfl⟩ rfl rfl (Nat.le_of_ble_eq_true rfl) ⟨Nat.zero_le _, Nat.zero_le _⟩ dX6_account_50 ?_
        refine g_isub C dX6_account_53 ?_
        refine g_goto C dX6_account_54 (tgt := 92) (by decide) ?_
        obtain ⟨q_18, e_19, h⟩ := zlet_ex h
        refine g_vi (ws' := (zW cy ad shM E q_18.2)) (As := [.int (q_14 - q_16)]) (rest := []) (res := q_18.1) C ((by rw [e_19]; exact c_X6_done l D cy ad E X (q_14 - q_16))) gX6_account_X6_done rfl hd_X6_done (zW_get X sM_0) rfl rfl rfl ⟨Nat.le_of_ble_eq_true rfl, Nat.le_of_ble_eq_true rfl⟩ rfl rfl (Nat.le_of_ble_eq_true rfl) ⟨Nat.zero_le _, Nat.zero_le _⟩ dX6_account_92 ?_
        obtain rfl := Option.some.inj h
        exact g_iret rfl C hr rfl dX6_account_95
    · replace h := (if_neg hc_2).symm.trans h
      refine g_aload_n (j := 0) C dX6_account_21 rfl rfl ?_
      refine g_aload_n (j := 0) C dX6_account_22 rfl rfl ?_
      refine g_getr (k := 1) (N := 27) C sM_0 rfl in_X6_account_RX6 (by decide) rfl fl_X6_account_9 rfl dX6_account_23 ?_
      refine g_iconst (v := 1) C dX6_account_26 (by decide) ?_
      refine g_iload_n (j := 1) C dX6_account_27 rfl rfl ?_
      refine g_iadd C dX6_account_28 ?_
      obtain ⟨hi_20, h⟩ := ite_inone h
      refine g_iald C sM_1 hi_20 dX6_account_29 ?_
      obtain ⟨q_21, e_22, h⟩ := zlet_ex h
      refine g_vi (ws' := (zW cy ad shM E q_21.2)) (As := [.int (X 1 ((1 : Int32) + v1).toNatClampNeg)]) (rest := []) (res := q_21.1) C ((by rw [e_22]; exact c_X6_done l D cy ad E X (X 1 ((1 : Int32) + v1).toNatClampNeg))) gX6_account_X6_done rfl hd_X6_done (zW_get X sM_0) rfl rfl rfl ⟨Nat.le_of_ble_eq_true rfl, Nat.le_of_ble_eq_true rfl⟩ rfl rfl (Nat.le_of_ble_eq_true rfl) ⟨Nat.zero_le _, Nat.zero_le _⟩ dX6_account_30 ?_
      obtain rfl := Option.some.inj h
      exact g_iret rfl C hr rfl dX6_account_33
  · replace h := (if_pos hc_1).symm.trans h
    refine g_aload_n (j := 0) C dX6_account_10 rfl rfl ?_
    refine g_iconst (v := 1) C dX6_account_11 (by decide) ?_
    obtain ⟨q_23, e_24, h⟩ := zlet_ex h
    refine g_vi (ws' := (zW cy ad shM E q_23.2)) (As := [.int (1 : Int32)]) (rest := []) (res := q_23.1) C ((by rw [e_24]; exact c_X6_fails l D cy ad E X (1 : Int32))) gX6_account_X6_fails rfl hd_X6_fails (zW_get X sM_0) rfl rfl rfl ⟨Nat.le_of_ble_eq_true rfl, Nat.le_of_ble_eq_true rfl⟩ rfl rfl (Nat.le_of_ble_eq_true rfl) ⟨Nat.zero_le _, Nat.zero_le _⟩ dX6_account_12 ?_
    obtain rfl := Option.some.inj h
    exact g_iret rfl C hr rfl dX6_account_15
theorem in_X6_bestFilm_RX6 : ∀ w ∈ u_ws RX6 TX6 27, w ∈ wsX6_bestFilm := by decide +kernel
theorem fl_X6_bestFilm_9 : (Cond.fieldLink RX6 9 RX6 (TX6 1).2.1 (TX6 1).2.2.1) ∈ wsX6_bestFilm := by decide +kernel
theorem hd_X6_bestFilm : yX6_bestFilm.cls = RX6 ∧ yX6_bestFilm.cls ≠ "java/lang/invoke/MethodHandle" ∧ yX6_bestFilm.cls ≠ "java/lang/invoke/VarHandle" ∧ (parseMethodDescriptor yX6_bestFilm.desc).map (fun d => d.parameters.length) = some 0 := by decide +kernel
def f_X6_bestFilm_L6 (k : (Nat → Nat → Int32) → Int32 → Option (Int32 × (Nat → Nat → Int32))) : Nat → (Nat → Nat → Int32) → Int32 → Int32 → Int32 → Option (Int32 × (Nat → Nat → Int32))
  | 0, _, _, _, _ => none
  | fu + 1, X, v1, v2, v3 => (if (X 1 (2 : Int32).toNatClampNeg) ≤ v3 then k X v1 else ((f_X6_film X v3 (6 : Int32)).bind fun q_1002 => (if v1 = (-1 : Int32) then f_X6_bestFilm_L6 k fu q_1002.2 v3 q_1002.1 (v3 + 1) else (if q_1002.1 ≤ v2 then f_X6_bestFilm_L6 k fu q_1002.2 v1 v2 (v3 + 1) else f_X6_bestFilm_L6 k fu q_1002.2 v3 q_1002.1 (v3 + 1)))))
set_option maxRecDepth 100000 in
set_option maxHeartbeats 4000000 in
theorem w_X6_bestFilm_L6 {p : Program} {e : Env} {s : State} {m : MethodId} {args : Array Value} {below : List Frame} {meth : Method} {c : Code} {A : Nat → Prop} (l : Launch) (D : va_G) (cy : Nat → ClassId) (ad : Nat → Nat) (E : va_W) (k : (Nat → Nat → Int32) → Int32 → Option (Int32 × (Nat → Nat → Int32))) {res : Int32 × (Nat → Nat → Int32)} (C : zC p s m args meth c cX6_bestFilm 5 RX6 wsX6_bestFilm D (zTy cy) A) (hr : meth.sig.returnType = (some .int)) : ∀ (fu : Nat) (X : Nat → Nat → Int32) (v1 v2 v3 : Int32) (h : f_X6_bestFilm_L6 k fu X v1 v2 v3 = some res) (hk : ∀ (X : Nat → Nat → Int32) (v1 : Int32), k X v1 = some res → zG p l e (headSpec wsX6_bestFilm (zrm 5)).room s m args below meth c 5 D A 0 0 (MQ below (va_Qi (fun (r : Int32) (_ : Unit) => r = res.1) (fun _ t => zB D (zTy cy) A (zW cy ad shM E res.2) t) A) args s 0 0 A) (zW cy ad shM E X) 47 [(0, .ref (ad 0)), (1, .int v1)] []), zG p l e (headSpec wsX6_bestFilm (zrm 5)).room s m args below meth c 5 D A 0 0 (MQ below (va_Qi (fun (r : Int32) (_ : Unit) => r = res.1) (fun _ t => zB D (zTy cy) A (zW cy ad shM E res.2) t) A) args s 0 0 A) (zW cy ad shM E X) 6 [(0, .ref (ad 0)), (1, .int v1), (2, .int v2), (3, .int v3)] [] := by
  intro fu
  induction fu with
  | zero => intro X v1 v2 v3 h hk; simp [f_X6_bestFilm_L6] at h
  | succ fu ih =>
    intro X v1 v2 v3 h hk
    rw [f_X6_bestFilm_L6] at h
    refine g_iload_n (j := 3) C dX6_bestFilm_6 rfl rfl ?_
    refine g_aload_n (j := 0) C dX6_bestFilm_7 rfl rfl ?_
    refine g_getr (k := 1) (N := 27) C sM_0 rfl in_X6_bestFilm_RX6 (by decide) rfl fl_X6_bestFilm_9 rfl dX6_bestFilm_8 ?_
    refine g_iconst (v := 2) C dX6_bestFilm_11 (by decide) ?_
    refine g_iald C sM_1 (by decide) dX6_bestFilm_12 ?_
    refine g_icmp_ge C dX6_bestFilm_13 (tgt := 47) (by decide) (fun hc_1001 => ?_) (fun hc_1001 => ?_)
    · replace h := (if_pos hc_1001).symm.trans h
      refine zG_sub (L' := [(0, .ref (ad 0)), (1, .int v1)]) [0, 1] rfl ?_
      exact hk X v1 h
    · replace h := (if_neg hc_1001).symm.trans h
      refine g_aload_n (j := 0) C dX6_bestFilm_16 rfl rfl ?_
      refine g_iload_n (j := 3) C dX6_bestFilm_17 rfl rfl ?_
      refine g_bipush (v := 6) C dX6_bestFilm_18 (by decide) ?_
      obtain ⟨q_1002, hq_1003, h⟩ := bind_isome h
      refine g_vi (ws' := (zW cy ad shM E q_1002.2)) (As := [.int v3, .int (6 : Int32)]) (rest := []) (res := q_1002.1) C (c_X6_film l D cy ad E X v3 (6 : Int32) hq_1003) gX6_bestFilm_X6_film rfl hd_X6_film (zW_get X sM_0) rfl rfl rfl ⟨Nat.le_of_ble_eq_true rfl, Nat.le_of_ble_eq_true rfl⟩ rfl rfl (Nat.le_of_ble_eq_true rfl) ⟨Nat.zero_le _, Nat.zero_le _⟩ dX6_bestFilm_20 ?_
      refine g_istore (L' := [(4, .int q_1002.1), (0, .ref (ad 0)), (1, .int v1), (2, .int v2), (3, .int v3)]) C dX6_bestFilm_23 (by decide) rfl ?_
      refine g_iload_n (j := 2) C dX6_bestFilm_25 rfl rfl ?_
      refine g_iconst (v := -1) C dX6_bestFilm_26 (by decide) ?_
      refine g_icmp_eq C dX6_bestFilm_27 (tgt := 36) (by decide) (fun hc_1004 => ?_) (fun hc_1004 => ?_)
      · replace h := (if_pos hc_1004).symm.trans h
        refine g_iload_n (j := 4) C dX6_bestFilm_36 rfl rfl ?_
        refine g_istore_n (L' := [(1, .int v3), (4, .int q_1002.1), (0, .ref (ad 0)), (2, .int v2), (3, .int v3)]) C dX6_bestFilm_37 rfl (by decide) rfl ?_
        refine g_iload (j := 1) C dX6_bestFilm_38 rfl ?_
        refine g_istore_n (L' := [(2, .int q_1002.1), (1, .int v3), (4, .int q_1002.1), (0, .ref (ad 0)), (3, .int v3)]) C dX6_bestFilm_40 rfl (by decide) rfl ?_
        refine g_iinc (k := 4) (L' := [(3, .int (v3 + 1)), (2, .int q_1002.1), (1, .int v3), (4, .int q_1002.1), (0, .ref (ad 0))]) C dX6_bestFilm_41 rfl (z_iinc (by decide)) (by decide) rfl ?_
        refine g_goto C dX6_bestFilm_44 (tgt := 6) (by decide) ?_
        refine zG_sub (L' := [(0, .ref (ad 0)), (1, .int v3), (2, .int q_1002.1), (3, .int (v3 + 1))]) [4, 2, 1, 0] rfl ?_
        exact ih q_1002.2 v3 q_1002.1 (v3 + 1) h hk
      · replace h := (if_neg hc_1004).symm.trans h
        refine g_iload (j := 0) C dX6_bestFilm_30 rfl ?_
        refine g_iload_n (j := 3) C dX6_bestFilm_32 rfl rfl ?_
        refine g_icmp_le C dX6_bestFilm_33 (tgt := 41) (by decide) (fun hc_1005 => ?_) (fun hc_1005 => ?_)
        · replace h := (if_pos hc_1005).symm.trans h
          refine g_iinc (k := 4) (L' := [(3, .int (v3 + 1)), (4, .int q_1002.1), (0, .ref (ad 0)), (1, .int v1), (2, .int v2)]) C dX6_bestFilm_41 rfl (z_iinc (by decide)) (by decide) rfl ?_
          refine g_goto C dX6_bestFilm_44 (tgt := 6) (by decide) ?_
          refine zG_sub (L' := [(0, .ref (ad 0)), (1, .int v1), (2, .int v2), (3, .int (v3 + 1))]) [2, 3, 4, 0] rfl ?_
          exact ih q_1002.2 v1 v2 (v3 + 1) h hk
        · replace h := (if_neg hc_1005).symm.trans h
          refine g_iload_n (j := 4) C dX6_bestFilm_36 rfl rfl ?_
          refine g_istore_n (L' := [(1, .int v3), (4, .int q_1002.1), (0, .ref (ad 0)), (2, .int v2), (3, .int v3)]) C dX6_bestFilm_37 rfl (by decide) rfl ?_
          refine g_iload (j := 1) C dX6_bestFilm_38 rfl ?_
          refine g_istore_n (L' := [(2, .int q_1002.1), (1, .int v3), (4, .int q_1002.1), (0, .ref (ad 0)), (3, .int v3)]) C dX6_bestFilm_40 rfl (by decide) rfl ?_
          refine g_iinc (k := 4) (L' := [(3, .int (v3 + 1)), (2, .int q_1002.1), (1, .int v3), (4, .int q_1002.1), (0, .ref (ad 0))]) C dX6_bestFilm_41 rfl (z_iinc (by decide)) (by decide) rfl ?_
          refine g_goto C dX6_bestFilm_44 (tgt := 6) (by decide) ?_
          refine zG_sub (L' := [(0, .ref (ad 0)), (1, .int v3), (2, .int q_1002.1), (3, .int (v3 + 1))]) [4, 2, 1, 0] rfl ?_
          exact ih q_1002.2 v3 q_1002.1 (v3 + 1) h hk
def f_X6_bestFilm (X : Nat → Nat → Int32) : Option (Int32 × (Nat → Nat → Int32)) := f_X6_bestFilm_L6 (fun X_1007 v1_1006 => (if v1_1006 = (-1 : Int32) then (zlet (f_X6_fails X_1007 (1 : Int32)) fun q_1011 => some (q_1011.1, q_1011.2)) else (zlet (f_X6_done X_1007 v1_1006) fun q_1009 => some (q_1009.1, q_1009.2)))) zFuel X (-1 : Int32) (0 : Int32) (0 : Int32)
set_option maxRecDepth 100000 in
set_option maxHeartbeats 4000000 in
theorem c_X6_bestFilm (l : Launch) (D : va_G) (cy : Nat → ClassId) (ad : Nat → Nat) (E : va_W) (X : Nat → Nat → Int32) {res : Int32 × (Nat → Nat → Int32)} (h : f_X6_bestFilm X = some res) : zMi l yX6_bestFilm wsX6_bestFilm (zrm 5) D (zTy cy) (zW cy ad shM E X) [.ref (ad 0)] res.1 (zW cy ad shM E res.2) := by
  refine zMi.of (cc := cX6_bestFilm) (maxL := 5) (ret := (some .int)) (by decide) rfl (Nat.le_of_ble_eq_true rfl) ?_
  intro p e s m below meth c A C hr
  unfold f_X6_bestFilm at h
  refine zG_L (L' := [(0, .ref (ad 0))]) rfl ?_
  refine g_iconst (v := -1) C dX6_bestFilm_0 (by decide) ?_
  refine g_istore_n (L' := [(1, .int (-1 : Int32)), (0, .ref (ad 0))]) C dX6_bestFilm_1 rfl (by decide) rfl ?_
  refine g_iconst (v := 0) C dX6_bestFilm_2 (by decide) ?_
  refine g_istore_n (L' := [(2, .int (0 : Int32)), (1, .int (-1 : Int32)), (0, .ref (ad 0))]) C dX6_bestFilm_3 rfl (by decide) rfl ?_
  refine g_iconst (v := 0) C dX6_bestFilm_4 (by decide) ?_
  refine g_istore_n (L' := [(3, .int (0 : Int32)), (2, .int (0 : Int32)), (1, .int (-1 : Int32)), (0, .ref (ad 0))]) C dX6_bestFilm_5 rfl (by decide) rfl ?_
  refine zG_sub (L' := [(0, .ref (ad 0)), (1, .int (-1 : Int32)), (2, .int (0 : Int32)), (3, .int (0 : Int32))]) [3, 2, 1, 0] rfl ?_
  refine w_X6_bestFilm_L6 l D cy ad E _ C hr zFuel X (-1 : Int32) (0 : Int32) (0 : Int32) h ?_
  intro X_1007 v1_1006 h
  refine g_iload_n (j := 1) C dX6_bestFilm_47 rfl rfl ?_
  refine g_iconst (v := -1) C dX6_bestFilm_48 (by decide) ?_
  refine g_icmp_ne C dX6_bestFilm_49 (tgt := 60) (by decide) (fun hc_1008 => ?_) (fun hc_1008 => ?_)
  · replace h := (if_neg hc_1008).symm.trans h
    refine g_aload_n (j := 0) C dX6_bestFilm_60 rfl rfl ?_
    refine g_iload_n (j := 1) C dX6_bestFilm_61 rfl rfl ?_
    obtain ⟨q_1009, e_1010, h⟩ := zlet_ex h
    refine g_vi (ws' := (zW cy ad shM E q_1009.2)) (As := [.int v1_1006]) (rest := []) (res := q_1009.1) C ((by rw [e_1010]; exact c_X6_done l D cy ad E X_1007 v1_1006)) gX6_bestFilm_X6_done rfl hd_X6_done (zW_get X_1007 sM_0) rfl rfl rfl ⟨Nat.le_of_ble_eq_true rfl, Nat.le_of_ble_eq_true rfl⟩ rfl rfl (Nat.le_of_ble_eq_true rfl) ⟨Nat.zero_le _, Nat.zero_le _⟩ dX6_bestFilm_62 ?_
    obtain rfl := Option.some.inj h
    exact g_iret rfl C hr rfl dX6_bestFilm_65
  · replace h := (if_pos hc_1008).symm.trans h
    refine g_aload_n (j := 0) C dX6_bestFilm_52 rfl rfl ?_
    refine g_iconst (v := 1) C dX6_bestFilm_53 (by decide) ?_
    obtain ⟨q_1011, e_1012, h⟩ := zlet_ex h
    refine g_vi (ws' := (zW cy ad shM E q_1011.2)) (As := [.int (1 : Int32)]) (rest := []) (res := q_1011.1) C ((by rw [e_1012]; exact c_X6_fails l D cy ad E X_1007 (1 : Int32))) gX6_bestFilm_X6_fails rfl hd_X6_fails (zW_get X_1007 sM_0) rfl rfl rfl ⟨Nat.le_of_ble_eq_true rfl, Nat.le_of_ble_eq_true rfl⟩ rfl rfl (Nat.le_of_ble_eq_true rfl) ⟨Nat.zero_le _, Nat.zero_le _⟩ dX6_bestFilm_54 ?_
    refine g_goto C dX6_bestFilm_57 (tgt := 65) (by decide) ?_
    obtain rfl := Option.some.inj h
    exact g_iret rfl C hr rfl dX6_bestFilm_65
theorem in_X6_writesLetter_RX6 : ∀ w ∈ u_ws RX6 TX6 27, w ∈ wsX6_writesLetter := by decide +kernel
theorem fl_X6_writesLetter_30 : (Cond.fieldLink RX6 30 RX6 (TX6 13).2.1 (TX6 13).2.2.1) ∈ wsX6_writesLetter := by decide +kernel
theorem fl_X6_writesLetter_239 : (Cond.fieldLink RX6 239 RX6 (TX6 14).2.1 (TX6 14).2.2.1) ∈ wsX6_writesLetter := by decide +kernel
theorem hd_X6_writesLetter : yX6_writesLetter.cls = RX6 ∧ yX6_writesLetter.cls ≠ "java/lang/invoke/MethodHandle" ∧ yX6_writesLetter.cls ≠ "java/lang/invoke/VarHandle" ∧ (parseMethodDescriptor yX6_writesLetter.desc).map (fun d => d.parameters.length) = some 1 := by decide +kernel
def f_X6_writesLetter (X : Nat → Nat → Int32) (v1 : Int32) : Option (Nat → Nat → Int32) := (if (X 0 14) < 0 ∨ 1200 ≤ (X 0 14).toNatClampNeg then none else (zlet (zU X 6 (X 0 14).toNatClampNeg (vp_nar .char v1)) fun X_2 => (zlet (zU X_2 0 14 ((X_2 0 14) + (1 : Int32))) fun X_4 => some X_4)))
set_option maxRecDepth 100000 in
set_option maxHeartbeats 4000000 in
theorem c_X6_writesLetter (l : Launch) (D : va_G) (cy : Nat → ClassId) (ad : Nat → Nat) (E : va_W) (X : Nat → Nat → Int32) (v1 : Int32) {res : (Nat → Nat → Int32)} (h : f_X6_writesLetter X v1 = some res) : zMv l yX6_writesLetter wsX6_writesLetter (zrm 1) D (zTy cy) (zW cy ad shM E X) [.ref (ad 0), .int v1] (zW cy ad shM E res) := by
  refine zMv.of (cc := cX6_writesLetter) (maxL := 2) (ret := none) (by decide) rfl (Nat.le_of_ble_eq_true rfl) ?_
  intro p e s m below meth c A C hr
  unfold f_X6_writesLetter at h
  refine zG_L (L' := [(0, .ref (ad 0)), (1, .int v1)]) rfl ?_
  refine g_aload_n (j := 0) C dX6_writesLetter_0 rfl rfl ?_
  refine g_getr (k := 13) (N := 27) C sM_0 rfl in_X6_writesLetter_RX6 (by decide) rfl fl_X6_writesLetter_30 rfl dX6_writesLetter_1 ?_
  refine g_aload_n (j := 0) C dX6_writesLetter_4 rfl rfl ?_
  refine g_geti (k := 14) (N := 27) C sM_0 rfl in_X6_writesLetter_RX6 (by decide) rfl fl_X6_writesLetter_239 rfl dX6_writesLetter_5 ?_
  refine g_iload_n (j := 1) C dX6_writesLetter_8 rfl rfl ?_
  obtain ⟨hi_1, h⟩ := ite_inone h
  refine g_cast C sM_6 hi_1 dX6_writesLetter_9 ?_
  obtain ⟨X_2, e_3, h⟩ := zlet_ex h
  rw [← e_3]
  refine g_aload_n (j := 0) C dX6_writesLetter_10 rfl rfl ?_
  refine g_dup C dX6_writesLetter_11 rfl ?_
  refine g_geti (k := 14) (N := 27) C sM_0 rfl in_X6_writesLetter_RX6 (by decide) rfl fl_X6_writesLetter_239 rfl dX6_writesLetter_12 ?_
  refine g_iconst (v := 1) C dX6_writesLetter_15 (by decide) ?_
  refine g_iadd C dX6_writesLetter_16 ?_
  refine g_puti (k := 14) (N := 27) (ty := .int) C sM_0 rfl in_X6_writesLetter_RX6 (by decide) rfl fl_X6_writesLetter_239 rfl tyX6_ok nmX6 rfl (by decide +kernel) rfl rfl dX6_writesLetter_17 ?_
  obtain ⟨X_4, e_5, h⟩ := zlet_ex h
  rw [← e_5]
  obtain rfl := Option.some.inj h
  exact g_vret rfl C hr dX6_writesLetter_20
theorem hd_X6_writesNumber : yX6_writesNumber.cls = RX6 ∧ yX6_writesNumber.cls ≠ "java/lang/invoke/MethodHandle" ∧ yX6_writesNumber.cls ≠ "java/lang/invoke/VarHandle" ∧ (parseMethodDescriptor yX6_writesNumber.desc).map (fun d => d.parameters.length) = some 1 := by decide +kernel
def f_X6_writesNumber_L2 (k : Int32 → Option (Nat → Nat → Int32)) (X : Nat → Nat → Int32) (v1 : Int32) : Nat → Int32 → Option (Nat → Nat → Int32)
  | 0, _ => none
  | fu + 1, v2 => (if v1 < (v2 * (10 : Int32)) then k v2 else f_X6_writesNumber_L2 k X v1 fu (v2 * (10 : Int32)))
set_option maxRecDepth 100000 in
set_option maxHeartbeats 4000000 in
theorem w_X6_writesNumber_L2 {p : Program} {e : Env} {s : State} {m : MethodId} {args : Array Value} {below : List Frame} {meth : Method} {c : Code} {A : Nat → Prop} (l : Launch) (D : va_G) (cy : Nat → ClassId) (ad : Nat → Nat) (E : va_W) (k : Int32 → Option (Nat → Nat → Int32)) (X : Nat → Nat → Int32) (v1 : Int32) {res : (Nat → Nat → Int32)} (C : zC p s m args meth c cX6_writesNumber 4 RX6 wsX6_writesNumber D (zTy cy) A) (hr : meth.sig.returnType = none) : ∀ (fu : Nat) (v2 : Int32) (h : f_X6_writesNumber_L2 k X v1 fu v2 = some res) (hk : ∀ (v2 : Int32), k v2 = some res → zG p l e (headSpec wsX6_writesNumber (zrm 2)).room s m args below meth c 4 D A 0 0 (MQ below (va_Qv (fun (_ : Unit) => True) (fun _ t => zB D (zTy cy) A (zW cy ad shM E res) t) A) args s 0 0 A) (zW cy ad shM E X) 18 [(0, .ref (ad 0)), (1, .int v1), (2, .int v2)] []), zG p l e (headSpec wsX6_writesNumber (zrm 2)).room s m args below meth c 4 D A 0 0 (MQ below (va_Qv (fun (_ : Unit) => True) (fun _ t => zB D (zTy cy) A (zW cy ad shM E res) t) A) args s 0 0 A) (zW cy ad shM E X) 2 [(0, .ref (ad 0)), (1, .int v1), (2, .int v2)] [] := by
  intro fu
  induction fu with
  | zero => intro v2 h hk; simp [f_X6_writesNumber_L2] at h
  | succ fu ih =>
    intro v2 h hk
    rw [f_X6_writesNumber_L2] at h
    refine g_iload_n (j := 2) C dX6_writesNumber_2 rfl rfl ?_
    refine g_bipush (v := 10) C dX6_writesNumber_3 (by decide) ?_
    refine g_imul C dX6_writesNumber_5 ?_
    refine g_iload_n (j := 1) C dX6_writesNumber_6 rfl rfl ?_
    refine g_icmp_gt C dX6_writesNumber_7 (tgt := 18) (by decide) (fun hc_1001 => ?_) (fun hc_1001 => ?_)
    · replace h := (if_pos hc_1001).symm.trans h
      refine zG_sub (L' := [(0, .ref (ad 0)), (1, .int v1), (2, .int v2)]) [0, 1, 2] rfl ?_
      exact hk v2 h
    · replace h := (if_neg hc_1001).symm.trans h
      refine g_iload_n (j := 2) C dX6_writesNumber_10 rfl rfl ?_
      refine g_bipush (v := 10) C dX6_writesNumber_11 (by decide) ?_
      refine g_imul C dX6_writesNumber_13 ?_
      refine g_istore_n (L' := [(2, .int (v2 * (10 : Int32))), (0, .ref (ad 0)), (1, .int v1)]) C dX6_writesNumber_14 rfl (by decide) rfl ?_
      refine g_goto C dX6_writesNumber_15 (tgt := 2) (by decide) ?_
      refine zG_sub (L' := [(0, .ref (ad 0)), (1, .int v1), (2, .int (v2 * (10 : Int32)))]) [1, 2, 0] rfl ?_
      exact ih (v2 * (10 : Int32)) h hk
def f_X6_writesNumber_L20 (v1 : Int32) : Nat → (Nat → Nat → Int32) → Int32 → Option (Nat → Nat → Int32)
  | 0, _, _ => none
  | fu + 1, X, v3 => (if v3 ≤ 0 then some X else (if v3 = 0 then none else ((f_X6_writesLetter X ((((48 : Int32) + ((v1 / v3) - (v1 / v3) / (10 : Int32) * (10 : Int32))).toUInt32 % 65536).toInt32)).bind fun q_2005 => f_X6_writesNumber_L20 v1 fu q_2005 (v3 / (10 : Int32)))))
set_option maxRecDepth 100000 in
set_option maxHeartbeats 4000000 in
theorem w_X6_writesNumber_L20 {p : Program} {e : Env} {s : State} {m : MethodId} {args : Array Value} {below : List Frame} {meth : Method} {c : Code} {A : Nat → Prop} (l : Launch) (D : va_G) (cy : Nat → ClassId) (ad : Nat → Nat) (E : va_W) (v1 : Int32) {res : (Nat → Nat → Int32)} (C : zC p s m args meth c cX6_writesNumber 4 RX6 wsX6_writesNumber D (zTy cy) A) (hr : meth.sig.returnType = none) : ∀ (fu : Nat) (X : Nat → Nat → Int32) (v3 : Int32) (h : f_X6_writesNumber_L20 v1 fu X v3 = some res), zG p l e (headSpec wsX6_writesNumber (zrm 2)).room s m args below meth c 4 D A 0 0 (MQ below (va_Qv (fun (_ : Unit) => True) (fun _ t => zB D (zTy cy) A (zW cy ad shM E res) t) A) args s 0 0 A) (zW cy ad shM E X) 20 [(0, .ref (ad 0)), (1, .int v1), (3, .int v3)] [] := by
  intro fu
  induction fu with
  | zero => intro X v3 h; simp [f_X6_writesNumber_L20] at h
  | succ fu ih =>
    intro X v3 h
    rw [f_X6_writesNumber_L20] at h
    refine g_iload_n (j := 2) C dX6_writesNumber_20 rfl rfl ?_
    refine g_if_le C dX6_writesNumber_21 (tgt := 46) (by decide) (fun hc_2003 => ?_) (fun hc_2003 => ?_)
    · replace h := (if_pos hc_2003).symm.trans h
      obtain rfl := Option.some.inj h
      exact g_vret rfl C hr dX6_writesNumber_46
    · replace h := (if_neg hc_2003).symm.trans h
      refine g_aload_n (j := 0) C dX6_writesNumber_24 rfl rfl ?_
      refine g_bipush (v := 48) C dX6_writesNumber_25 (by decide) ?_
      refine g_iload_n (j := 1) C dX6_writesNumber_27 rfl rfl ?_
      refine g_iload_n (j := 2) C dX6_writesNumber_28 rfl rfl ?_
      obtain ⟨hg_2004, h⟩ := ite_inone h
      refine g_idiv C dX6_writesNumber_29 hg_2004 ?_
      refine g_bipush (v := 10) C dX6_writesNumber_30 (by decide) ?_
      refine g_irem C dX6_writesNumber_32 (by decide) ?_
      refine g_iadd C dX6_writesNumber_33 ?_
      refine g_i2c C dX6_writesNumber_34 rfl ?_
      obtain ⟨q_2005, hq_2006, h⟩ := bind_isome h
      refine g_vv (ws' := (zW cy ad shM E q_2005)) (As := [.int ((((48 : Int32) + ((v1 / v3) - (v1 / v3) / (10 : Int32) * (10 : Int32))).toUInt32 % 65536).toInt32)]) (rest := []) C (c_X6_writesLetter l D cy ad E X ((((48 : Int32) + ((v1 / v3) - (v1 / v3) / (10 : Int32) * (10 : Int32))).toUInt32 % 65536).toInt32) hq_2006) gX6_writesNumber_X6_writesLetter rfl hd_X6_writesLetter (zW_get X sM_0) rfl rfl rfl ⟨Nat.le_of_ble_eq_true rfl, Nat.le_of_ble_eq_true rfl⟩ rfl rfl (Nat.le_of_ble_eq_true rfl) ⟨Nat.zero_le _, Nat.zero_le _⟩ dX6_writesNumber_35 ?_
      refine g_iload_n (j := 2) C dX6_writesNumber_38 rfl rfl ?_
      refine g_bipush (v := 10) C dX6_writesNumber_39 (by decide) ?_
      refine g_idiv C dX6_writesNumber_41 (by decide) ?_
      refine g_istore_n (L' := [(3, .int (v3 / (10 : Int32))), (0, .ref (ad 0)), (1, .int v1)]) C dX6_writesNumber_42 rfl (by decide) rfl ?_
      refine g_goto C dX6_writesNumber_43 (tgt := 20) (by decide) ?_
      refine zG_sub (L' := [(0, .ref (ad 0)), (1, .int v1), (3, .int (v3 / (10 : Int32)))]) [1, 2, 0] rfl ?_
      exact ih q_2005 (v3 / (10 : Int32)) h
def f_X6_writesNumber (X : Nat → Nat → Int32) (v1 : Int32) : Option (Nat → Nat → Int32) := f_X6_writesNumber_L2 (fun v2_1002 => f_X6_writesNumber_L20 v1 zFuel X v2_1002) X v1 zFuel (1 : Int32)
set_option maxRecDepth 100000 in
set_option maxHeartbeats 4000000 in
theorem c_X6_writesNumber (l : Launch) (D : va_G) (cy : Nat → ClassId) (ad : Nat → Nat) (E : va_W) (X : Nat → Nat → Int32) (v1 : Int32) {res : (Nat → Nat → Int32)} (h : f_X6_writesNumber X v1 = some res) : zMv l yX6_writesNumber wsX6_writesNumber (zrm 2) D (zTy cy) (zW cy ad shM E X) [.ref (ad 0), .int v1] (zW cy ad shM E res) := by
  refine zMv.of (cc := cX6_writesNumber) (maxL := 4) (ret := none) (by decide) rfl (Nat.le_of_ble_eq_true rfl) ?_
  intro p e s m below meth c A C hr
  unfold f_X6_writesNumber at h
  refine zG_L (L' := [(0, .ref (ad 0)), (1, .int v1)]) rfl ?_
  refine g_iconst (v := 1) C dX6_writesNumber_0 (by decide) ?_
  refine g_istore_n (L' := [(2, .int (1 : Int32)), (0, .ref (ad 0)), (1, .int v1)]) C dX6_writesNumber_1 rfl (by decide) rfl ?_
  refine zG_sub (L' := [(0, .ref (ad 0)), (1, .int v1), (2, .int (1 : Int32))]) [1, 2, 0] rfl ?_
  refine w_X6_writesNumber_L2 l D cy ad E _ X v1 C hr zFuel (1 : Int32) h ?_
  intro v2_1002 h
  refine g_iload_n (j := 2) C dX6_writesNumber_18 rfl rfl ?_
  refine g_istore_n (L' := [(3, .int v2_1002), (0, .ref (ad 0)), (1, .int v1), (2, .int v2_1002)]) C dX6_writesNumber_19 rfl (by decide) rfl ?_
  refine zG_sub (L' := [(0, .ref (ad 0)), (1, .int v1), (3, .int v2_1002)]) [1, 2, 0] rfl ?_
  exact w_X6_writesNumber_L20 l D cy ad E v1 C hr zFuel X v2_1002 h
theorem in_X6_nextShow_RX6 : ∀ w ∈ u_ws RX6 TX6 27, w ∈ wsX6_nextShow := by decide +kernel
theorem fl_X6_nextShow_9 : (Cond.fieldLink RX6 9 RX6 (TX6 1).2.1 (TX6 1).2.2.1) ∈ wsX6_nextShow := by decide +kernel
theorem hd_X6_nextShow : yX6_nextShow.cls = RX6 ∧ yX6_nextShow.cls ≠ "java/lang/invoke/MethodHandle" ∧ yX6_nextShow.cls ≠ "java/lang/invoke/VarHandle" ∧ (parseMethodDescriptor yX6_nextShow.desc).map (fun d => d.parameters.length) = some 3 := by decide +kernel
def f_X6_nextShow_L6 (X : Nat → Nat → Int32) (v1 : Int32) (v2 : Int32) (v3 : Int32) : Nat → Int32 → Int32 → Option Int32
  | 0, _, _ => none
  | fu + 1, v4, v5 => (if (X 1 (4 : Int32).toNatClampNeg) ≤ v5 then some v4 else ((f_X6_stands X v5).bind fun q_1002 => (if q_1002 = 0 then f_X6_nextShow_L6 X v1 v2 v3 fu v4 (v5 + 1) else ((f_X6_showAt X v5 (0 : Int32)).bind fun q_1005 => (if q_1005 = v1 then ((f_X6_showAt X v5 (2 : Int32)).bind fun q_1008 => (if q_1008 = v2 then ((f_X6_showAt X v5 (3 : Int32)).bind fun q_1011 => (if q_1011 ≤ v3 then f_X6_nextShow_L6 X v1 v2 v3 fu v4 (v5 + 1) else (if v4 = (-1 : Int32) then f_X6_nextShow_L6 X v1 v2 v3 fu v5 (v5 + 1) else ((f_X6_showAt X v5 (3 : Int32)).bind fun q_1015 => ((f_X6_showAt X v4 (3 : Int32)).bind fun q_1017 => (if q_1017 ≤ q_1015 then f_X6_nextShow_L6 X v1 v2 v3 fu v4 (v5 + 1) else f_X6_nextShow_L6 X v1 v2 v3 fu v5 (v5 + 1))))))) else f_X6_nextShow_L6 X v1 v2 v3 fu v4 (v5 + 1))) else f_X6_nextShow_L6 X v1 v2 v3 fu v4 (v5 + 1))))))
set_option maxRecDepth 100000 in
set_option maxHeartbeats 4000000 in
theorem w_X6_nextShow_L6 {p : Program} {e : Env} {s : State} {m : MethodId} {args : Array Value} {below : List Frame} {meth : Method} {c : Code} {A : Nat → Prop} (l : Launch) (D : va_G) (cy : Nat → ClassId) (ad : Nat → Nat) (E : va_W) (X : Nat → Nat → Int32) (v1 : Int32) (v2 : Int32) (v3 : Int32) {res : Int32} (C : zC p s m args meth c cX6_nextShow 7 RX6 wsX6_nextShow D (zTy cy) A) (hr : meth.sig.returnType = (some .int)) : ∀ (fu : Nat) (v4 v5 : Int32) (h : f_X6_nextShow_L6 X v1 v2 v3 fu v4 v5 = some res), zG p l e (headSpec wsX6_nextShow (zrm 3)).room s m args below meth c 7 D A 0 0 (MQ below (va_Qi (fun (r : Int32) (_ : Unit) => r = res) (fun _ t => zB D (zTy cy) A (zW cy ad shM E X) t) A) args s 0 0 A) (zW cy ad shM E X) 6 [(0, .ref (ad 0)), (1, .int v1), (2, .int v2), (3, .int v3), (4, .int v4), (5, .int v5)] [] := by
  intro fu
  induction fu with
  | zero => intro v4 v5 h; simp [f_X6_nextShow_L6] at h
  | succ fu ih =>
    intro v4 v5 h
    rw [f_X6_nextShow_L6] at h
    refine g_iload (j := 5) C dX6_nextShow_6 rfl ?_
    refine g_aload_n (j := 0) C dX6_nextShow_8 rfl rfl ?_
    refine g_getr (k := 1) (N := 27) C sM_0 rfl in_X6_nextShow_RX6 (by decide) rfl fl_X6_nextShow_9 rfl dX6_nextShow_9 ?_
    refine g_iconst (v := 4) C dX6_nextShow_12 (by decide) ?_
    refine g_iald C sM_1 (by decide) dX6_nextShow_13 ?_
    refine g_icmp_ge C dX6_nextShow_14 (tgt := 109) (by decide) (fun hc_1001 => ?_) (fun hc_1001 => ?_)
    · replace h := (if_pos hc_1001).symm.trans h
      refine g_iload (j := 4) C dX6_nextShow_109 rfl ?_
      obtain rfl := Option.some.inj h
      exact g_iret rfl C hr rfl dX6_nextShow_111
    · replace h := (if_neg hc_1001).symm.trans h
      refine g_aload_n (j := 0) C dX6_nextShow_17 rfl rfl ?_
      refine g_iload (j := 5) C dX6_nextShow_18 rfl ?_
      obtain ⟨q_1002, hq_1003, h⟩ := bind_isome h
      refine g_vi (ws' := (zW cy ad shM E X)) (As := [.int v5]) (rest := []) (res := q_1002) C (c_X6_stands l D cy ad E X v5 hq_1003) gX6_nextShow_X6_stands rfl hd_X6_stands (zW_get X sM_0) rfl rfl rfl ⟨Nat.le_of_ble_eq_true rfl, Nat.le_of_ble_eq_true rfl⟩ rfl rfl (Nat.le_of_ble_eq_true rfl) ⟨Nat.zero_le _, Nat.zero_le _⟩ dX6_nextShow_20 ?_
      refine g_if_eq C dX6_nextShow_23 (tgt := 63) (by decide) (fun hc_1004 => ?_) (fun hc_1004 => ?_)
      · replace h := (if_pos hc_1004).symm.trans h
        refine g_iconst (v := 0) C dX6_nextShow_63 (by decide) ?_
        refine g_istore (L' := [(6, .int (0 : Int32)), (0, .ref (ad 0)), (1, .int v1), (2, .int v2), (3, .int v3), (4, .int v4), (5, .int v5)]) C dX6_nextShow_64 (by decide) rfl ?_
        refine g_iload (j := 0) C dX6_nextShow_66 rfl ?_
        refine g_if_eq C dX6_nextShow_68 (tgt := 99) (by decide) (fun _ => ?_) (fun h9 => absurd h9 (by decide))
        refine g_iload (j := 5) C dX6_nextShow_99 rfl ?_
        refine g_istore (L' := [(4, .int v4), (6, .int (0 : Int32)), (0, .ref (ad 0)), (1, .int v1), (2, .int v2), (3, .int v3), (5, .int v5)]) C dX6_nextShow_101 (by decide) rfl ?_
        refine g_iinc (k := 6) (L' := [(5, .int (v5 + 1)), (4, .int v4), (6, .int (0 : Int32)), (0, .ref (ad 0)), (1, .int v1), (2, .int v2), (3, .int v3)]) C dX6_nextShow_103 rfl (z_iinc (by decide)) (by decide) rfl ?_
        refine g_goto C dX6_nextShow_106 (tgt := 6) (by decide) ?_
        refine zG_sub (L' := [(0, .ref (ad 0)), (1, .int v1), (2, .int v2), (3, .int v3), (4, .int v4), (5, .int (v5 + 1))]) [3, 4, 5, 6, 1, 0] rfl ?_
        exact ih v4 (v5 + 1) h
      · replace h := (if_neg hc_1004).symm.trans h
        refine g_aload_n (j := 0) C dX6_nextShow_26 rfl rfl ?_
        refine g_iload (j := 5) C dX6_nextShow_27 rfl ?_
        refine g_iconst (v := 0) C dX6_nextShow_29 (by decide) ?_
        obtain ⟨q_1005, hq_1006, h⟩ := bind_isome h
        refine g_vi (ws' := (zW cy ad shM E X)) (As := [.int v5, .int (0 : Int32)]) (rest := []) (res := q_1005) C (c_X6_showAt l D cy ad E X v5 (0 : Int32) hq_1006) gX6_nextShow_X6_showAt rfl hd_X6_showAt (zW_get X sM_0) rfl rfl rfl ⟨Nat.le_of_ble_eq_true rfl, Nat.le_of_ble_eq_true rfl⟩ rfl rfl (Nat.le_of_ble_eq_true rfl) ⟨Nat.zero_le _, Nat.zero_le _⟩ dX6_nextShow_30 ?_
        refine g_iload_n (j := 1) C dX6_nextShow_33 rfl rfl ?_
        refine g_icmp_ne C dX6_nextShow_34 (tgt := 63) (by decide) (fun hc_1007 => ?_) (fun hc_1007 => ?_)
        · replace h := (if_neg hc_1007).symm.trans h
          refine g_iconst (v := 0) C dX6_nextShow_63 (by decide) ?_
          refine g_istore (L' := [(6, .int (0 : Int32)), (0, .ref (ad 0)), (1, .int v1), (2, .int v2), (3, .int v3), (4, .int v4), (5, .int v5)]) C dX6_nextShow_64 (by decide) rfl ?_
          refine g_iload (j := 0) C dX6_nextShow_66 rfl ?_
          refine g_if_eq C dX6_nextShow_68 (tgt := 99) (by decide) (fun _ => ?_) (fun h9 => absurd h9 (by decide))
          refine g_iload (j := 5) C dX6_nextShow_99 rfl ?_
          refine g_istore (L' := [(4, .int v4), (6, .int (0 : Int32)), (0, .ref (ad 0)), (1, .int v1), (2, .int v2), (3, .int v3), (5, .int v5)]) C dX6_nextShow_101 (by decide) rfl ?_
          refine g_iinc (k := 6) (L' := [(5, .int (v5 + 1)), (4, .int v4), (6, .int (0 : Int32)), (0, .ref (ad 0)), (1, .int v1), (2, .int v2), (3, .int v3)]) C dX6_nextShow_103 rfl (z_iinc (by decide)) (by decide) rfl ?_
          refine g_goto C dX6_nextShow_106 (tgt := 6) (by decide) ?_
          refine zG_sub (L' := [(0, .ref (ad 0)), (1, .int v1), (2, .int v2), (3, .int v3), (4, .int v4), (5, .int (v5 + 1))]) [3, 4, 5, 6, 1, 0] rfl ?_
          exact ih v4 (v5 + 1) h
        · replace h := (if_pos hc_1007).symm.trans h
          refine g_aload_n (j := 0) C dX6_nextShow_37 rfl rfl ?_
          refine g_iload (j := 5) C dX6_nextShow_38 rfl ?_
          refine g_iconst (v := 2) C dX6_nextShow_40 (by decide) ?_
          obtain ⟨q_1008, hq_1009, h⟩ := bind_isome h
          refine g_vi (ws' := (zW cy ad shM E X)) (As := [.int v5, .int (2 : Int32)]) (rest := []) (res := q_1008) C (c_X6_showAt l D cy ad E X v5 (2 : Int32) hq_1009) gX6_nextShow_X6_showAt rfl hd_X6_showAt (zW_get X sM_0) rfl rfl rfl ⟨Nat.le_of_ble_eq_true rfl, Nat.le_of_ble_eq_true rfl⟩ rfl rfl (Nat.le_of_ble_eq_true rfl) ⟨Nat.zero_le _, Nat.zero_le _⟩ dX6_nextShow_41 ?_
          refine g_iload_n (j := 2) C dX6_nextShow_44 rfl rfl ?_
          refine g_icmp_ne C dX6_nextShow_45 (tgt := 63) (by decide) (fun hc_1010 => ?_) (fun hc_1010 => ?_)
          · replace h := (if_neg hc_1010).symm.trans h
            refine g_iconst (v := 0) C dX6_nextShow_63 (by decide) ?_
            refine g_istore (L' := [(6, .int (0 : Int32)), (0, .ref (ad 0)), (1, .int v1), (2, .int v2), (3, .int v3), (4, .int v4), (5, .int v5)]) C dX6_nextShow_64 (by decide) rfl ?_
            refine g_iload (j := 0) C dX6_nextShow_66 rfl ?_
            refine g_if_eq C dX6_nextShow_68 (tgt := 99) (by decide) (fun _ => ?_) (fun h9 => absurd h9 (by decide))
            refine g_iload (j := 5) C dX6_nextShow_99 rfl ?_
            refine g_istore (L' := [(4, .int v4), (6, .int (0 : Int32)), (0, .ref (ad 0)), (1, .int v1), (2, .int v2), (3, .int v3), (5, .int v5)]) C dX6_nextShow_101 (by decide) rfl ?_
            refine g_iinc (k := 6) (L' := [(5, .int (v5 + 1)), (4, .int v4), (6, .int (0 : Int32)), (0, .ref (ad 0)), (1, .int v1), (2, .int v2), (3, .int v3)]) C dX6_nextShow_103 rfl (z_iinc (by decide)) (by decide) rfl ?_
            refine g_goto C dX6_nextShow_106 (tgt := 6) (by decide) ?_
            refine zG_sub (L' := [(0, .ref (ad 0)), (1, .int v1), (2, .int v2), (3, .int v3), (4, .int v4), (5, .int (v5 + 1))]) [3, 4, 5, 6, 1, 0] rfl ?_
            exact ih v4 (v5 + 1) h
          · replace h := (if_pos hc_1010).symm.trans h
            refine g_aload_n (j := 0) C dX6_nextShow_48 rfl rfl ?_
            refine g_iload (j := 5) C dX6_nextShow_49 rfl ?_
            refine g_iconst (v := 3) C dX6_nextShow_51 (by decide) ?_
            obtain ⟨q_1011, hq_1012, h⟩ := bind_isome h
            refine g_vi (ws' := (zW cy ad shM E X)) (As := [.int v5, .int (3 : Int32)]) (rest := []) (res := q_1011) C (c_X6_showAt l D cy ad E X v5 (3 : Int32) hq_1012) gX6_nextShow_X6_showAt rfl hd_X6_showAt (zW_get X sM_0) rfl rfl rfl ⟨Nat.le_of_ble_eq_true rfl, Nat.le_of_ble_eq_true rfl⟩ rfl rfl (Nat.le_of_ble_eq_true rfl) ⟨Nat.zero_le _, Nat.zero_le _⟩ dX6_nextShow_52 ?_
            refine g_iload_n (j := 3) C dX6_nextShow_55 rfl rfl ?_
            refine g_icmp_le C dX6_nextShow_56 (tgt := 63) (by decide) (fun hc_1013 => ?_) (fun hc_1013 => ?_)
            · replace h := (if_pos hc_1013).symm.trans h
              refine g_iconst (v := 0) C dX6_nextShow_63 (by decide) ?_
              refine g_istore (L' := [(6, .int (0 : Int32)), (0, .ref (ad 0)), (1, .int v1), (2, .int v2), (3, .int v3), (4, .int v4), (5, .int v5)]) C dX6_nextShow_64 (by decide) rfl ?_
              refine g_iload (j := 0) C dX6_nextShow_66 rfl ?_
              refine g_if_eq C dX6_nextShow_68 (tgt := 99) (by decide) (fun _ => ?_) (fun h9 => absurd h9 (by decide))
              refine g_iload (j := 5) C dX6_nextShow_99 rfl ?_
              refine g_istore (L' := [(4, .int v4), (6, .int (0 : Int32)), (0, .ref (ad 0)), (1, .int v1), (2, .int v2), (3, .int v3), (5, .int v5)]) C dX6_nextShow_101 (by decide) rfl ?_
              refine g_iinc (k := 6) (L' := [(5, .int (v5 + 1)), (4, .int v4), (6, .int (0 : Int32)), (0, .ref (ad 0)), (1, .int v1), (2, .int v2), (3, .int v3)]) C dX6_nextShow_103 rfl (z_iinc (by decide)) (by decide) rfl ?_
              refine g_goto C dX6_nextShow_106 (tgt := 6) (by decide) ?_
              refine zG_sub (L' := [(0, .ref (ad 0)), (1, .int v1), (2, .int v2), (3, .int v3), (4, .int v4), (5, .int (v5 + 1))]) [3, 4, 5, 6, 1, 0] rfl ?_
              exact ih v4 (v5 + 1) h
            · replace h := (if_neg hc_1013).symm.trans h
              refine g_iconst (v := 1) C dX6_nextShow_59 (by decide) ?_
              refine g_goto C dX6_nextShow_60 (tgt := 64) (by decide) ?_
              refine g_istore (L' := [(6, .int (1 : Int32)), (0, .ref (ad 0)), (1, .int v1), (2, .int v2), (3, .int v3), (4, .int v4), (5, .int v5)]) C dX6_nextShow_64 (by decide) rfl ?_
              refine g_iload (j := 0) C dX6_nextShow_66 rfl ?_
              refine g_if_eq C dX6_nextShow_68 (tgt := 99) (by decide) (fun h9 => absurd h9 (by decide)) (fun _ => ?_)
              refine g_iload (j := 5) C dX6_nextShow_71 rfl ?_
              refine g_iconst (v := -1) C dX6_nextShow_73 (by decide) ?_
              refine g_icmp_eq C dX6_nextShow_74 (tgt := 94) (by decide) (fun hc_1014 => ?_) (fun hc_1014 => ?_)
              · replace h := (if_pos hc_1014).symm.trans h
                refine g_iload (j := 6) C dX6_nextShow_94 rfl ?_
                refine g_goto C dX6_nextShow_96 (tgt := 101) (by decide) ?_
                refine g_istore (L' := [(4, .int v5), (6, .int (1 : Int32)), (0, .ref (ad 0)), (1, .int v1), (2, .int v2), (3, .int v3), (5, .int v5)]) C dX6_nextShow_101 (by decide) rfl ?_
                refine g_iinc (k := 6) (L' := [(5, .int (v5 + 1)), (4, .int v5), (6, .int (1 : Int32)), (0, .ref (ad 0)), (1, .int v1), (2, .int v2), (3, .int v3)]) C dX6_nextShow_103 rfl (z_iinc (by decide)) (by decide) rfl ?_
                refine g_goto C dX6_nextShow_106 (tgt := 6) (by decide) ?_
                refine zG_sub (L' := [(0, .ref (ad 0)), (1, .int v1), (2, .int v2), (3, .int v3), (4, .int v5), (5, .int (v5 + 1))]) [3, 4, 5, 6, 1, 0] rfl ?_
                exact ih v5 (v5 + 1) h
              · replace h := (if_neg hc_1014).symm.trans h
                refine g_aload_n (j := 1) C dX6_nextShow_77 rfl rfl ?_
                refine g_iload (j := 6) C dX6_nextShow_78 rfl ?_
                refine g_iconst (v := 3) C dX6_nextShow_80 (by decide) ?_
                obtain ⟨q_1015, hq_1016, h⟩ := bind_isome h
                refine g_vi (ws' := (zW cy ad shM E X)) (As := [.int v5, .int (3 : Int32)]) (rest := []) (res := q_1015) C (c_X6_showAt l D cy ad E X v5 (3 : Int32) hq_1016) gX6_nextShow_X6_showAt rfl hd_X6_showAt (zW_get X sM_0) rfl rfl rfl ⟨Nat.le_of_ble_eq_true rfl, Nat.le_of_ble_eq_true rfl⟩ rfl rfl (Nat.le_of_ble_eq_true rfl) ⟨Nat.zero_le _, Nat.zero_le _⟩ dX6_nextShow_81 ?_
                refine g_aload_n (j := 1) C dX6_nextShow_84 rfl rfl ?_
                refine g_iload (j := 5) C dX6_nextShow_85 rfl ?_
                refine g_iconst (v := 3) C dX6_nextShow_87 (by decide) ?_
                obtain ⟨q_1017, hq_1018, h⟩ := bind_isome h
                refine g_vi (ws' := (zW cy ad shM E X)) (As := [.int v4, .int (3 : Int32)]) (rest := [.int q_1015]) (res := q_1017) C (c_X6_showAt l D cy ad E X v4 (3 : Int32) hq_1018) gX6_nextShow_X6_showAt rfl hd_X6_showAt (zW_get X sM_0) rfl rfl rfl ⟨Nat.le_of_ble_eq_true rfl, Nat.le_of_ble_eq_true rfl⟩ rfl rfl (Nat.le_of_ble_eq_true rfl) ⟨Nat.zero_le _, Nat.zero_le _⟩ dX6_nextShow_88 ?_
                refine g_icmp_ge C dX6_nextShow_91 (tgt := 99) (by decide) (fun hc_1019 => ?_) (fun hc_1019 => ?_)
                · replace h := (if_pos hc_1019).symm.trans h
                  refine g_iload (j := 5) C dX6_nextShow_99 rfl ?_
                  refine g_istore (L' := [(4, .int v4), (6, .int (1 : Int32)), (0, .ref (ad 0)), (1, .int v1), (2, .int v2), (3, .int v3), (5, .int v5)]) C dX6_nextShow_101 (by decide) rfl ?_
                  refine g_iinc (k := 6) (L' := [(5, .int (v5 + 1)), (4, .int v4), (6, .int (1 : Int32)), (0, .ref (ad 0)), (1, .int v1), (2, .int v2), (3, .int v3)]) C dX6_nextShow_103 rfl (z_iinc (by decide)) (by decide) rfl ?_
                  refine g_goto C dX6_nextShow_106 (tgt := 6) (by decide) ?_
                  refine zG_sub (L' := [(0, .ref (ad 0)), (1, .int v1), (2, .int v2), (3, .int v3), (4, .int v4), (5, .int (v5 + 1))]) [3, 4, 5, 6, 1, 0] rfl ?_
                  exact ih v4 (v5 + 1) h
                · replace h := (if_neg hc_1019).symm.trans h
                  refine g_iload (j := 6) C dX6_nextShow_94 rfl ?_
                  refine g_goto C dX6_nextShow_96 (tgt := 101) (by decide) ?_
                  refine g_istore (L' := [(4, .int v5), (6, .int (1 : Int32)), (0, .ref (ad 0)), (1, .int v1), (2, .int v2), (3, .int v3), (5, .int v5)]) C dX6_nextShow_101 (by decide) rfl ?_
                  refine g_iinc (k := 6) (L' := [(5, .int (v5 + 1)), (4, .int v5), (6, .int (1 : Int32)), (0, .ref (ad 0)), (1, .int v1), (2, .int v2), (3, .int v3)]) C dX6_nextShow_103 rfl (z_iinc (by decide)) (by decide) rfl ?_
                  refine g_goto C dX6_nextShow_106 (tgt := 6) (by decide) ?_
                  refine zG_sub (L' := [(0, .ref (ad 0)), (1, .int v1), (2, .int v2), (3, .int v3), (4, .int v5), (5, .int (v5 + 1))]) [3, 4, 5, 6, 1, 0] rfl ?_
                  exact ih v5 (v5 + 1) h
def f_X6_nextShow (X : Nat → Nat → Int32) (v1 v2 v3 : Int32) : Option Int32 := f_X6_nextShow_L6 X v1 v2 v3 zFuel (-1 : Int32) (0 : Int32)
set_option maxRecDepth 100000 in
set_option maxHeartbeats 4000000 in
theorem c_X6_nextShow (l : Launch) (D : va_G) (cy : Nat → ClassId) (ad : Nat → Nat) (E : va_W) (X : Nat → Nat → Int32) (v1 v2 v3 : Int32) {res : Int32} (h : f_X6_nextShow X v1 v2 v3 = some res) : zMi l yX6_nextShow wsX6_nextShow (zrm 3) D (zTy cy) (zW cy ad shM E X) [.ref (ad 0), .int v1, .int v2, .int v3] res (zW cy ad shM E X) := by
  refine zMi.of (cc := cX6_nextShow) (maxL := 7) (ret := (some .int)) (by decide) rfl (Nat.le_of_ble_eq_true rfl) ?_
  intro p e s m below meth c A C hr
  unfold f_X6_nextShow at h
  refine zG_L (L' := [(0, .ref (ad 0)), (1, .int v1), (2, .int v2), (3, .int v3)]) rfl ?_
  refine g_iconst (v := -1) C dX6_nextShow_0 (by decide) ?_
  refine g_istore (L' := [(4, .int (-1 : Int32)), (0, .ref (ad 0)), (1, .int v1), (2, .int v2), (3, .int v3)]) C dX6_nextShow_1 (by decide) rfl ?_
  refine g_iconst (v := 0) C dX6_nextShow_3 (by decide) ?_
  refine g_istore (L' := [(5, .int (0 : Int32)), (4, .int (-1 : Int32)), (0, .ref (ad 0)), (1, .int v1), (2, .int v2), (3, .int v3)]) C dX6_nextShow_4 (by decide) rfl ?_
  refine zG_sub (L' := [(0, .ref (ad 0)), (1, .int v1), (2, .int v2), (3, .int v3), (4, .int (-1 : Int32)), (5, .int (0 : Int32))]) [2, 3, 4, 5, 1, 0] rfl ?_
  exact w_X6_nextShow_L6 l D cy ad E X v1 v2 v3 C hr zFuel (-1 : Int32) (0 : Int32) h
theorem in_X6_written_RX6 : ∀ w ∈ u_ws RX6 TX6 27, w ∈ wsX6_written := by decide +kernel
theorem fl_X6_written_30 : (Cond.fieldLink RX6 30 RX6 (TX6 13).2.1 (TX6 13).2.2.1) ∈ wsX6_written := by decide +kernel
theorem fl_X6_written_36 : (Cond.fieldLink RX6 36 RX6 (TX6 0).2.1 (TX6 0).2.2.1) ∈ wsX6_written := by decide +kernel
theorem fl_X6_written_239 : (Cond.fieldLink RX6 239 RX6 (TX6 14).2.1 (TX6 14).2.2.1) ∈ wsX6_written := by decide +kernel
theorem hd_X6_written : yX6_written.cls = RX6 ∧ yX6_written.cls ≠ "java/lang/invoke/MethodHandle" ∧ yX6_written.cls ≠ "java/lang/invoke/VarHandle" ∧ (parseMethodDescriptor yX6_written.desc).map (fun d => d.parameters.length) = some 1 := by decide +kernel
def f_X6_written (X : Nat → Nat → Int32) (v1 : Int32) : Option (Int32 × (Nat → Nat → Int32)) := (if (f_X6_in v1 (0 : Int32) ((X 0 14) - (1 : Int32))) = 0 then (zlet (f_X6_fails X (1 : Int32)) fun q_6 => some ((q_6.1.toUInt32 % 65536).toInt32, q_6.2)) else (zlet (zU X 0 0 (0 : Int32)) fun X_2 => (if v1 < 0 ∨ 1200 ≤ v1.toNatClampNeg then none else (if ¬ ((X_2 6 v1.toNatClampNeg).toUInt32 % 65536).toInt32 = (X_2 6 v1.toNatClampNeg) then none else some ((X_2 6 v1.toNatClampNeg), X_2)))))
set_option maxRecDepth 100000 in
set_option maxHeartbeats 4000000 in
theorem c_X6_written (l : Launch) (D : va_G) (cy : Nat → ClassId) (ad : Nat → Nat) (E : va_W) (X : Nat → Nat → Int32) (v1 : Int32) {res : Int32 × (Nat → Nat → Int32)} (h : f_X6_written X v1 = some res) : zMi l yX6_written wsX6_written (zrm 2) D (zTy cy) (zW cy ad shM E X) [.ref (ad 0), .int v1] res.1 (zW cy ad shM E res.2) := by
  refine zMi.of (cc := cX6_written) (maxL := 2) (ret := (some .char)) (by decide) rfl (Nat.le_of_ble_eq_true rfl) ?_
  intro p e s m below meth c A C hr
  unfold f_X6_written at h
  refine zG_L (L' := [(0, .ref (ad 0)), (1, .int v1)]) rfl ?_
  refine g_iload_n (j := 1) C dX6_written_0 rfl rfl ?_
  refine g_iconst (v := 0) C dX6_written_1 (by decide) ?_
  refine g_aload_n (j := 0) C dX6_written_2 rfl rfl ?_
  refine g_geti (k := 14) (N := 27) C sM_0 rfl in_X6_written_RX6 (by decide) rfl fl_X6_written_239 rfl dX6_written_3 ?_
  refine g_iconst (v := 1) C dX6_written_6 (by decide) ?_
  refine g_isub C dX6_written_7 ?_
  refine g_si (ws' := (zW cy ad shM E X)) (As := [.int v1, .int (0 : Int32), .int ((X 0 14) - (1 : Int32))]) (rest := []) (res := (f_X6_in v1 (0 : Int32) ((X 0 14) - (1 : Int32)))) C (c_X6_in l D cy (zW cy ad shM E X) v1 (0 : Int32) ((X 0 14) - (1 : Int32))) gX6_written_X6_in rfl hd_X6_in rfl rfl ⟨Nat.le_of_ble_eq_true rfl, Nat.le_of_ble_eq_true rfl⟩ rfl rfl (Nat.le_of_ble_eq_true rfl) ⟨Nat.zero_le _, Nat.zero_le _⟩ dX6_written_8 ?_
  refine g_if_ne C dX6_written_11 (tgt := 21) (by decide) (fun hc_1 => ?_) (fun hc_1 => ?_)
  · replace h := (if_neg hc_1).symm.trans h
    refine g_aload_n (j := 0) C dX6_written_21 rfl rfl ?_
    refine g_iconst (v := 0) C dX6_written_22 (by decide) ?_
    refine g_puti (k := 0) (N := 27) (ty := .int) C sM_0 rfl in_X6_written_RX6 (by decide) rfl fl_X6_written_36 rfl tyX6_ok nmX6 rfl (by decide +kernel) rfl rfl dX6_written_23 ?_
    obtain ⟨X_2, e_3, h⟩ := zlet_ex h
    rw [← e_3]
    refine g_aload_n (j := 0) C dX6_written_26 rfl rfl ?_
    refine g_getr (k := 13) (N := 27) C sM_0 rfl in_X6_written_RX6 (by decide) rfl fl_X6_written_30 rfl dX6_written_27 ?_
    refine g_iload_n (j := 1) C dX6_written_30 rfl rfl ?_
    obtain ⟨hi_4, h⟩ := ite_inone h
    refine g_cald C sM_6 hi_4 dX6_written_31 ?_
    obtain ⟨hg_5, h⟩ := ite_inone h
    obtain rfl := Option.some.inj h
    exact g_iret rfl C hr (z_nc (Decidable.not_not.mp hg_5)) dX6_written_32
  · replace h := (if_pos hc_1).symm.trans h
    refine g_aload_n (j := 0) C dX6_written_14 rfl rfl ?_
    refine g_iconst (v := 1) C dX6_written_15 (by decide) ?_
    obtain ⟨q_6, e_7, h⟩ := zlet_ex h
    refine g_vi (ws' := (zW cy ad shM E q_6.2)) (As := [.int (1 : Int32)]) (rest := []) (res := q_6.1) C ((by rw [e_7]; exact c_X6_fails l D cy ad E X (1 : Int32))) gX6_written_X6_fails rfl hd_X6_fails (zW_get X sM_0) rfl rfl rfl ⟨Nat.le_of_ble_eq_true rfl, Nat.le_of_ble_eq_true rfl⟩ rfl rfl (Nat.le_of_ble_eq_true rfl) ⟨Nat.zero_le _, Nat.zero_le _⟩ dX6_written_16 ?_
    refine g_i2c C dX6_written_19 rfl ?_
    obtain rfl := Option.some.inj h
    exact g_iret rfl C hr (pk_nc _) dX6_written_20
theorem in_X6_append_RX6 : ∀ w ∈ u_ws RX6 TX6 27, w ∈ wsX6_append := by decide +kernel
theorem fl_X6_append_22 : (Cond.fieldLink RX6 22 RX6 (TX6 10).2.1 (TX6 10).2.2.1) ∈ wsX6_append := by decide +kernel
theorem fl_X6_append_274 : (Cond.fieldLink RX6 274 RX6 (TX6 11).2.1 (TX6 11).2.2.1) ∈ wsX6_append := by decide +kernel
theorem hd_X6_append : yX6_append.cls = RX6 ∧ yX6_append.cls ≠ "java/lang/invoke/MethodHandle" ∧ yX6_append.cls ≠ "java/lang/invoke/VarHandle" ∧ (parseMethodDescriptor yX6_append.desc).map (fun d => d.parameters.length) = some 1 := by decide +kernel
def f_X6_append (X : Nat → Nat → Int32) (v1 : Int32) : Option (Int32 × (Nat → Nat → Int32)) := (if (f_X6_in v1 (32 : Int32) (126 : Int32)) = 0 then (zlet (f_X6_fails X (1 : Int32)) fun q_12 => some (q_12.1, q_12.2)) else (if (X 0 11) = (60 : Int32) then (zlet (f_X6_fails X (2 : Int32)) fun q_10 => some (q_10.1, q_10.2)) else (if (X 0 11) < 0 ∨ 60 ≤ (X 0 11).toNatClampNeg then none else (zlet (zU X 5 (X 0 11).toNatClampNeg (vp_nar .char v1)) fun X_4 => (zlet (zU X_4 0 11 ((X_4 0 11) + (1 : Int32))) fun X_6 => (zlet (f_X6_done X_6 (X_6 0 11)) fun q_8 => some (q_8.1, q_8.2)))))))
set_option maxRecDepth 100000 in
set_option maxHeartbeats 4000000 in
theorem c_X6_append (l : Launch) (D : va_G) (cy : Nat → ClassId) (ad : Nat → Nat) (E : va_W) (X : Nat → Nat → Int32) (v1 : Int32) {res : Int32 × (Nat → Nat → Int32)} (h : f_X6_append X v1 = some res) : zMi l yX6_append wsX6_append (zrm 2) D (zTy cy) (zW cy ad shM E X) [.ref (ad 0), .int v1] res.1 (zW cy ad shM E res.2) := by
  refine zMi.of (cc := cX6_append) (maxL := 2) (ret := (some .int)) (by decide) rfl (Nat.le_of_ble_eq_true rfl) ?_
  intro p e s m below meth c A C hr
  unfold f_X6_append at h
  refine zG_L (L' := [(0, .ref (ad 0)), (1, .int v1)]) rfl ?_
  refine g_iload_n (j := 1) C dX6_append_0 rfl rfl ?_
  refine g_bipush (v := 32) C dX6_append_1 (by decide) ?_
  refine g_bipush (v := 126) C dX6_append_3 (by decide) ?_
  refine g_si (ws' := (zW cy ad shM E X)) (As := [.int v1, .int (32 : Int32), .int (126 : Int32)]) (rest := []) (res := (f_X6_in v1 (32 : Int32) (126 : Int32))) C (c_X6_in l D cy (zW cy ad shM E X) v1 (32 : Int32) (126 : Int32)) gX6_append_X6_in rfl hd_X6_in rfl rfl ⟨Nat.le_of_ble_eq_true rfl, Nat.le_of_ble_eq_true rfl⟩ rfl rfl (Nat.le_of_ble_eq_true rfl) ⟨Nat.zero_le _, Nat.zero_le _⟩ dX6_append_5 ?_
  refine g_if_ne C dX6_append_8 (tgt := 17) (by decide) (fun hc_1 => ?_) (fun hc_1 => ?_)
  · replace h := (if_neg hc_1).symm.trans h
    refine g_aload_n (j := 0) C dX6_append_17 rfl rfl ?_
    refine g_geti (k := 11) (N := 27) C sM_0 rfl in_X6_append_RX6 (by decide) rfl fl_X6_append_274 rfl dX6_append_18 ?_
    refine g_bipush (v := 60) C dX6_append_21 (by decide) ?_
    refine g_icmp_ne C dX6_append_23 (tgt := 32) (by decide) (fun hc_2 => ?_) (fun hc_2 => ?_)
    · replace h := (if_neg hc_2).symm.trans h
      refine g_aload_n (j := 0) C dX6_append_32 rfl rfl ?_
      refine g_getr (k := 10) (N := 27) C sM_0 rfl in_X6_append_RX6 (by decide) rfl fl_X6_append_22 rfl dX6_append_33 ?_
      refine g_aload_n (j := 0) C dX6_append_36 rfl rfl ?_
      refine g_geti (k := 11) (N := 27) C sM_0 rfl in_X6_append_RX6 (by decide) rfl fl_X6_append_274 rfl dX6_append_37 ?_
      refine g_iload_n (j := 1) C dX6_append_40 rfl rfl ?_
      obtain ⟨hi_3, h⟩ := ite_inone h
      refine g_cast C sM_5 hi_3 dX6_append_41 ?_
      obtain ⟨X_4, e_5, h⟩ := zlet_ex h
      rw [← e_5]
      refine g_aload_n (j := 0) C dX6_append_42 rfl rfl ?_
      refine g_dup C dX6_append_43 rfl ?_
      refine g_geti (k := 11) (N := 27) C sM_0 rfl in_X6_append_RX6 (by decide) rfl fl_X6_append_274 rfl dX6_append_44 ?_
      refine g_iconst (v := 1) C dX6_append_47 (by decide) ?_
      refine g_iadd C dX6_append_48 ?_
      refine g_puti (k := 11) (N := 27) (ty := .int) C sM_0 rfl in_X6_append_RX6 (by decide) rfl fl_X6_append_274 rfl tyX6_ok nmX6 rfl (by decide +kernel) rfl rfl dX6_append_49 ?_
      obtain ⟨X_6, e_7, h⟩ := zlet_ex h
      rw [← e_7]
      refine g_aload_n (j := 0) C dX6_append_52 rfl rfl ?_
      refine g_aload_n (j := 0) C dX6_append_53 rfl rfl ?_
      refine g_geti (k := 11) (N := 27) C sM_0 rfl in_X6_append_RX6 (by decide) rfl fl_X6_append_274 rfl dX6_append_54 ?_
      obtain ⟨q_8, e_9, h⟩ := zlet_ex h
      refine g_vi (ws' := (zW cy ad shM E q_8.2)) (As := [.int (X_6 0 11)]) (rest := []) (res := q_8.1) C ((by rw [e_9]; exact c_X6_done l D cy ad E X_6 (X_6 0 11))) gX6_append_X6_done rfl hd_X6_done (zW_get X_6 sM_0) rfl rfl rfl ⟨Nat.le_of_ble_eq_true rfl, Nat.le_of_ble_eq_true rfl⟩ rfl rfl (Nat.le_of_ble_eq_true rfl) ⟨Nat.zero_le _, Nat.zero_le _⟩ dX6_append_57 ?_
      obtain rfl := Option.some.inj h
      exact g_iret rfl C hr rfl dX6_append_60
    · replace h := (if_pos hc_2).symm.trans h
      refine g_aload_n (j := 0) C dX6_append_26 rfl rfl ?_
      refine g_iconst (v := 2) C dX6_append_27 (by decide) ?_
      obtain ⟨q_10, e_11, h⟩ := zlet_ex h
      refine g_vi (ws' := (zW cy ad shM E q_10.2)) (As := [.int (2 : Int32)]) (rest := []) (res := q_10.1) C ((by rw [e_11]; exact c_X6_fails l D cy ad E X (2 : Int32))) gX6_append_X6_fails rfl hd_X6_fails (zW_get X sM_0) rfl rfl rfl ⟨Nat.le_of_ble_eq_true rfl, Nat.le_of_ble_eq_true rfl⟩ rfl rfl (Nat.le_of_ble_eq_true rfl) ⟨Nat.zero_le _, Nat.zero_le _⟩ dX6_append_28 ?_
      obtain rfl := Option.some.inj h
      exact g_iret rfl C hr rfl dX6_append_31
  · replace h := (if_pos hc_1).symm.trans h
    refine g_aload_n (j := 0) C dX6_append_11 rfl rfl ?_
    refine g_iconst (v := 1) C dX6_append_12 (by decide) ?_
    obtain ⟨q_12, e_13, h⟩ := zlet_ex h
    refine g_vi (ws' := (zW cy ad shM E q_12.2)) (As := [.int (1 : Int32)]) (rest := []) (res := q_12.1) C ((by rw [e_13]; exact c_X6_fails l D cy ad E X (1 : Int32))) gX6_append_X6_fails rfl hd_X6_fails (zW_get X sM_0) rfl rfl rfl ⟨Nat.le_of_ble_eq_true rfl, Nat.le_of_ble_eq_true rfl⟩ rfl rfl (Nat.le_of_ble_eq_true rfl) ⟨Nat.zero_le _, Nat.zero_le _⟩ dX6_append_13 ?_
    obtain rfl := Option.some.inj h
    exact g_iret rfl C hr rfl dX6_append_16
theorem in_X6_here_RX6 : ∀ w ∈ u_ws RX6 TX6 27, w ∈ wsX6_here := by decide +kernel
theorem fl_X6_here_22 : (Cond.fieldLink RX6 22 RX6 (TX6 10).2.1 (TX6 10).2.2.1) ∈ wsX6_here := by decide +kernel
theorem fl_X6_here_274 : (Cond.fieldLink RX6 274 RX6 (TX6 11).2.1 (TX6 11).2.2.1) ∈ wsX6_here := by decide +kernel
theorem fl_X6_here_277 : (Cond.fieldLink RX6 277 RX6 (TX6 24).2.1 (TX6 24).2.2.1) ∈ wsX6_here := by decide +kernel
theorem hd_X6_here : yX6_here.cls = RX6 ∧ yX6_here.cls ≠ "java/lang/invoke/MethodHandle" ∧ yX6_here.cls ≠ "java/lang/invoke/VarHandle" ∧ (parseMethodDescriptor yX6_here.desc).map (fun d => d.parameters.length) = some 0 := by decide +kernel
def f_X6_here (X : Nat → Nat → Int32) : Option Int32 := (if (X 0 11) ≤ (X 0 24) then some (-1 : Int32) else (if (X 0 24) < 0 ∨ 60 ≤ (X 0 24).toNatClampNeg then none else some (X 5 (X 0 24).toNatClampNeg)))
set_option maxRecDepth 100000 in
set_option maxHeartbeats 4000000 in
theorem c_X6_here (l : Launch) (D : va_G) (cy : Nat → ClassId) (ad : Nat → Nat) (E : va_W) (X : Nat → Nat → Int32) {res : Int32} (h : f_X6_here X = some res) : zMi l yX6_here wsX6_here (zrm 1) D (zTy cy) (zW cy ad shM E X) [.ref (ad 0)] res (zW cy ad shM E X) := by
  refine zMi.of (cc := cX6_here) (maxL := 1) (ret := (some .int)) (by decide) rfl (Nat.le_of_ble_eq_true rfl) ?_
  intro p e s m below meth c A C hr
  unfold f_X6_here at h
  refine zG_L (L' := [(0, .ref (ad 0))]) rfl ?_
  refine g_aload_n (j := 0) C dX6_here_0 rfl rfl ?_
  refine g_geti (k := 24) (N := 27) C sM_0 rfl in_X6_here_RX6 (by decide) rfl fl_X6_here_277 rfl dX6_here_1 ?_
  refine g_aload_n (j := 0) C dX6_here_4 rfl rfl ?_
  refine g_geti (k := 11) (N := 27) C sM_0 rfl in_X6_here_RX6 (by decide) rfl fl_X6_here_274 rfl dX6_here_5 ?_
  refine g_icmp_ge C dX6_here_8 (tgt := 23) (by decide) (fun hc_1 => ?_) (fun hc_1 => ?_)
  · replace h := (if_pos hc_1).symm.trans h
    refine g_iconst (v := -1) C dX6_here_23 (by decide) ?_
    obtain rfl := Option.some.inj h
    exact g_iret rfl C hr rfl dX6_here_24
  · replace h := (if_neg hc_1).symm.trans h
    refine g_aload_n (j := 0) C dX6_here_11 rfl rfl ?_
    refine g_getr (k := 10) (N := 27) C sM_0 rfl in_X6_here_RX6 (by decide) rfl fl_X6_here_22 rfl dX6_here_12 ?_
    refine g_aload_n (j := 0) C dX6_here_15 rfl rfl ?_
    refine g_geti (k := 24) (N := 27) C sM_0 rfl in_X6_here_RX6 (by decide) rfl fl_X6_here_277 rfl dX6_here_16 ?_
    obtain ⟨hi_2, h⟩ := ite_inone h
    refine g_cald C sM_5 hi_2 dX6_here_19 ?_
    refine g_goto C dX6_here_20 (tgt := 24) (by decide) ?_
    obtain rfl := Option.some.inj h
    exact g_iret rfl C hr rfl dX6_here_24
theorem hd_X6_numbersOf : yX6_numbersOf.cls ≠ "java/lang/invoke/MethodHandle" ∧ yX6_numbersOf.cls ≠ "java/lang/invoke/VarHandle" ∧ (parseMethodDescriptor yX6_numbersOf.desc).map (fun d => d.parameters.length) = some 1 := by decide +kernel
def f_X6_numbersOf (v0 : Int32) : Int32 := (if v0 = 0 then (4 : Int32) else (if v0 = (1 : Int32) then (2 : Int32) else (if v0 = (3 : Int32) then (2 : Int32) else (1 : Int32))))
set_option maxRecDepth 100000 in
set_option maxHeartbeats 4000000 in
theorem c_X6_numbersOf (l : Launch) (D : va_G) (cy : Nat → ClassId) (ws : va_W) (v0 : Int32) : zMi l yX6_numbersOf wsX6_numbersOf (zrm 1) D (zTy cy) ws [.int v0] (f_X6_numbersOf v0) ws := by
  refine zMi.of (cc := cX6_numbersOf) (maxL := 1) (ret := (some .int)) (by decide) rfl (Nat.le_of_ble_eq_true rfl) ?_
  intro p e s m below meth c A C hr
  generalize h : f_X6_numbersOf v0 = res
  unfold f_X6_numbersOf at h
  refine zG_L (L' := [(0, .int v0)]) rfl ?_
  refine g_iload_n (j := 0) C dX6_numbersOf_0 rfl rfl ?_
  refine g_if_ne C dX6_numbersOf_1 (tgt := 8) (by decide) (fun hc_1 => ?_) (fun hc_1 => ?_)
  · replace h := (if_neg hc_1).symm.trans h
    refine g_iload_n (j := 0) C dX6_numbersOf_8 rfl rfl ?_
    refine g_iconst (v := 1) C dX6_numbersOf_9 (by decide) ?_
    refine g_icmp_eq C dX6_numbersOf_10 (tgt := 18) (by decide) (fun hc_2 => ?_) (fun hc_2 => ?_)
    · replace h := (if_pos hc_2).symm.trans h
      refine g_iconst (v := 2) C dX6_numbersOf_18 (by decide) ?_
      refine g_goto C dX6_numbersOf_19 (tgt := 23) (by decide) ?_
      subst h
      exact g_iret rfl C hr rfl dX6_numbersOf_23
    · replace h := (if_neg hc_2).symm.trans h
      refine g_iload_n (j := 0) C dX6_numbersOf_13 rfl rfl ?_
      refine g_iconst (v := 3) C dX6_numbersOf_14 (by decide) ?_
      refine g_icmp_ne C dX6_numbersOf_15 (tgt := 22) (by decide) (fun hc_3 => ?_) (fun hc_3 => ?_)
      · replace h := (if_neg hc_3).symm.trans h
        refine g_iconst (v := 1) C dX6_numbersOf_22 (by decide) ?_
        subst h
        exact g_iret rfl C hr rfl dX6_numbersOf_23
      · replace h := (if_pos hc_3).symm.trans h
        refine g_iconst (v := 2) C dX6_numbersOf_18 (by decide) ?_
        refine g_goto C dX6_numbersOf_19 (tgt := 23) (by decide) ?_
        subst h
        exact g_iret rfl C hr rfl dX6_numbersOf_23
  · replace h := (if_pos hc_1).symm.trans h
    refine g_iconst (v := 4) C dX6_numbersOf_4 (by decide) ?_
    refine g_goto C dX6_numbersOf_5 (tgt := 23) (by decide) ?_
    subst h
    exact g_iret rfl C hr rfl dX6_numbersOf_23
