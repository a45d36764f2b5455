/-! laid by wip/whole/mkparts.py -/
theorem hd_X6_isDigit : yX6_isDigit.cls = RX6 ∧ yX6_isDigit.cls ≠ "java/lang/invoke/MethodHandle" ∧ yX6_isDigit.cls ≠ "java/lang/invoke/VarHandle" ∧ (parseMethodDescriptor yX6_isDigit.desc).map (fun d => d.parameters.length) = some 0 := by decide +kernel
def f_X6_isDigit (X : Nat → Nat → Int32) : Option Int32 := ((f_X6_here X).bind fun q_1 => some (f_X6_in q_1 (48 : Int32) (57 : Int32)))
set_option maxRecDepth 100000 in
set_option maxHeartbeats 4000000 in
theorem c_X6_isDigit (l : Launch) (D : va_G) (cy : Nat → ClassId) (ad : Nat → Nat) (E : va_W) (X : Nat → Nat → Int32) {res : Int32} (h : f_X6_isDigit X = some res) : zMi l yX6_isDigit wsX6_isDigit (zrm 2) D (zTy cy) (zW cy ad shM E X) [.ref (ad 0)] res (zW cy ad shM E X) := by
  refine zMi.of (cc := cX6_isDigit) (maxL := 1) (ret := (some .boolean)) (by decide) rfl (Nat.le_of_ble_eq_true rfl) ?_
  intro p e s m below meth c A C hr
  unfold f_X6_isDigit at h
  refine zG_L (L' := [(0, .ref (ad 0))]) rfl ?_
  refine g_aload_n (j := 0) C dX6_isDigit_0 rfl rfl ?_
  obtain ⟨q_1, hq_2, h⟩ := bind_isome h
  refine g_vi (ws' := (zW cy ad shM E X)) (As := []) (rest := []) (res := q_1) C (c_X6_here l D cy ad E X hq_2) gX6_isDigit_X6_here rfl hd_X6_here (zW_get X sM_0) rfl rfl rfl ⟨Nat.le_of_ble_eq_true rfl, Nat.le_of_ble_eq_true rfl⟩ rfl rfl (Nat.le_of_ble_eq_true rfl) ⟨Nat.zero_le _, Nat.zero_le _⟩ dX6_isDigit_1 ?_
  refine g_bipush (v := 48) C dX6_isDigit_4 (by decide) ?_
  refine g_bipush (v := 57) C dX6_isDigit_6 (by decide) ?_
  refine g_si (ws' := (zW cy ad shM E X)) (As := [.int q_1, .int (48 : Int32), .int (57 : Int32)]) (rest := []) (res := (f_X6_in q_1 (48 : Int32) (57 : Int32))) C (c_X6_in l D cy (zW cy ad shM E X) q_1 (48 : Int32) (57 : Int32)) gX6_isDigit_X6_in rfl hd_X6_in rfl rfl ⟨Nat.le_of_ble_eq_true rfl, Nat.le_of_ble_eq_true rfl⟩ rfl rfl (Nat.le_of_ble_eq_true rfl) ⟨Nat.zero_le _, Nat.zero_le _⟩ dX6_isDigit_8 ?_
  obtain rfl := Option.some.inj h
  exact g_iret rfl C hr (z_nb (b_X6_in q_1 (48 : Int32) (57 : Int32))) dX6_isDigit_11
theorem in_X6_readsNumber_RX6 : ∀ w ∈ u_ws RX6 TX6 27, w ∈ wsX6_readsNumber := by decide +kernel
theorem fl_X6_readsNumber_277 : (Cond.fieldLink RX6 277 RX6 (TX6 24).2.1 (TX6 24).2.2.1) ∈ wsX6_readsNumber := by decide +kernel
theorem fl_X6_readsNumber_296 : (Cond.fieldLink RX6 296 RX6 (TX6 25).2.1 (TX6 25).2.2.1) ∈ wsX6_readsNumber := by decide +kernel
theorem hd_X6_readsNumber : yX6_readsNumber.cls = RX6 ∧ yX6_readsNumber.cls ≠ "java/lang/invoke/MethodHandle" ∧ yX6_readsNumber.cls ≠ "java/lang/invoke/VarHandle" ∧ (parseMethodDescriptor yX6_readsNumber.desc).map (fun d => d.parameters.length) = some 0 := by decide +kernel
def f_X6_readsNumber_L25 : Nat → (Nat → Nat → Int32) → Int32 → Int32 → Option (Int32 × (Nat → Nat → Int32))
  | 0, _, _, _ => none
  | fu + 1, X, v1, v2 => (if (X 0 25) = 0 then ((f_X6_isDigit X).bind fun q_1008 => (if q_1008 = 0 then some (v1, X) else (if (3 : Int32) ≤ v2 then some (v1, X) else (if v2 = 0 then ((f_X6_here X).bind fun q_1013 => (zlet (zU X 0 24 ((X 0 24) + (1 : Int32))) fun X_1015 => f_X6_readsNumber_L25 fu X_1015 ((((10 : Int32) * v1) + q_1013) - (48 : Int32)) (v2 + 1))) else (if v1 ≤ 0 then some (v1, X) else ((f_X6_here X).bind fun q_1018 => (zlet (zU X 0 24 ((X 0 24) + (1 : Int32))) fun X_1020 => f_X6_readsNumber_L25 fu X_1020 ((((10 : Int32) * v1) + q_1018) - (48 : Int32)) (v2 + 1)))))))) else some (v1, X))
set_option maxRecDepth 100000 in
set_option maxHeartbeats 4000000 in
theorem w_X6_readsNumber_L25 {p : Program} {e : Env} {s : State} {m : MethodId} {args : Array Value} {below : List Frame} {meth : Method} {c : Code} {A : Nat → Prop} (l : Launch) (D : va_G) (cy : Nat → ClassId) (ad : Nat → Nat) (E : va_W) {res : Int32 × (Nat → Nat → Int32)} (C : zC p s m args meth c cX6_readsNumber 3 RX6 wsX6_readsNumber D (zTy cy) A) (hr : meth.sig.returnType = (some .int)) : ∀ (fu : Nat) (X : Nat → Nat → Int32) (v1 v2 : Int32) (h : f_X6_readsNumber_L25 fu X v1 v2 = some res), zG p l e (headSpec wsX6_readsNumber (zrm 3)).room s m args below meth c 3 D A 0 0 (MQ below (va_Qi (fun (r : Int32) (_ : Unit) => r = res.1) (fun _ t => zB D (zTy cy) A (zW cy ad shM E res.2) t) A) args s 0 0 A) (zW cy ad shM E X) 25 [(0, .ref (ad 0)), (1, .int v1), (2, .int v2)] [] := by
  intro fu
  induction fu with
  | zero => intro X v1 v2 h; simp [f_X6_readsNumber_L25] at h
  | succ fu ih =>
    intro X v1 v2 h
    rw [f_X6_readsNumber_L25] at h
    refine g_aload_n (j := 0) C dX6_readsNumber_25 rfl rfl ?_
    refine g_geti (k := 25) (N := 27) C sM_0 rfl in_X6_readsNumber_RX6 (by decide) rfl fl_X6_readsNumber_296 rfl dX6_readsNumber_26 ?_
    refine g_if_ne C dX6_readsNumber_29 (tgt := 81) (by decide) (fun hc_1007 => ?_) (fun hc_1007 => ?_)
    · replace h := (if_neg hc_1007).symm.trans h
      refine g_iload_n (j := 1) C dX6_readsNumber_81 rfl rfl ?_
      obtain rfl := Option.some.inj h
      exact g_iret rfl C hr rfl dX6_readsNumber_82
    · replace h := (if_pos hc_1007).symm.trans h
      refine g_aload_n (j := 0) C dX6_readsNumber_32 rfl rfl ?_
      obtain ⟨q_1008, hq_1009, h⟩ := bind_isome h
      refine g_vi (ws' := (zW cy ad shM E X)) (As := []) (rest := []) (res := q_1008) C (c_X6_isDigit l D cy ad E X hq_1009) gX6_readsNumber_X6_isDigit rfl hd_X6_isDigit (zW_get X sM_0) rfl rfl rfl ⟨Nat.le_of_ble_eq_true rfl, Nat.le_of_ble_eq_true rfl⟩ rfl rfl (Nat.le_of_ble_eq_true rfl) ⟨Nat.zero_le _, Nat.zero_le _⟩ dX6_readsNumber_33 ?_
      refine g_if_eq C dX6_readsNumber_36 (tgt := 81) (by decide) (fun hc_1010 => ?_) (fun hc_1010 => ?_)
      · replace h := (if_pos hc_1010).symm.trans h
        refine g_iload_n (j := 1) C dX6_readsNumber_81 rfl rfl ?_
        obtain rfl := Option.some.inj h
        exact g_iret rfl C hr rfl dX6_readsNumber_82
      · replace h := (if_neg hc_1010).symm.trans h
        refine g_iload_n (j := 2) C dX6_readsNumber_39 rfl rfl ?_
        refine g_iconst (v := 3) C dX6_readsNumber_40 (by decide) ?_
        refine g_icmp_ge C dX6_readsNumber_41 (tgt := 81) (by decide) (fun hc_1011 => ?_) (fun hc_1011 => ?_)
        · replace h := (if_pos hc_1011).symm.trans h
          refine g_iload_n (j := 1) C dX6_readsNumber_81 rfl rfl ?_
          obtain rfl := Option.some.inj h
          exact g_iret rfl C hr rfl dX6_readsNumber_82
        · replace h := (if_neg hc_1011).symm.trans h
          refine g_iload_n (j := 2) C dX6_readsNumber_44 rfl rfl ?_
          refine g_if_eq C dX6_readsNumber_45 (tgt := 52) (by decide) (fun hc_1012 => ?_) (fun hc_1012 => ?_)
          · replace h := (if_pos hc_1012).symm.trans h
            refine g_bipush (v := 10) C dX6_readsNumber_52 (by decide) ?_
            refine g_iload_n (j := 1) C dX6_readsNumber_54 rfl rfl ?_
            refine g_imul C dX6_readsNumber_55 ?_
            refine g_aload_n (j := 0) C dX6_readsNumber_56 rfl rfl ?_
            obtain ⟨q_1013, hq_1014, h⟩ := bind_isome h
            refine g_vi (ws' := (zW cy ad shM E X)) (As := []) (rest := [.int ((10 : Int32) * v1)]) (res := q_1013) C (c_X6_here l D cy ad E X hq_1014) gX6_readsNumber_X6_here rfl hd_X6_here (zW_get X sM_0) rfl rfl rfl ⟨Nat.le_of_ble_eq_true rfl, Nat.le_of_ble_eq_true rfl⟩ rfl rfl (Nat.le_of_ble_eq_true rfl) ⟨Nat.zero_le _, Nat.zero_le _⟩ dX6_readsNumber_57 ?_
            refine g_iadd C dX6_readsNumber_60 ?_
            refine g_bipush (v := 48) C dX6_readsNumber_61 (by decide) ?_
            refine g_isub C dX6_readsNumber_63 ?_
            refine g_istore_n (L' := [(1, .int ((((10 : Int32) * v1) + q_1013) - (48 : Int32))), (0, .ref (ad 0)), (2, .int v2)]) C dX6_readsNumber_64 rfl (by decide) rfl ?_
            refine g_aload_n (j := 1) C dX6_readsNumber_65 rfl rfl ?_
            refine g_dup C dX6_readsNumber_66 rfl ?_
            refine g_geti (k := 24) (N := 27) C sM_0 rfl in_X6_readsNumber_RX6 (by decide) rfl fl_X6_readsNumber_277 rfl dX6_readsNumber_67 ?_
            refine g_iconst (v := 1) C dX6_readsNumber_70 (by decide) ?_
            refine g_iadd C dX6_readsNumber_71 ?_
            refine g_puti (k := 24) (N := 27) (ty := .int) C sM_0 rfl in_X6_readsNumber_RX6 (by decide) rfl fl_X6_readsNumber_277 rfl tyX6_ok nmX6 rfl (by decide +kernel) rfl rfl dX6_readsNumber_72 ?_
            obtain ⟨X_1015, e_1016, h⟩ := zlet_ex h
            rw [← e_1016]
            refine g_iinc (k := 2) (L' := [(2, .int (v2 + 1)), (1, .int ((((10 : Int32) * v1) + q_1013) - (48 : Int32))), (0, .ref (ad 0))]) C dX6_readsNumber_75 rfl (z_iinc (by decide)) (by decide) rfl ?_
            refine g_goto C dX6_readsNumber_78 (tgt := 25) (by decide) ?_
            refine zG_sub (L' := [(0, .ref (ad 0)), (1, .int ((((10 : Int32) * v1) + q_1013) - (48 : Int32))), (2, .int (v2 + 1))]) [2, 1, 0] rfl ?_
            exact ih X_1015 ((((10 : Int32) * v1) + q_1013) - (48 : Int32)) (v2 + 1) h
          · replace h := (if_neg hc_1012).symm.trans h
            refine g_iload_n (j := 1) C dX6_readsNumber_48 rfl rfl ?_
            refine g_if_le C dX6_readsNumber_49 (tgt := 81) (by decide) (fun hc_1017 => ?_) (fun hc_1017 => ?_)
            · replace h := (if_pos hc_1017).symm.trans h
              refine g_iload_n (j := 1) C dX6_readsNumber_81 rfl rfl ?_
              obtain rfl := Option.some.inj h
              exact g_iret rfl C hr rfl dX6_readsNumber_82
            · replace h := (if_neg hc_1017).symm.trans h
              refine g_bipush (v := 10) C dX6_readsNumber_52 (by decide) ?_
              refine g_iload_n (j := 1) C dX6_readsNumber_54 rfl rfl ?_
              refine g_imul C dX6_readsNumber_55 ?_
              refine g_aload_n (j := 0) C dX6_readsNumber_56 rfl rfl ?_
              obtain ⟨q_1018, hq_1019, h⟩ := bind_isome h
              refine g_vi (ws' := (zW cy ad shM E X)) (As := []) (rest := [.int ((10 : Int32) * v1)]) (res := q_1018) C (c_X6_here l D cy ad E X hq_1019) gX6_readsNumber_X6_here rfl hd_X6_here (zW_get X sM_0) rfl rfl rfl ⟨Nat.le_of_ble_eq_true rfl, Nat.le_of_ble_eq_true rfl⟩ rfl rfl (Nat.le_of_ble_eq_true rfl) ⟨Nat.zero_le _, Nat.zero_le _⟩ dX6_readsNumber_57 ?_
              refine g_iadd C dX6_readsNumber_60 ?_
              refine g_bipush (v := 48) C dX6_readsNumber_61 (by decide) ?_
              refine g_isub C dX6_readsNumber_63 ?_
              refine g_istore_n (L' := [(1, .int ((((10 : Int32) * v1) + q_1018) - (48 : Int32))), (0, .ref (ad 0)), (2, .int v2)]) C dX6_readsNumber_64 rfl (by decide) rfl ?_
              refine g_aload_n (j := 1) C dX6_readsNumber_65 rfl rfl ?_
              refine g_dup C dX6_readsNumber_66 rfl ?_
              refine g_geti (k := 24) (N := 27) C sM_0 rfl in_X6_readsNumber_RX6 (by decide) rfl fl_X6_readsNumber_277 rfl dX6_readsNumber_67 ?_
              refine g_iconst (v := 1) C dX6_readsNumber_70 (by decide) ?_
              refine g_iadd C dX6_readsNumber_71 ?_
              refine g_puti (k := 24) (N := 27) (ty := .int) C sM_0 rfl in_X6_readsNumber_RX6 (by decide) rfl fl_X6_readsNumber_277 rfl tyX6_ok nmX6 rfl (by decide +kernel) rfl rfl dX6_readsNumber_72 ?_
              obtain ⟨X_1020, e_1021, h⟩ := zlet_ex h
              rw [← e_1021]
              refine g_iinc (k := 2) (L' := [(2, .int (v2 + 1)), (1, .int ((((10 : Int32) * v1) + q_1018) - (48 : Int32))), (0, .ref (ad 0))]) C dX6_readsNumber_75 rfl (z_iinc (by decide)) (by decide) rfl ?_
              refine g_goto C dX6_readsNumber_78 (tgt := 25) (by decide) ?_
              refine zG_sub (L' := [(0, .ref (ad 0)), (1, .int ((((10 : Int32) * v1) + q_1018) - (48 : Int32))), (2, .int (v2 + 1))]) [2, 1, 0] rfl ?_
              exact ih X_1020 ((((10 : Int32) * v1) + q_1018) - (48 : Int32)) (v2 + 1) h
def f_X6_readsNumber (X : Nat → Nat → Int32) : Option (Int32 × (Nat → Nat → Int32)) := ((f_X6_isDigit X).bind fun q_1 => (if q_1 = 0 then (if ¬ (((X 0 25) ||| (1 : Int32)) = 0 ∨ ((X 0 25) ||| (1 : Int32)) = 1) then none else (zlet (zU X 0 25 ((X 0 25) ||| (1 : Int32))) fun X_1023 => f_X6_readsNumber_L25 zFuel X_1023 (0 : Int32) (0 : Int32))) else (if ¬ (((X 0 25) ||| (0 : Int32)) = 0 ∨ ((X 0 25) ||| (0 : Int32)) = 1) then none else (zlet (zU X 0 25 ((X 0 25) ||| (0 : Int32))) fun X_5 => f_X6_readsNumber_L25 zFuel X_5 (0 : Int32) (0 : Int32)))))
set_option maxRecDepth 100000 in
set_option maxHeartbeats 4000000 in
theorem c_X6_readsNumber (l : Launch) (D : va_G) (cy : Nat → ClassId) (ad : Nat → Nat) (E : va_W) (X : Nat → Nat → Int32) {res : Int32 × (Nat → Nat → Int32)} (h : f_X6_readsNumber X = some res) : zMi l yX6_readsNumber wsX6_readsNumber (zrm 3) D (zTy cy) (zW cy ad shM E X) [.ref (ad 0)] res.1 (zW cy ad shM E res.2) := by
  refine zMi.of (cc := cX6_readsNumber) (maxL := 3) (ret := (some .int)) (by decide) rfl (Nat.le_of_ble_eq_true rfl) ?_
  intro p e s m below meth c A C hr
  unfold f_X6_readsNumber at h
  refine zG_L (L' := [(0, .ref (ad 0))]) rfl ?_
  refine g_aload_n (j := 0) C dX6_readsNumber_0 rfl rfl ?_
  refine g_dup C dX6_readsNumber_1 rfl ?_
  refine g_geti (k := 25) (N := 27) C sM_0 rfl in_X6_readsNumber_RX6 (by decide) rfl fl_X6_readsNumber_296 rfl dX6_readsNumber_2 ?_
  refine g_aload_n (j := 0) C dX6_readsNumber_5 rfl rfl ?_
  obtain ⟨q_1, hq_2, h⟩ := bind_isome h
  refine g_vi (ws' := (zW cy ad shM E X)) (As := []) (rest := [.int (X 0 25), .ref (ad 0)]) (res := q_1) C (c_X6_isDigit l D cy ad E X hq_2) gX6_readsNumber_X6_isDigit rfl hd_X6_isDigit (zW_get X sM_0) rfl rfl rfl ⟨Nat.le_of_ble_eq_true rfl, Nat.le_of_ble_eq_true rfl⟩ rfl rfl (Nat.le_of_ble_eq_true rfl) ⟨Nat.zero_le _, Nat.zero_le _⟩ dX6_readsNumber_6 ?_
  refine g_if_ne C dX6_readsNumber_9 (tgt := 16) (by decide) (fun hc_3 => ?_) (fun hc_3 => ?_)
  · replace h := (if_neg hc_3).symm.trans h
    refine g_iconst (v := 0) C dX6_readsNumber_16 (by decide) ?_
    refine g_ior C dX6_readsNumber_17 ?_
    obtain ⟨hg_4, h⟩ := ite_inone h
    refine g_puti (k := 25) (N := 27) (ty := .boolean) C sM_0 rfl in_X6_readsNumber_RX6 (by decide) rfl fl_X6_readsNumber_296 rfl tyX6_ok nmX6 rfl (by decide +kernel) (z_nb (Decidable.not_not.mp hg_4)) (z_fb (Decidable.not_not.mp hg_4)) dX6_readsNumber_18 ?_
    obtain ⟨X_5, e_6, h⟩ := zlet_ex h
    rw [← e_6]
    refine g_iconst (v := 0) C dX6_readsNumber_21 (by decide) ?_
    refine g_istore_n (L' := [(1, .int (0 : Int32)), (0, .ref (ad 0))]) C dX6_readsNumber_22 rfl (by decide) rfl ?_
    refine g_iconst (v := 0) C dX6_readsNumber_23 (by decide) ?_
    refine g_istore_n (L' := [(2, .int (0 : Int32)), (1, .int (0 : Int32)), (0, .ref (ad 0))]) C dX6_readsNumber_24 rfl (by decide) rfl ?_
    refine zG_sub (L' := [(0, .ref (ad 0)), (1, .int (0 : Int32)), (2, .int (0 : Int32))]) [2, 1, 0] rfl ?_
    exact w_X6_readsNumber_L25 l D cy ad E C hr zFuel X_5 (0 : Int32) (0 : Int32) h
  · replace h := (if_pos hc_3).symm.trans h
    refine g_iconst (v := 1) C dX6_readsNumber_12 (by decide) ?_
    refine g_goto C dX6_readsNumber_13 (tgt := 17) (by decide) ?_
    refine g_ior C dX6_readsNumber_17 ?_
    obtain ⟨hg_1022, h⟩ := ite_inone h
    refine g_puti (k := 25) (N := 27) (ty := .boolean) C sM_0 rfl in_X6_readsNumber_RX6 (by decide) rfl fl_X6_readsNumber_296 rfl tyX6_ok nmX6 rfl (by decide +kernel) (z_nb (Decidable.not_not.mp hg_1022)) (z_fb (Decidable.not_not.mp hg_1022)) dX6_readsNumber_18 ?_
    obtain ⟨X_1023, e_1024, h⟩ := zlet_ex h
    rw [← e_1024]
    refine g_iconst (v := 0) C dX6_readsNumber_21 (by decide) ?_
    refine g_istore_n (L' := [(1, .int (0 : Int32)), (0, .ref (ad 0))]) C dX6_readsNumber_22 rfl (by decide) rfl ?_
    refine g_iconst (v := 0) C dX6_readsNumber_23 (by decide) ?_
    refine g_istore_n (L' := [(2, .int (0 : Int32)), (1, .int (0 : Int32)), (0, .ref (ad 0))]) C dX6_readsNumber_24 rfl (by decide) rfl ?_
    refine zG_sub (L' := [(0, .ref (ad 0)), (1, .int (0 : Int32)), (2, .int (0 : Int32))]) [2, 1, 0] rfl ?_
    exact w_X6_readsNumber_L25 l D cy ad E C hr zFuel X_1023 (0 : Int32) (0 : Int32) h
theorem in_X6_does_RX6 : ∀ w ∈ u_ws RX6 TX6 27, w ∈ wsX6_does := by decide +kernel
theorem fl_X6_does_33 : (Cond.fieldLink RX6 33 RX6 (TX6 26).2.1 (TX6 26).2.2.1) ∈ wsX6_does := by decide +kernel
theorem fl_X6_does_36 : (Cond.fieldLink RX6 36 RX6 (TX6 0).2.1 (TX6 0).2.2.1) ∈ wsX6_does := by decide +kernel
theorem hd_X6_does : yX6_does.cls = RX6 ∧ yX6_does.cls ≠ "java/lang/invoke/MethodHandle" ∧ yX6_does.cls ≠ "java/lang/invoke/VarHandle" ∧ (parseMethodDescriptor yX6_does.desc).map (fun d => d.parameters.length) = some 1 := by decide +kernel
def f_X6_does (X : Nat → Nat → Int32) (v1 : Int32) : Option (Int32 × (Nat → Nat → Int32)) := (if (v1 + (1 : Int32)) < 0 ∨ 300 ≤ (v1 + (1 : Int32)).toNatClampNeg then none else (if (v1 + (2 : Int32)) < 0 ∨ 300 ≤ (v1 + (2 : Int32)).toNatClampNeg then none else (if v1 < 0 ∨ 300 ≤ v1.toNatClampNeg then none else (if (X 7 v1.toNatClampNeg) = (0 : Int32) then (if (v1 + (3 : Int32)) < 0 ∨ 300 ≤ (v1 + (3 : Int32)).toNatClampNeg then none else (if (v1 + (4 : Int32)) < 0 ∨ 300 ≤ (v1 + (4 : Int32)).toNatClampNeg then none else ((f_X6_plan X (X 7 (v1 + (1 : Int32)).toNatClampNeg) (X 7 (v1 + (2 : Int32)).toNatClampNeg) (X 7 (v1 + (3 : Int32)).toNatClampNeg) (X 7 (v1 + (4 : Int32)).toNatClampNeg)).bind fun q_7 => (if (q_7.2 0 0) = 0 then some ((1 : Int32), q_7.2) else some ((0 : Int32), q_7.2))))) else (if (X 7 v1.toNatClampNeg) = (1 : Int32) then ((f_X6_sell X (X 7 (v1 + (1 : Int32)).toNatClampNeg) (X 7 (v1 + (2 : Int32)).toNatClampNeg)).bind fun q_11 => (if (q_11.2 0 0) = 0 then some ((1 : Int32), q_11.2) else some ((0 : Int32), q_11.2))) else (if (X 7 v1.toNatClampNeg) = (2 : Int32) then ((f_X6_cancel X (X 7 (v1 + (1 : Int32)).toNatClampNeg)).bind fun q_15 => (if (q_15.2 0 0) = 0 then some ((1 : Int32), q_15.2) else some ((0 : Int32), q_15.2))) else (if (X 7 v1.toNatClampNeg) = (3 : Int32) then ((f_X6_fail X (X 7 (v1 + (1 : Int32)).toNatClampNeg) (X 7 (v1 + (2 : Int32)).toNatClampNeg)).bind fun q_19 => (if (q_19.2 0 0) = 0 then some ((1 : Int32), q_19.2) else some ((0 : Int32), q_19.2))) else ((f_X6_advance X (X 7 (v1 + (1 : Int32)).toNatClampNeg)).bind fun q_22 => (if (q_22.2 0 0) = 0 then some ((1 : Int32), q_22.2) else some ((0 : Int32), q_22.2))))))))))
set_option maxRecDepth 100000 in
set_option maxHeartbeats 4000000 in
theorem c_X6_does (l : Launch) (D : va_G) (cy : Nat → ClassId) (ad : Nat → Nat) (E : va_W) (X : Nat → Nat → Int32) (v1 : Int32) {res : Int32 × (Nat → Nat → Int32)} (h : f_X6_does X v1 = some res) : zMi l yX6_does wsX6_does (zrm 11) D (zTy cy) (zW cy ad shM E X) [.ref (ad 0), .int v1] res.1 (zW cy ad shM E res.2) := by
  refine zMi.of (cc := cX6_does) (maxL := 5) (ret := (some .boolean)) (by decide) rfl (Nat.le_of_ble_eq_true rfl) ?_
  intro p e s m below meth c A C hr
  unfold f_X6_does at h
  refine zG_L (L' := [(0, .ref (ad 0)), (1, .int v1)]) rfl ?_
  refine g_aload_n (j := 0) C dX6_does_0 rfl rfl ?_
  refine g_getr (k := 26) (N := 27) C sM_0 rfl in_X6_does_RX6 (by decide) rfl fl_X6_does_33 rfl dX6_does_1 ?_
  refine g_iload_n (j := 1) C dX6_does_4 rfl rfl ?_
  refine g_iconst (v := 1) C dX6_does_5 (by decide) ?_
  refine g_iadd C dX6_does_6 ?_
  obtain ⟨hi_1, h⟩ := ite_inone h
  refine g_iald C sM_7 hi_1 dX6_does_7 ?_
  refine g_istore_n (L' := [(2, .int (X 7 (v1 + (1 : Int32)).toNatClampNeg)), (0, .ref (ad 0)), (1, .int v1)]) C dX6_does_8 rfl (by decide) rfl ?_
  refine g_aload_n (j := 1) C dX6_does_9 rfl rfl ?_
  refine g_getr (k := 26) (N := 27) C sM_0 rfl in_X6_does_RX6 (by decide) rfl fl_X6_does_33 rfl dX6_does_10 ?_
  refine g_iload_n (j := 2) C dX6_does_13 rfl rfl ?_
  refine g_iconst (v := 2) C dX6_does_14 (by decide) ?_
  refine g_iadd C dX6_does_15 ?_
  obtain ⟨hi_2, h⟩ := ite_inone h
  refine g_iald C sM_7 hi_2 dX6_does_16 ?_
  refine g_istore_n (L' := [(3, .int (X 7 (v1 + (2 : Int32)).toNatClampNeg)), (2, .int (X 7 (v1 + (1 : Int32)).toNatClampNeg)), (0, .ref (ad 0)), (1, .int v1)]) C dX6_does_17 rfl (by decide) rfl ?_
  refine g_iconst (v := 0) C dX6_does_18 (by decide) ?_
  refine g_istore (L' := [(4, .int (0 : Int32)), (3, .int (X 7 (v1 + (2 : Int32)).toNatClampNeg)), (2, .int (X 7 (v1 + (1 : Int32)).toNatClampNeg)), (0, .ref (ad 0)), (1, .int v1)]) C dX6_does_19 (by decide) rfl ?_
  refine g_aload_n (j := 3) C dX6_does_21 rfl rfl ?_
  refine g_getr (k := 26) (N := 27) C sM_0 rfl in_X6_does_RX6 (by decide) rfl fl_X6_does_33 rfl dX6_does_22 ?_
  refine g_iload_n (j := 4) C dX6_does_25 rfl rfl ?_
  obtain ⟨hi_3, h⟩ := ite_inone h
  refine g_iald C sM_7 hi_3 dX6_does_26 ?_
  by_cases hc_4 : (X 7 v1.toNatClampNeg) = (0 : Int32)
  · replace h := (if_pos hc_4).symm.trans h
    refine g_tabEq C dX6_does_27 hc_4 (by decide) (by decide) rfl (tgt := 56) (by decide) ?_
    refine g_aload_n (j := 3) C dX6_does_56 rfl rfl ?_
    refine g_iload_n (j := 2) C dX6_does_57 rfl rfl ?_
    refine g_iload_n (j := 1) C dX6_does_58 rfl rfl ?_
    refine g_aload_n (j := 3) C dX6_does_59 rfl rfl ?_
    refine g_getr (k := 26) (N := 27) C sM_0 rfl in_X6_does_RX6 (by decide) rfl fl_X6_does_33 rfl dX6_does_60 ?_
    refine g_iload_n (j := 4) C dX6_does_63 rfl rfl ?_
    refine g_iconst (v := 3) C dX6_does_64 (by decide) ?_
    refine g_iadd C dX6_does_65 ?_
    obtain ⟨hi_5, h⟩ := ite_inone h
    refine g_iald C sM_7 hi_5 dX6_does_66 ?_
    refine g_aload_n (j := 3) C dX6_does_67 rfl rfl ?_
    refine g_getr (k := 26) (N := 27) C sM_0 rfl in_X6_does_RX6 (by decide) rfl fl_X6_does_33 rfl dX6_does_68 ?_
    refine g_iload_n (j := 4) C dX6_does_71 rfl rfl ?_
    refine g_iconst (v := 4) C dX6_does_72 (by decide) ?_
    refine g_iadd C dX6_does_73 ?_
    obtain ⟨hi_6, h⟩ := ite_inone h
    refine g_iald C sM_7 hi_6 dX6_does_74 ?_
    obtain ⟨q_7, hq_8, h⟩ := bind_isome h
    refine g_vi (ws' := (zW cy ad shM E q_7.2)) (As := [.int (X 7 (v1 + (1 : Int32)).toNatClampNeg), .int (X 7 (v1 + (2 : Int32)).toNatClampNeg), .int (X 7 (v1 + (3 : Int32)).toNatClampNeg), .int (X 7 (v1 + (4 : Int32)).toNatClampNeg)]) (rest := []) (res := q_7.1) C (c_X6_plan l D cy ad E X (X 7 (v1 + (1 : Int32)).toNatClampNeg) (X 7 (v1 + (2 : Int32)).toNatClampNeg) (X 7 (v1 + (3 : Int32)).toNatClampNeg) (X 7 (v1 + (4 : Int32)).toNatClampNeg) hq_8) gX6_does_X6_plan rfl hd_X6_plan (zW_get X sM_0) rfl rfl rfl ⟨Nat.le_of_ble_eq_true rfl, Nat.le_of_ble_eq_true rfl⟩ rfl rfl (Nat.le_of_ble_eq_true rfl) ⟨Nat.zero_le _, Nat.zero_le _⟩ dX6_does_75 ?_
    refine g_istore (L' := [(4, .int q_7.1), (3, .int (X 7 (v1 + (2 : Int32)).toNatClampNeg)), (2, .int (X 7 (v1 + (1 : Int32)).toNatClampNeg)), (0, .ref (ad 0)), (1, .int v1)]) C dX6_does_78 (by decide) rfl ?_
    refine g_goto C dX6_does_80 (tgt := 122) (by decide) ?_
    refine g_aload_n (j := 3) C dX6_does_122 rfl rfl ?_
    refine g_geti (k := 0) (N := 27) C sM_0 rfl in_X6_does_RX6 (by decide) rfl fl_X6_does_36 rfl dX6_does_123 ?_
    refine g_if_ne C dX6_does_126 (tgt := 133) (by decide) (fun hc_9 => ?_) (fun hc_9 => ?_)
    · replace h := (if_neg hc_9).symm.trans h
      refine g_iconst (v := 0) C dX6_does_133 (by decide) ?_
      obtain rfl := Option.some.inj h
      exact g_iret rfl C hr (z_nb (Or.inl rfl)) dX6_does_134
    · replace h := (if_pos hc_9).symm.trans h
      refine g_iconst (v := 1) C dX6_does_129 (by decide) ?_
      refine g_goto C dX6_does_130 (tgt := 134) (by decide) ?_
      obtain rfl := Option.some.inj h
      exact g_iret rfl C hr (z_nb (Or.inr rfl)) dX6_does_134
  replace h := (if_neg hc_4).symm.trans h
  by_cases hc_10 : (X 7 v1.toNatClampNeg) = (1 : Int32)
  · replace h := (if_pos hc_10).symm.trans h
    refine g_tabEq C dX6_does_27 hc_10 (by decide) (by decide) rfl (tgt := 83) (by decide) ?_
    refine g_aload_n (j := 3) C dX6_does_83 rfl rfl ?_
    refine g_iload_n (j := 2) C dX6_does_84 rfl rfl ?_
    refine g_iload_n (j := 1) C dX6_does_85 rfl rfl ?_
    obtain ⟨q_11, hq_12, h⟩ := bind_isome h
    refine g_vi (ws' := (zW cy ad shM E q_11.2)) (As := [.int (X 7 (v1 + (1 : Int32)).toNatClampNeg), .int (X 7 (v1 + (2 : Int32)).toNatClampNeg)]) (rest := []) (res := q_11.1) C (c_X6_sell l D cy ad E X (X 7 (v1 + (1 : Int32)).toNatClampNeg) (X 7 (v1 + (2 : Int32)).toNatClampNeg) hq_12) gX6_does_X6_sell rfl hd_X6_sell (zW_get X sM_0) rfl rfl rfl ⟨Nat.le_of_ble_eq_true rfl, Nat.le_of_ble_eq_true rfl⟩ rfl rfl (Nat.le_of_ble_eq_true rfl) ⟨Nat.zero_le _, Nat.zero_le _⟩ dX6_does_86 ?_
    refine g_istore (L' := [(4, .int q_11.1), (3, .int (X 7 (v1 + (2 : Int32)).toNatClampNeg)), (2, .int (X 7 (v1 + (1 : Int32)).toNatClampNeg)), (0, .ref (ad 0)), (1, .int v1)]) C dX6_does_89 (by decide) rfl ?_
    refine g_goto C dX6_does_91 (tgt := 122) (by decide) ?_
    refine g_aload_n (j := 3) C dX6_does_122 rfl rfl ?_
    refine g_geti (k := 0) (N := 27) C sM_0 rfl in_X6_does_RX6 (by decide) rfl fl_X6_does_36 rfl dX6_does_123 ?_
    refine g_if_ne C dX6_does_126 (tgt := 133) (by decide) (fun hc_13 => ?_) (fun hc_13 => ?_)
    · replace h := (if_neg hc_13).symm.trans h
      refine g_iconst (v := 0) C dX6_does_133 (by decide) ?_
      obtain rfl := Option.some.inj h
      exact g_iret rfl C hr (z_nb (Or.inl rfl)) dX6_does_134
    · replace h := (if_pos hc_13).symm.trans h
      refine g_iconst (v := 1) C dX6_does_129 (by decide) ?_
      refine g_goto C dX6_does_130 (tgt := 134) (by decide) ?_
      obtain rfl := Option.some.inj h
      exact g_iret rfl C hr (z_nb (Or.inr rfl)) dX6_does_134
  replace h := (if_neg hc_10).symm.trans h
  by_cases hc_14 : (X 7 v1.toNatClampNeg) = (2 : Int32)
  · replace h := (if_pos hc_14).symm.trans h
    refine g_tabEq C dX6_does_27 hc_14 (by decide) (by decide) rfl (tgt := 94) (by decide) ?_
    refine g_aload_n (j := 3) C dX6_does_94 rfl rfl ?_
    refine g_iload_n (j := 2) C dX6_does_95 rfl rfl ?_
    obtain ⟨q_15, hq_16, h⟩ := bind_isome h
    refine g_vi (ws' := (zW cy ad shM E q_15.2)) (As := [.int (X 7 (v1 + (1 : Int32)).toNatClampNeg)]) (rest := []) (res := q_15.1) C (c_X6_cancel l D cy ad E X (X 7 (v1 + (1 : Int32)).toNatClampNeg) hq_16) gX6_does_X6_cancel rfl hd_X6_cancel (zW_get X sM_0) rfl rfl rfl ⟨Nat.le_of_ble_eq_true rfl, Nat.le_of_ble_eq_true rfl⟩ rfl rfl (Nat.le_of_ble_eq_true rfl) ⟨Nat.zero_le _, Nat.zero_le _⟩ dX6_does_96 ?_
    refine g_istore (L' := [(4, .int q_15.1), (3, .int (X 7 (v1 + (2 : Int32)).toNatClampNeg)), (2, .int (X 7 (v1 + (1 : Int32)).toNatClampNeg)), (0, .ref (ad 0)), (1, .int v1)]) C dX6_does_99 (by decide) rfl ?_
    refine g_goto C dX6_does_101 (tgt := 122) (by decide) ?_
    refine g_aload_n (j := 3) C dX6_does_122 rfl rfl ?_
    refine g_geti (k := 0) (N := 27) C sM_0 rfl in_X6_does_RX6 (by decide) rfl fl_X6_does_36 rfl dX6_does_123 ?_
    refine g_if_ne C dX6_does_126 (tgt := 133) (by decide) (fun hc_17 => ?_) (fun hc_17 => ?_)
    · replace h := (if_neg hc_17).symm.trans h
      refine g_iconst (v := 0) C dX6_does_133 (by decide) ?_
      obtain rfl := Option.some.inj h
      exact g_iret rfl C hr (z_nb (Or.inl rfl)) dX6_does_134
    · replace h := (if_pos hc_17).symm.trans h
      refine g_iconst (v := 1) C dX6_does_129 (by decide) ?_
      refine g_goto C dX6_does_130 (tgt := 134) (by decide) ?_
      obtain rfl := Option.some.inj h
      exact g_iret rfl C hr (z_nb (Or.inr rfl)) dX6_does_134
  replace h := (if_neg hc_14).symm.trans h
  by_cases hc_18 : (X 7 v1.toNatClampNeg) = (3 : Int32)
  · replace h := (if_pos hc_18).symm.trans h
    refine g_tabEq C dX6_does_27 hc_18 (by decide) (by decide) rfl (tgt := 104) (by decide) ?_
    refine g_aload_n (j := 3) C dX6_does_104 rfl rfl ?_
    refine g_iload_n (j := 2) C dX6_does_105 rfl rfl ?_
    refine g_iload_n (j := 1) C dX6_does_106 rfl rfl ?_
    obtain ⟨q_19, hq_20, h⟩ := bind_isome h
    refine g_vi (ws' := (zW cy ad shM E q_19.2)) (As := [.int (X 7 (v1 + (1 : Int32)).toNatClampNeg), .int (X 7 (v1 + (2 : Int32)).toNatClampNeg)]) (rest := []) (res := q_19.1) C (c_X6_fail l D cy ad E X (X 7 (v1 + (1 : Int32)).toNatClampNeg) (X 7 (v1 + (2 : Int32)).toNatClampNeg) hq_20) gX6_does_X6_fail rfl hd_X6_fail (zW_get X sM_0) rfl rfl rfl ⟨Nat.le_of_ble_eq_true rfl, Nat.le_of_ble_eq_true rfl⟩ rfl rfl (Nat.le_of_ble_eq_true rfl) ⟨Nat.zero_le _, Nat.zero_le _⟩ dX6_does_107 ?_
    refine g_istore (L' := [(4, .int q_19.1), (3, .int (X 7 (v1 + (2 : Int32)).toNatClampNeg)), (2, .int (X 7 (v1 + (1 : Int32)).toNatClampNeg)), (0, .ref (ad 0)), (1, .int v1)]) C dX6_does_110 (by decide) rfl ?_
    refine g_goto C dX6_does_112 (tgt := 122) (by decide) ?_
    refine g_aload_n (j := 3) C dX6_does_122 rfl rfl ?_
    refine g_geti (k := 0) (N := 27) C sM_0 rfl in_X6_does_RX6 (by decide) rfl fl_X6_does_36 rfl dX6_does_123 ?_
    refine g_if_ne C dX6_does_126 (tgt := 133) (by decide) (fun hc_21 => ?_) (fun hc_21 => ?_)
    · replace h := (if_neg hc_21).symm.trans h
      refine g_iconst (v := 0) C dX6_does_133 (by decide) ?_
      obtain rfl := Option.some.inj h
      exact g_iret rfl C hr (z_nb (Or.inl rfl)) dX6_does_134
    · replace h := (if_pos hc_21).symm.trans h
      refine g_iconst (v := 1) C dX6_does_129 (by decide) ?_
      refine g_goto C dX6_does_130 (tgt := 134) (by decide) ?_
      obtain rfl := Option.some.inj h
      exact g_iret rfl C hr (z_nb (Or.inr rfl)) dX6_does_134
  replace h := (if_neg hc_18).symm.trans h
  refine g_tabOut C dX6_does_27 (z_tabout_4 (lo := 0) (hi := 3) hc_4 hc_10 hc_14 hc_18 (by decide)) (tgt := 115) (by decide) ?_
  refine g_aload_n (j := 3) C dX6_does_115 rfl rfl ?_
  refine g_iload_n (j := 2) C dX6_does_116 rfl rfl ?_
  obtain ⟨q_22, hq_23, h⟩ := bind_isome h
  refine g_vi (ws' := (zW cy ad shM E q_22.2)) (As := [.int (X 7 (v1 + (1 : Int32)).toNatClampNeg)]) (rest := []) (res := q_22.1) C (c_X6_advance l D cy ad E X (X 7 (v1 + (1 : Int32)).toNatClampNeg) hq_23) gX6_does_X6_advance rfl hd_X6_advance (zW_get X sM_0) rfl rfl rfl ⟨Nat.le_of_ble_eq_true rfl, Nat.le_of_ble_eq_true rfl⟩ rfl rfl (Nat.le_of_ble_eq_true rfl) ⟨Nat.zero_le _, Nat.zero_le _⟩ dX6_does_117 ?_
  refine g_istore (L' := [(4, .int q_22.1), (3, .int (X 7 (v1 + (2 : Int32)).toNatClampNeg)), (2, .int (X 7 (v1 + (1 : Int32)).toNatClampNeg)), (0, .ref (ad 0)), (1, .int v1)]) C dX6_does_120 (by decide) rfl ?_
  refine g_aload_n (j := 3) C dX6_does_122 rfl rfl ?_
  refine g_geti (k := 0) (N := 27) C sM_0 rfl in_X6_does_RX6 (by decide) rfl fl_X6_does_36 rfl dX6_does_123 ?_
  refine g_if_ne C dX6_does_126 (tgt := 133) (by decide) (fun hc_24 => ?_) (fun hc_24 => ?_)
  · replace h := (if_neg hc_24).symm.trans h
    refine g_iconst (v := 0) C dX6_does_133 (by decide) ?_
    obtain rfl := Option.some.inj h
    exact g_iret rfl C hr (z_nb (Or.inl rfl)) dX6_does_134
  · replace h := (if_pos hc_24).symm.trans h
    refine g_iconst (v := 1) C dX6_does_129 (by decide) ?_
    refine g_goto C dX6_does_130 (tgt := 134) (by decide) ?_
    obtain rfl := Option.some.inj h
    exact g_iret rfl C hr (z_nb (Or.inr rfl)) dX6_does_134
theorem in_X6_errorPosition_RX6 : ∀ w ∈ u_ws RX6 TX6 27, w ∈ wsX6_errorPosition := by decide +kernel
theorem fl_X6_errorPosition_26 : (Cond.fieldLink RX6 26 RX6 (TX6 12).2.1 (TX6 12).2.2.1) ∈ wsX6_errorPosition := by decide +kernel
theorem hd_X6_errorPosition : yX6_errorPosition.cls = RX6 ∧ yX6_errorPosition.cls ≠ "java/lang/invoke/MethodHandle" ∧ yX6_errorPosition.cls ≠ "java/lang/invoke/VarHandle" ∧ (parseMethodDescriptor yX6_errorPosition.desc).map (fun d => d.parameters.length) = some 0 := by decide +kernel
def f_X6_errorPosition (X : Nat → Nat → Int32) : Int32 × (Nat → Nat → Int32) := (if (X 0 12) = (-1 : Int32) then (zlet (f_X6_fails X (1 : Int32)) fun q_4 => (q_4.1, q_4.2)) else (zlet (f_X6_done X (X 0 12)) fun q_2 => (q_2.1, q_2.2)))
set_option maxRecDepth 100000 in
set_option maxHeartbeats 4000000 in
theorem c_X6_errorPosition (l : Launch) (D : va_G) (cy : Nat → ClassId) (ad : Nat → Nat) (E : va_W) (X : Nat → Nat → Int32) : zMi l yX6_errorPosition wsX6_errorPosition (zrm 2) D (zTy cy) (zW cy ad shM E X) [.ref (ad 0)] ((f_X6_errorPosition X).1) (zW cy ad shM E (f_X6_errorPosition X).2) := by
  refine zMi.of (cc := cX6_errorPosition) (maxL := 1) (ret := (some .int)) (by decide) rfl (Nat.le_of_ble_eq_true rfl) ?_
  intro p e s m below meth c A C hr
  generalize h : f_X6_errorPosition X = res
  unfold f_X6_errorPosition at h
  refine zG_L (L' := [(0, .ref (ad 0))]) rfl ?_
  refine g_aload_n (j := 0) C dX6_errorPosition_0 rfl rfl ?_
  refine g_geti (k := 12) (N := 27) C sM_0 rfl in_X6_errorPosition_RX6 (by decide) rfl fl_X6_errorPosition_26 rfl dX6_errorPosition_1 ?_
  refine g_iconst (v := -1) C dX6_errorPosition_4 (by decide) ?_
  refine g_icmp_ne C dX6_errorPosition_5 (tgt := 16) (by decide) (fun hc_1 => ?_) (fun hc_1 => ?_)
  · replace h := (if_neg hc_1).symm.trans h
    refine g_aload_n (j := 0) C dX6_errorPosition_16 rfl rfl ?_
    refine g_aload_n (j := 0) C dX6_errorPosition_17 rfl rfl ?_
    refine g_geti (k := 12) (N := 27) C sM_0 rfl in_X6_errorPosition_RX6 (by decide) rfl fl_X6_errorPosition_26 rfl dX6_errorPosition_18 ?_
    obtain ⟨q_2, e_3, h⟩ := zlet_ex h
    refine g_vi (ws' := (zW cy ad shM E q_2.2)) (As := [.int (X 0 12)]) (rest := []) (res := q_2.1) C ((by rw [e_3]; exact c_X6_done l D cy ad E X (X 0 12))) gX6_errorPosition_X6_done rfl hd_X6_done (zW_get X sM_0) rfl rfl rfl ⟨Nat.le_of_ble_eq_true rfl, Nat.le_of_ble_eq_true rfl⟩ rfl rfl (Nat.le_of_ble_eq_true rfl) ⟨Nat.zero_le _, Nat.zero_le _⟩ dX6_errorPosition_21 ?_
    subst h
    exact g_iret rfl C hr rfl dX6_errorPosition_24
  · replace h := (if_pos hc_1).symm.trans h
    refine g_aload_n (j := 0) C dX6_errorPosition_8 rfl rfl ?_
    refine g_iconst (v := 1) C dX6_errorPosition_9 (by decide) ?_
    obtain ⟨q_4, e_5, h⟩ := zlet_ex h
    refine g_vi (ws' := (zW cy ad shM E q_4.2)) (As := [.int (1 : Int32)]) (rest := []) (res := q_4.1) C ((by rw [e_5]; exact c_X6_fails l D cy ad E X (1 : Int32))) gX6_errorPosition_X6_fails rfl hd_X6_fails (zW_get X sM_0) rfl rfl rfl ⟨Nat.le_of_ble_eq_true rfl, Nat.le_of_ble_eq_true rfl⟩ rfl rfl (Nat.le_of_ble_eq_true rfl) ⟨Nat.zero_le _, Nat.zero_le _⟩ dX6_errorPosition_10 ?_
    refine g_goto C dX6_errorPosition_13 (tgt := 24) (by decide) ?_
    subst h
    exact g_iret rfl C hr rfl dX6_errorPosition_24
theorem in_X6_undo_RX6 : ∀ w ∈ u_ws RX6 TX6 27, w ∈ wsX6_undo := by decide +kernel
theorem fl_X6_undo_9 : (Cond.fieldLink RX6 9 RX6 (TX6 1).2.1 (TX6 1).2.2.1) ∈ wsX6_undo := by decide +kernel
theorem fl_X6_undo_13 : (Cond.fieldLink RX6 13 RX6 (TX6 2).2.1 (TX6 2).2.2.1) ∈ wsX6_undo := by decide +kernel
theorem fl_X6_undo_49 : (Cond.fieldLink RX6 49 RX6 (TX6 3).2.1 (TX6 3).2.2.1) ∈ wsX6_undo := by decide +kernel
theorem hd_X6_undo : yX6_undo.cls = RX6 ∧ yX6_undo.cls ≠ "java/lang/invoke/MethodHandle" ∧ yX6_undo.cls ≠ "java/lang/invoke/VarHandle" ∧ (parseMethodDescriptor yX6_undo.desc).map (fun d => d.parameters.length) = some 0 := by decide +kernel
def f_X6_undo (X : Nat → Nat → Int32) : Option (Int32 × (Nat → Nat → Int32)) := (if (X 0 3) = 0 then (zlet (f_X6_fails X (1 : Int32)) fun q_8 => some (q_8.1, q_8.2)) else (zlet (zU X 0 3 ((X 0 3) - (1 : Int32))) fun X_2 => ((f_X6_copy X_2 2 4640 1 580 ((X_2 0 3) * (580 : Int32)) (0 : Int32)).bind fun q_4 => (zlet (f_X6_done q_4 (q_4 0 3)) fun q_6 => some (q_6.1, q_6.2)))))
set_option maxRecDepth 100000 in
set_option maxHeartbeats 4000000 in
theorem c_X6_undo (l : Launch) (D : va_G) (cy : Nat → ClassId) (ad : Nat → Nat) (E : va_W) (X : Nat → Nat → Int32) {res : Int32 × (Nat → Nat → Int32)} (h : f_X6_undo X = some res) : zMi l yX6_undo wsX6_undo (zrm 2) D (zTy cy) (zW cy ad shM E X) [.ref (ad 0)] res.1 (zW cy ad shM E res.2) := by
  refine zMi.of (cc := cX6_undo) (maxL := 1) (ret := (some .int)) (by decide) rfl (Nat.le_of_ble_eq_true rfl) ?_
  intro p e s m below meth c A C hr
  unfold f_X6_undo at h
  refine zG_L (L' := [(0, .ref (ad 0))]) rfl ?_
  refine g_aload_n (j := 0) C dX6_undo_0 rfl rfl ?_
  refine g_geti (k := 3) (N := 27) C sM_0 rfl in_X6_undo_RX6 (by decide) rfl fl_X6_undo_49 rfl dX6_undo_1 ?_
  refine g_if_ne C dX6_undo_4 (tgt := 13) (by decide) (fun hc_1 => ?_) (fun hc_1 => ?_)
  · replace h := (if_neg hc_1).symm.trans h
    refine g_aload_n (j := 0) C dX6_undo_13 rfl rfl ?_
    refine g_dup C dX6_undo_14 rfl ?_
    refine g_geti (k := 3) (N := 27) C sM_0 rfl in_X6_undo_RX6 (by decide) rfl fl_X6_undo_49 rfl dX6_undo_15 ?_
    refine g_iconst (v := 1) C dX6_undo_18 (by decide) ?_
    refine g_isub C dX6_undo_19 ?_
    refine g_puti (k := 3) (N := 27) (ty := .int) C sM_0 rfl in_X6_undo_RX6 (by decide) rfl fl_X6_undo_49 rfl tyX6_ok nmX6 rfl (by decide +kernel) rfl rfl dX6_undo_20 ?_
    obtain ⟨X_2, e_3, h⟩ := zlet_ex h
    rw [← e_3]
    refine g_aload_n (j := 0) C dX6_undo_23 rfl rfl ?_
    refine g_getr (k := 2) (N := 27) C sM_0 rfl in_X6_undo_RX6 (by decide) rfl fl_X6_undo_13 rfl dX6_undo_24 ?_
    refine g_aload_n (j := 0) C dX6_undo_27 rfl rfl ?_
    refine g_geti (k := 3) (N := 27) C sM_0 rfl in_X6_undo_RX6 (by decide) rfl fl_X6_undo_49 rfl dX6_undo_28 ?_
    refine g_sipush (v := 580) C dX6_undo_31 (by decide) ?_
    refine g_imul C dX6_undo_34 ?_
    refine g_aload_n (j := 0) C dX6_undo_35 rfl rfl ?_
    refine g_getr (k := 1) (N := 27) C sM_0 rfl in_X6_undo_RX6 (by decide) rfl fl_X6_undo_9 rfl dX6_undo_36 ?_
    refine g_iconst (v := 0) C dX6_undo_39 (by decide) ?_
    obtain ⟨q_4, hq_5, h⟩ := bind_isome h
    refine g_sv (ws' := (zW cy ad shM E q_4)) (As := [.ref (ad 2), .int ((X_2 0 3) * (580 : Int32)), .ref (ad 1), .int (0 : Int32)]) (rest := []) C (c_X6_copy l D cy ad E X_2 2 4640 1 580 sM_2 (by decide) sM_1 (by decide) ((X_2 0 3) * (580 : Int32)) (0 : Int32) hq_5) gX6_undo_X6_copy rfl hd_X6_copy rfl rfl ⟨Nat.le_of_ble_eq_true rfl, Nat.le_of_ble_eq_true rfl⟩ rfl rfl (Nat.le_of_ble_eq_true rfl) ⟨Nat.zero_le _, Nat.zero_le _⟩ dX6_undo_40 ?_
    refine g_aload_n (j := 0) C dX6_undo_43 rfl rfl ?_
    refine g_aload_n (j := 0) C dX6_undo_44 rfl rfl ?_
    refine g_geti (k := 3) (N := 27) C sM_0 rfl in_X6_undo_RX6 (by decide) rfl fl_X6_undo_49 rfl dX6_undo_45 ?_
    obtain ⟨q_6, e_7, h⟩ := zlet_ex h
    refine g_vi (ws' := (zW cy ad shM E q_6.2)) (As := [.int (q_4 0 3)]) (rest := []) (res := q_6.1) C ((by rw [e_7]; exact c_X6_done l D cy ad E q_4 (q_4 0 3))) gX6_undo_X6_done rfl hd_X6_done (zW_get q_4 sM_0) rfl rfl rfl ⟨Nat.le_of_ble_eq_true rfl, Nat.le_of_ble_eq_true rfl⟩ rfl rfl (Nat.le_of_ble_eq_true rfl) ⟨Nat.zero_le _, Nat.zero_le _⟩ dX6_undo_48 ?_
    obtain rfl := Option.some.inj h
    exact g_iret rfl C hr rfl dX6_undo_51
  · replace h := (if_pos hc_1).symm.trans h
    refine g_aload_n (j := 0) C dX6_undo_7 rfl rfl ?_
    refine g_iconst (v := 1) C dX6_undo_8 (by decide) ?_
    obtain ⟨q_8, e_9, h⟩ := zlet_ex h
    refine g_vi (ws' := (zW cy ad shM E q_8.2)) (As := [.int (1 : Int32)]) (rest := []) (res := q_8.1) C ((by rw [e_9]; exact c_X6_fails l D cy ad E X (1 : Int32))) gX6_undo_X6_fails rfl hd_X6_fails (zW_get X sM_0) rfl rfl rfl ⟨Nat.le_of_ble_eq_true rfl, Nat.le_of_ble_eq_true rfl⟩ rfl rfl (Nat.le_of_ble_eq_true rfl) ⟨Nat.zero_le _, Nat.zero_le _⟩ dX6_undo_9 ?_
    obtain rfl := Option.some.inj h
    exact g_iret rfl C hr rfl dX6_undo_12
theorem in_X6_save_RX6 : ∀ w ∈ u_ws RX6 TX6 27, w ∈ wsX6_save := by decide +kernel
theorem fl_X6_save_9 : (Cond.fieldLink RX6 9 RX6 (TX6 1).2.1 (TX6 1).2.2.1) ∈ wsX6_save := by decide +kernel
theorem fl_X6_save_16 : (Cond.fieldLink RX6 16 RX6 (TX6 4).2.1 (TX6 4).2.2.1) ∈ wsX6_save := by decide +kernel
theorem fl_X6_save_330 : (Cond.fieldLink RX6 330 RX6 (TX6 5).2.1 (TX6 5).2.2.1) ∈ wsX6_save := by decide +kernel
theorem hd_X6_save : yX6_save.cls = RX6 ∧ yX6_save.cls ≠ "java/lang/invoke/MethodHandle" ∧ yX6_save.cls ≠ "java/lang/invoke/VarHandle" ∧ (parseMethodDescriptor yX6_save.desc).map (fun d => d.parameters.length) = some 0 := by decide +kernel
def f_X6_save (X : Nat → Nat → Int32) : Option (Int32 × (Nat → Nat → Int32)) := ((f_X6_copy X 1 580 3 580 (0 : Int32) (0 : Int32)).bind fun q_1 => (zlet (zU q_1 0 5 (1 : Int32)) fun X_3 => (zlet (f_X6_done X_3 (X_3 1 (4 : Int32).toNatClampNeg)) fun q_5 => some (q_5.1, q_5.2))))
set_option maxRecDepth 100000 in
set_option maxHeartbeats 4000000 in
theorem c_X6_save (l : Launch) (D : va_G) (cy : Nat → ClassId) (ad : Nat → Nat) (E : va_W) (X : Nat → Nat → Int32) {res : Int32 × (Nat → Nat → Int32)} (h : f_X6_save X = some res) : zMi l yX6_save wsX6_save (zrm 2) D (zTy cy) (zW cy ad shM E X) [.ref (ad 0)] res.1 (zW cy ad shM E res.2) := by
  refine zMi.of (cc := cX6_save) (maxL := 1) (ret := (some .int)) (by decide) rfl (Nat.le_of_ble_eq_true rfl) ?_
  intro p e s m below meth c A C hr
  unfold f_X6_save at h
  refine zG_L (L' := [(0, .ref (ad 0))]) rfl ?_
  refine g_aload_n (j := 0) C dX6_save_0 rfl rfl ?_
  refine g_getr (k := 1) (N := 27) C sM_0 rfl in_X6_save_RX6 (by decide) rfl fl_X6_save_9 rfl dX6_save_1 ?_
  refine g_iconst (v := 0) C dX6_save_4 (by decide) ?_
  refine g_aload_n (j := 0) C dX6_save_5 rfl rfl ?_
  refine g_getr (k := 4) (N := 27) C sM_0 rfl in_X6_save_RX6 (by decide) rfl fl_X6_save_16 rfl dX6_save_6 ?_
  refine g_iconst (v := 0) C dX6_save_9 (by decide) ?_
  obtain ⟨q_1, hq_2, h⟩ := bind_isome h
  refine g_sv (ws' := (zW cy ad shM E q_1)) (As := [.ref (ad 1), .int (0 : Int32), .ref (ad 3), .int (0 : Int32)]) (rest := []) C (c_X6_copy l D cy ad E X 1 580 3 580 sM_1 (by decide) sM_3 (by decide) (0 : Int32) (0 : Int32) hq_2) gX6_save_X6_copy rfl hd_X6_copy rfl rfl ⟨Nat.le_of_ble_eq_true rfl, Nat.le_of_ble_eq_true rfl⟩ rfl rfl (Nat.le_of_ble_eq_true rfl) ⟨Nat.zero_le _, Nat.zero_le _⟩ dX6_save_10 ?_
  refine g_aload_n (j := 0) C dX6_save_13 rfl rfl ?_
  refine g_iconst (v := 1) C dX6_save_14 (by decide) ?_
  refine g_puti (k := 5) (N := 27) (ty := .boolean) C sM_0 rfl in_X6_save_RX6 (by decide) rfl fl_X6_save_330 rfl tyX6_ok nmX6 rfl (by decide +kernel) (z_nb (Or.inr rfl)) (z_fb (Or.inr rfl)) dX6_save_15 ?_
  obtain ⟨X_3, e_4, h⟩ := zlet_ex h
  rw [← e_4]
  refine g_aload_n (j := 0) C dX6_save_18 rfl rfl ?_
  refine g_aload_n (j := 0) C dX6_save_19 rfl rfl ?_
  refine g_getr (k := 1) (N := 27) C sM_0 rfl in_X6_save_RX6 (by decide) rfl fl_X6_save_9 rfl dX6_save_20 ?_
  refine g_iconst (v := 4) C dX6_save_23 (by decide) ?_
  refine g_iald C sM_1 (by decide) dX6_save_24 ?_
  obtain ⟨q_5, e_6, h⟩ := zlet_ex h
  refine g_vi (ws' := (zW cy ad shM E q_5.2)) (As := [.int (X_3 1 (4 : Int32).toNatClampNeg)]) (rest := []) (res := q_5.1) C ((by rw [e_6]; exact c_X6_done l D cy ad E X_3 (X_3 1 (4 : Int32).toNatClampNeg))) gX6_save_X6_done rfl hd_X6_done (zW_get X_3 sM_0) rfl rfl rfl ⟨Nat.le_of_ble_eq_true rfl, Nat.le_of_ble_eq_true rfl⟩ rfl rfl (Nat.le_of_ble_eq_true rfl) ⟨Nat.zero_le _, Nat.zero_le _⟩ dX6_save_25 ?_
  obtain rfl := Option.some.inj h
  exact g_iret rfl C hr rfl dX6_save_28
theorem in_X6_restore_RX6 : ∀ w ∈ u_ws RX6 TX6 27, w ∈ wsX6_restore := by decide +kernel
theorem fl_X6_restore_9 : (Cond.fieldLink RX6 9 RX6 (TX6 1).2.1 (TX6 1).2.2.1) ∈ wsX6_restore := by decide +kernel
theorem fl_X6_restore_16 : (Cond.fieldLink RX6 16 RX6 (TX6 4).2.1 (TX6 4).2.2.1) ∈ wsX6_restore := by decide +kernel
theorem fl_X6_restore_49 : (Cond.fieldLink RX6 49 RX6 (TX6 3).2.1 (TX6 3).2.2.1) ∈ wsX6_restore := by decide +kernel
theorem fl_X6_restore_330 : (Cond.fieldLink RX6 330 RX6 (TX6 5).2.1 (TX6 5).2.2.1) ∈ wsX6_restore := by decide +kernel
theorem hd_X6_restore : yX6_restore.cls = RX6 ∧ yX6_restore.cls ≠ "java/lang/invoke/MethodHandle" ∧ yX6_restore.cls ≠ "java/lang/invoke/VarHandle" ∧ (parseMethodDescriptor yX6_restore.desc).map (fun d => d.parameters.length) = some 0 := by decide +kernel
def f_X6_restore (X : Nat → Nat → Int32) : Option (Int32 × (Nat → Nat → Int32)) := (if (X 0 5) = 0 then (zlet (f_X6_fails X (1 : Int32)) fun q_8 => some (q_8.1, q_8.2)) else ((f_X6_copy X 3 580 1 580 (0 : Int32) (0 : Int32)).bind fun q_2 => (zlet (zU q_2 0 3 (0 : Int32)) fun X_4 => (zlet (f_X6_done X_4 (X_4 1 (4 : Int32).toNatClampNeg)) fun q_6 => some (q_6.1, q_6.2)))))
set_option maxRecDepth 100000 in
set_option maxHeartbeats 4000000 in
theorem c_X6_restore (l : Launch) (D : va_G) (cy : Nat → ClassId) (ad : Nat → Nat) (E : va_W) (X : Nat → Nat → Int32) {res : Int32 × (Nat → Nat → Int32)} (h : f_X6_restore X = some res) : zMi l yX6_restore wsX6_restore (zrm 2) D (zTy cy) (zW cy ad shM E X) [.ref (ad 0)] res.1 (zW cy ad shM E res.2) := by
  refine zMi.of (cc := cX6_restore) (maxL := 1) (ret := (some .int)) (by decide) rfl (Nat.le_of_ble_eq_true rfl) ?_
  intro p e s m below meth c A C hr
  unfold f_X6_restore at h
  refine zG_L (L' := [(0, .ref (ad 0))]) rfl ?_
  refine g_aload_n (j := 0) C dX6_restore_0 rfl rfl ?_
  refine g_geti (k := 5) (N := 27) C sM_0 rfl in_X6_restore_RX6 (by decide) rfl fl_X6_restore_330 rfl dX6_restore_1 ?_
  refine g_if_ne C dX6_restore_4 (tgt := 13) (by decide) (fun hc_1 => ?_) (fun hc_1 => ?_)
  · replace h := (if_neg hc_1).symm.trans h
    refine g_aload_n (j := 0) C dX6_restore_13 rfl rfl ?_
    refine g_getr (k := 4) (N := 27) C sM_0 rfl in_X6_restore_RX6 (by decide) rfl fl_X6_restore_16 rfl dX6_restore_14 ?_
    refine g_iconst (v := 0) C dX6_restore_17 (by decide) ?_
    refine g_aload_n (j := 0) C dX6_restore_18 rfl rfl ?_
    refine g_getr (k := 1) (N := 27) C sM_0 rfl in_X6_restore_RX6 (by decide) rfl fl_X6_restore_9 rfl dX6_restore_19 ?_
    refine g_iconst (v := 0) C dX6_restore_22 (by decide) ?_
    obtain ⟨q_2, hq_3, h⟩ := bind_isome h
    refine g_sv (ws' := (zW cy ad shM E q_2)) (As := [.ref (ad 3), .int (0 : Int32), .ref (ad 1), .int (0 : Int32)]) (rest := []) C (c_X6_copy l D cy ad E X 3 580 1 580 sM_3 (by decide) sM_1 (by decide) (0 : Int32) (0 : Int32) hq_3) gX6_restore_X6_copy rfl hd_X6_copy rfl rfl ⟨Nat.le_of_ble_eq_true rfl, Nat.le_of_ble_eq_true rfl⟩ rfl rfl (Nat.le_of_ble_eq_true rfl) ⟨Nat.zero_le _, Nat.zero_le _⟩ dX6_restore_23 ?_
    refine g_aload_n (j := 0) C dX6_restore_26 rfl rfl ?_
    refine g_iconst (v := 0) C dX6_restore_27 (by decide) ?_
    refine g_puti (k := 3) (N := 27) (ty := .int) C sM_0 rfl in_X6_restore_RX6 (by decide) rfl fl_X6_restore_49 rfl tyX6_ok nmX6 rfl (by decide +kernel) rfl rfl dX6_restore_28 ?_
    obtain ⟨X_4, e_5, h⟩ := zlet_ex h
    rw [← e_5]
    refine g_aload_n (j := 0) C dX6_restore_31 rfl rfl ?_
    refine g_aload_n (j := 0) C dX6_restore_32 rfl rfl ?_
    refine g_getr (k := 1) (N := 27) C sM_0 rfl in_X6_restore_RX6 (by decide) rfl fl_X6_restore_9 rfl dX6_restore_33 ?_
    refine g_iconst (v := 4) C dX6_restore_36 (by decide) ?_
    refine g_iald C sM_1 (by decide) dX6_restore_37 ?_
    obtain ⟨q_6, e_7, h⟩ := zlet_ex h
    refine g_vi (ws' := (zW cy ad shM E q_6.2)) (As := [.int (X_4 1 (4 : Int32).toNatClampNeg)]) (rest := []) (res := q_6.1) C ((by rw [e_7]; exact c_X6_done l D cy ad E X_4 (X_4 1 (4 : Int32).toNatClampNeg))) gX6_restore_X6_done rfl hd_X6_done (zW_get X_4 sM_0) rfl rfl rfl ⟨Nat.le_of_ble_eq_true rfl, Nat.le_of_ble_eq_true rfl⟩ rfl rfl (Nat.le_of_ble_eq_true rfl) ⟨Nat.zero_le _, Nat.zero_le _⟩ dX6_restore_38 ?_
    obtain rfl := Option.some.inj h
    exact g_iret rfl C hr rfl dX6_restore_41
  · replace h := (if_pos hc_1).symm.trans h
    refine g_aload_n (j := 0) C dX6_restore_7 rfl rfl ?_
    refine g_iconst (v := 1) C dX6_restore_8 (by decide) ?_
    obtain ⟨q_8, e_9, h⟩ := zlet_ex h
    refine g_vi (ws' := (zW cy ad shM E q_8.2)) (As := [.int (1 : Int32)]) (rest := []) (res := q_8.1) C ((by rw [e_9]; exact c_X6_fails l D cy ad E X (1 : Int32))) gX6_restore_X6_fails rfl hd_X6_fails (zW_get X sM_0) rfl rfl rfl ⟨Nat.le_of_ble_eq_true rfl, Nat.le_of_ble_eq_true rfl⟩ rfl rfl (Nat.le_of_ble_eq_true rfl) ⟨Nat.zero_le _, Nat.zero_le _⟩ dX6_restore_9 ?_
    obtain rfl := Option.some.inj h
    exact g_iret rfl C hr rfl dX6_restore_12
