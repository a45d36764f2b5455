/-! laid by wip/whole/mkparts.py -/
theorem in_X6_thrown_RX6 : ∀ w ∈ u_ws RX6 TX6 27, w ∈ wsX6_thrown := by decide +kernel
theorem fl_X6_thrown_36 : (Cond.fieldLink RX6 36 RX6 (TX6 0).2.1 (TX6 0).2.2.1) ∈ wsX6_thrown := by decide +kernel
theorem hd_X6_thrown : yX6_thrown.cls = RX6 ∧ yX6_thrown.cls ≠ "java/lang/invoke/MethodHandle" ∧ yX6_thrown.cls ≠ "java/lang/invoke/VarHandle" ∧ (parseMethodDescriptor yX6_thrown.desc).map (fun d => d.parameters.length) = some 0 := by decide +kernel
def f_X6_thrown (X : Nat → Nat → Int32) : Int32 := (X 0 0)
set_option maxRecDepth 100000 in
set_option maxHeartbeats 4000000 in
theorem c_X6_thrown (l : Launch) (D : va_G) (cy : Nat → ClassId) (ad : Nat → Nat) (E : va_W) (X : Nat → Nat → Int32) : zMi l yX6_thrown wsX6_thrown (zrm 1) D (zTy cy) (zW cy ad shM E X) [.ref (ad 0)] (f_X6_thrown X) (zW cy ad shM E X) := by
  refine zMi.of (cc := cX6_thrown) (maxL := 1) (ret := (some .int)) (by decide) rfl (Nat.le_of_ble_eq_true rfl) ?_
  intro p e s m below meth c A C hr
  generalize h : f_X6_thrown X = res
  unfold f_X6_thrown at h
  refine zG_L (L' := [(0, .ref (ad 0))]) rfl ?_
  refine g_aload_n (j := 0) C dX6_thrown_0 rfl rfl ?_
  refine g_geti (k := 0) (N := 27) C sM_0 rfl in_X6_thrown_RX6 (by decide) rfl fl_X6_thrown_36 rfl dX6_thrown_1 ?_
  subst h
  exact g_iret rfl C hr rfl dX6_thrown_4
theorem hd_X6_in : yX6_in.cls ≠ "java/lang/invoke/MethodHandle" ∧ yX6_in.cls ≠ "java/lang/invoke/VarHandle" ∧ (parseMethodDescriptor yX6_in.desc).map (fun d => d.parameters.length) = some 3 := by decide +kernel
def f_X6_in (v0 v1 v2 : Int32) : Int32 := (if v0 < v1 then (0 : Int32) else (if v2 < v0 then (0 : Int32) else (1 : Int32)))
theorem b_X6_in (v0 v1 v2 : Int32) : f_X6_in v0 v1 v2 = 0 ∨ f_X6_in v0 v1 v2 = 1 := by
  unfold f_X6_in
  repeat' split
  all_goals first | exact Or.inl rfl | exact Or.inr rfl
set_option maxRecDepth 100000 in
set_option maxHeartbeats 4000000 in
theorem c_X6_in (l : Launch) (D : va_G) (cy : Nat → ClassId) (ws : va_W) (v0 v1 v2 : Int32) : zMi l yX6_in wsX6_in (zrm 1) D (zTy cy) ws [.int v0, .int v1, .int v2] (f_X6_in v0 v1 v2) ws := by
  refine zMi.of (cc := cX6_in) (maxL := 3) (ret := (some .boolean)) (by decide) rfl (Nat.le_of_ble_eq_true rfl) ?_
  intro p e s m below meth c A C hr
  generalize h : f_X6_in v0 v1 v2 = res
  unfold f_X6_in at h
  refine zG_L (L' := [(0, .int v0), (1, .int v1), (2, .int v2)]) rfl ?_
  refine g_iload_n (j := 0) C dX6_in_0 rfl rfl ?_
  refine g_iload_n (j := 1) C dX6_in_1 rfl rfl ?_
  refine g_icmp_lt C dX6_in_2 (tgt := 14) (by decide) (fun hc_1 => ?_) (fun hc_1 => ?_)
  · replace h := (if_pos hc_1).symm.trans h
    refine g_iconst (v := 0) C dX6_in_14 (by decide) ?_
    subst h
    exact g_iret rfl C hr (z_nb (Or.inl rfl)) dX6_in_15
  · replace h := (if_neg hc_1).symm.trans h
    refine g_iload_n (j := 0) C dX6_in_5 rfl rfl ?_
    refine g_iload_n (j := 2) C dX6_in_6 rfl rfl ?_
    refine g_icmp_gt C dX6_in_7 (tgt := 14) (by decide) (fun hc_2 => ?_) (fun hc_2 => ?_)
    · replace h := (if_pos hc_2).symm.trans h
      refine g_iconst (v := 0) C dX6_in_14 (by decide) ?_
      subst h
      exact g_iret rfl C hr (z_nb (Or.inl rfl)) dX6_in_15
    · replace h := (if_neg hc_2).symm.trans h
      refine g_iconst (v := 1) C dX6_in_10 (by decide) ?_
      refine g_goto C dX6_in_11 (tgt := 15) (by decide) ?_
      subst h
      exact g_iret rfl C hr (z_nb (Or.inr rfl)) dX6_in_15
theorem in_X6_fails_RX6 : ∀ w ∈ u_ws RX6 TX6 27, w ∈ wsX6_fails := by decide +kernel
theorem fl_X6_fails_36 : (Cond.fieldLink RX6 36 RX6 (TX6 0).2.1 (TX6 0).2.2.1) ∈ wsX6_fails := by decide +kernel
theorem hd_X6_fails : yX6_fails.cls = RX6 ∧ yX6_fails.cls ≠ "java/lang/invoke/MethodHandle" ∧ yX6_fails.cls ≠ "java/lang/invoke/VarHandle" ∧ (parseMethodDescriptor yX6_fails.desc).map (fun d => d.parameters.length) = some 1 := by decide +kernel
def f_X6_fails (X : Nat → Nat → Int32) (v1 : Int32) : Int32 × (Nat → Nat → Int32) := (zlet (zU X 0 0 v1) fun X_1 => ((0 : Int32), X_1))
set_option maxRecDepth 100000 in
set_option maxHeartbeats 4000000 in
theorem c_X6_fails (l : Launch) (D : va_G) (cy : Nat → ClassId) (ad : Nat → Nat) (E : va_W) (X : Nat → Nat → Int32) (v1 : Int32) : zMi l yX6_fails wsX6_fails (zrm 1) D (zTy cy) (zW cy ad shM E X) [.ref (ad 0), .int v1] ((f_X6_fails X v1).1) (zW cy ad shM E (f_X6_fails X v1).2) := by
  refine zMi.of (cc := cX6_fails) (maxL := 2) (ret := (some .int)) (by decide) rfl (Nat.le_of_ble_eq_true rfl) ?_
  intro p e s m below meth c A C hr
  generalize h : f_X6_fails X v1 = res
  unfold f_X6_fails at h
  refine zG_L (L' := [(0, .ref (ad 0)), (1, .int v1)]) rfl ?_
  refine g_aload_n (j := 0) C dX6_fails_0 rfl rfl ?_
  refine g_iload_n (j := 1) C dX6_fails_1 rfl rfl ?_
  refine g_puti (k := 0) (N := 27) (ty := .int) C sM_0 rfl in_X6_fails_RX6 (by decide) rfl fl_X6_fails_36 rfl tyX6_ok nmX6 rfl (by decide +kernel) rfl rfl dX6_fails_2 ?_
  obtain ⟨X_1, e_2, h⟩ := zlet_ex h
  rw [← e_2]
  refine g_iconst (v := 0) C dX6_fails_5 (by decide) ?_
  subst h
  exact g_iret rfl C hr rfl dX6_fails_6
theorem in_X6_done_RX6 : ∀ w ∈ u_ws RX6 TX6 27, w ∈ wsX6_done := by decide +kernel
theorem fl_X6_done_36 : (Cond.fieldLink RX6 36 RX6 (TX6 0).2.1 (TX6 0).2.2.1) ∈ wsX6_done := by decide +kernel
theorem hd_X6_done : yX6_done.cls = RX6 ∧ yX6_done.cls ≠ "java/lang/invoke/MethodHandle" ∧ yX6_done.cls ≠ "java/lang/invoke/VarHandle" ∧ (parseMethodDescriptor yX6_done.desc).map (fun d => d.parameters.length) = some 1 := by decide +kernel
def f_X6_done (X : Nat → Nat → Int32) (v1 : Int32) : Int32 × (Nat → Nat → Int32) := (zlet (zU X 0 0 (0 : Int32)) fun X_1 => (v1, X_1))
set_option maxRecDepth 100000 in
set_option maxHeartbeats 4000000 in
theorem c_X6_done (l : Launch) (D : va_G) (cy : Nat → ClassId) (ad : Nat → Nat) (E : va_W) (X : Nat → Nat → Int32) (v1 : Int32) : zMi l yX6_done wsX6_done (zrm 1) D (zTy cy) (zW cy ad shM E X) [.ref (ad 0), .int v1] ((f_X6_done X v1).1) (zW cy ad shM E (f_X6_done X v1).2) := by
  refine zMi.of (cc := cX6_done) (maxL := 2) (ret := (some .int)) (by decide) rfl (Nat.le_of_ble_eq_true rfl) ?_
  intro p e s m below meth c A C hr
  generalize h : f_X6_done X v1 = res
  unfold f_X6_done at h
  refine zG_L (L' := [(0, .ref (ad 0)), (1, .int v1)]) rfl ?_
  refine g_aload_n (j := 0) C dX6_done_0 rfl rfl ?_
  refine g_iconst (v := 0) C dX6_done_1 (by decide) ?_
  refine g_puti (k := 0) (N := 27) (ty := .int) C sM_0 rfl in_X6_done_RX6 (by decide) rfl fl_X6_done_36 rfl tyX6_ok nmX6 rfl (by decide +kernel) rfl rfl dX6_done_2 ?_
  obtain ⟨X_1, e_2, h⟩ := zlet_ex h
  rw [← e_2]
  refine g_iload_n (j := 1) C dX6_done_5 rfl rfl ?_
  subst h
  exact g_iret rfl C hr rfl dX6_done_6
theorem in_X6_refuses_RX6 : ∀ w ∈ u_ws RX6 TX6 27, w ∈ wsX6_refuses := by decide +kernel
theorem fl_X6_refuses_39 : (Cond.fieldLink RX6 39 RX6 (TX6 8).2.1 (TX6 8).2.2.1) ∈ wsX6_refuses := by decide +kernel
theorem fl_X6_refuses_42 : (Cond.fieldLink RX6 42 RX6 (TX6 9).2.1 (TX6 9).2.2.1) ∈ wsX6_refuses := by decide +kernel
theorem hd_X6_refuses : yX6_refuses.cls = RX6 ∧ yX6_refuses.cls ≠ "java/lang/invoke/MethodHandle" ∧ yX6_refuses.cls ≠ "java/lang/invoke/VarHandle" ∧ (parseMethodDescriptor yX6_refuses.desc).map (fun d => d.parameters.length) = some 3 := by decide +kernel
def f_X6_refuses (X : Nat → Nat → Int32) (v1 v2 v3 : Int32) : Int32 × (Nat → Nat → Int32) := (zlet (zU X 0 8 v1) fun X_1 => (zlet (zU X_1 0 9 v2) fun X_3 => (zlet (f_X6_fails X_3 v3) fun q_5 => (q_5.1, q_5.2))))
set_option maxRecDepth 100000 in
set_option maxHeartbeats 4000000 in
theorem c_X6_refuses (l : Launch) (D : va_G) (cy : Nat → ClassId) (ad : Nat → Nat) (E : va_W) (X : Nat → Nat → Int32) (v1 v2 v3 : Int32) : zMi l yX6_refuses wsX6_refuses (zrm 2) D (zTy cy) (zW cy ad shM E X) [.ref (ad 0), .int v1, .int v2, .int v3] ((f_X6_refuses X v1 v2 v3).1) (zW cy ad shM E (f_X6_refuses X v1 v2 v3).2) := by
  refine zMi.of (cc := cX6_refuses) (maxL := 4) (ret := (some .int)) (by decide) rfl (Nat.le_of_ble_eq_true rfl) ?_
  intro p e s m below meth c A C hr
  generalize h : f_X6_refuses X v1 v2 v3 = res
  unfold f_X6_refuses at h
  refine zG_L (L' := [(0, .ref (ad 0)), (1, .int v1), (2, .int v2), (3, .int v3)]) rfl ?_
  refine g_aload_n (j := 0) C dX6_refuses_0 rfl rfl ?_
  refine g_iload_n (j := 1) C dX6_refuses_1 rfl rfl ?_
  refine g_puti (k := 8) (N := 27) (ty := .int) C sM_0 rfl in_X6_refuses_RX6 (by decide) rfl fl_X6_refuses_39 rfl tyX6_ok nmX6 rfl (by decide +kernel) rfl rfl dX6_refuses_2 ?_
  obtain ⟨X_1, e_2, h⟩ := zlet_ex h
  rw [← e_2]
  refine g_aload_n (j := 0) C dX6_refuses_5 rfl rfl ?_
  refine g_iload_n (j := 2) C dX6_refuses_6 rfl rfl ?_
  refine g_puti (k := 9) (N := 27) (ty := .int) C sM_0 rfl in_X6_refuses_RX6 (by decide) rfl fl_X6_refuses_42 rfl tyX6_ok nmX6 rfl (by decide +kernel) rfl rfl dX6_refuses_7 ?_
  obtain ⟨X_3, e_4, h⟩ := zlet_ex h
  rw [← e_4]
  refine g_aload_n (j := 0) C dX6_refuses_10 rfl rfl ?_
  refine g_iload_n (j := 3) C dX6_refuses_11 rfl rfl ?_
  obtain ⟨q_5, e_6, h⟩ := zlet_ex h
  refine g_vi (ws' := (zW cy ad shM E q_5.2)) (As := [.int v3]) (rest := []) (res := q_5.1) C ((by rw [e_6]; exact c_X6_fails l D cy ad E X_3 v3)) gX6_refuses_X6_fails rfl hd_X6_fails (zW_get X_3 sM_0) rfl rfl rfl ⟨Nat.le_of_ble_eq_true rfl, Nat.le_of_ble_eq_true rfl⟩ rfl rfl (Nat.le_of_ble_eq_true rfl) ⟨Nat.zero_le _, Nat.zero_le _⟩ dX6_refuses_12 ?_
  subst h
  exact g_iret rfl C hr rfl dX6_refuses_15
theorem hd_X6_copy : yX6_copy.cls ≠ "java/lang/invoke/MethodHandle" ∧ yX6_copy.cls ≠ "java/lang/invoke/VarHandle" ∧ (parseMethodDescriptor yX6_copy.desc).map (fun d => d.parameters.length) = some 4 := by decide +kernel
def f_X6_copy_L3 (r0 n0 : Nat) (r1 n1 : Nat) (v1 : Int32) (v3 : Int32) : Nat → (Nat → Nat → Int32) → Int32 → Option (Nat → Nat → Int32)
  | 0, _, _ => none
  | fu + 1, X, v4 => (if (580 : Int32) ≤ v4 then some X else (if (v1 + v4) < 0 ∨ n0 ≤ (v1 + v4).toNatClampNeg then none else (if (v3 + v4) < 0 ∨ n1 ≤ (v3 + v4).toNatClampNeg then none else (zlet (zU X r1 (v3 + v4).toNatClampNeg (X r0 (v1 + v4).toNatClampNeg)) fun X_1004 => f_X6_copy_L3 r0 n0 r1 n1 v1 v3 fu X_1004 (v4 + 1)))))
set_option maxRecDepth 100000 in
set_option maxHeartbeats 4000000 in
theorem w_X6_copy_L3 {p : Program} {e : Env} {s : State} {m : MethodId} {args : Array Value} {below : List Frame} {meth : Method} {c : Code} {A : Nat → Prop} (l : Launch) (D : va_G) (cy : Nat → ClassId) (ad : Nat → Nat) (E : va_W) (r0 n0 : Nat) (hs_r0 : shM[r0]? = some (.inl (0, n0))) (hn_r0 : n0 < 2 ^ 31) (r1 n1 : Nat) (hs_r1 : shM[r1]? = some (.inl (0, n1))) (hn_r1 : n1 < 2 ^ 31) (v1 : Int32) (v3 : Int32) {res : (Nat → Nat → Int32)} (C : zC p s m args meth c cX6_copy 5 RX6 wsX6_copy D (zTy cy) A) (hr : meth.sig.returnType = none) : ∀ (fu : Nat) (X : Nat → Nat → Int32) (v4 : Int32) (h : f_X6_copy_L3 r0 n0 r1 n1 v1 v3 fu X v4 = some res), zG p l e (headSpec wsX6_copy (zrm 1)).room s m args below meth c 5 D A 0 0 (MQ below (va_Qv (fun (_ : Unit) => True) (fun _ t => zB D (zTy cy) A (zW cy ad shM E res) t) A) args s 0 0 A) (zW cy ad shM E X) 3 [(0, .ref (ad r0)), (1, .int v1), (2, .ref (ad r1)), (3, .int v3), (4, .int v4)] [] := by
  intro fu
  induction fu with
  | zero => intro X v4 h; simp [f_X6_copy_L3] at h
  | succ fu ih =>
    intro X v4 h
    rw [f_X6_copy_L3] at h
    refine g_iload (j := 4) C dX6_copy_3 rfl ?_
    refine g_sipush (v := 580) C dX6_copy_5 (by decide) ?_
    refine g_icmp_ge C dX6_copy_8 (tgt := 29) (by decide) (fun hc_1001 => ?_) (fun hc_1001 => ?_)
    · replace h := (if_pos hc_1001).symm.trans h
      obtain rfl := Option.some.inj h
      exact g_vret rfl C hr dX6_copy_29
    · replace h := (if_neg hc_1001).symm.trans h
      refine g_aload_n (j := 2) C dX6_copy_11 rfl rfl ?_
      refine g_iload_n (j := 3) C dX6_copy_12 rfl rfl ?_
      refine g_iload (j := 4) C dX6_copy_13 rfl ?_
      refine g_iadd C dX6_copy_15 ?_
      refine g_aload_n (j := 0) C dX6_copy_16 rfl rfl ?_
      refine g_iload_n (j := 1) C dX6_copy_17 rfl rfl ?_
      refine g_iload (j := 4) C dX6_copy_18 rfl ?_
      refine g_iadd C dX6_copy_20 ?_
      obtain ⟨hi_1002, h⟩ := ite_inone h
      refine g_iald C hs_r0 hi_1002 dX6_copy_21 ?_
      obtain ⟨hi_1003, h⟩ := ite_inone h
      refine g_iast C hs_r1 hi_1003 dX6_copy_22 ?_
      obtain ⟨X_1004, e_1005, h⟩ := zlet_ex h
      rw [← e_1005]
      refine g_iinc (k := 4) (L' := [(4, .int (v4 + 1)), (0, .ref (ad r0)), (1, .int v1), (2, .ref (ad r1)), (3, .int v3)]) C dX6_copy_23 rfl (z_iinc (by decide)) (by decide) rfl ?_
      refine g_goto C dX6_copy_26 (tgt := 3) (by decide) ?_
      refine zG_sub (L' := [(0, .ref (ad r0)), (1, .int v1), (2, .ref (ad r1)), (3, .int v3), (4, .int (v4 + 1))]) [1, 2, 3, 4, 0] rfl ?_
      exact ih X_1004 (v4 + 1) h
def f_X6_copy (X : Nat → Nat → Int32) (r0 n0 : Nat) (r1 n1 : Nat) (v1 v3 : Int32) : Option (Nat → Nat → Int32) := f_X6_copy_L3 r0 n0 r1 n1 v1 v3 zFuel X (0 : Int32)
set_option maxRecDepth 100000 in
set_option maxHeartbeats 4000000 in
theorem c_X6_copy (l : Launch) (D : va_G) (cy : Nat → ClassId) (ad : Nat → Nat) (E : va_W) (X : Nat → Nat → Int32) (r0 n0 : Nat) (r1 n1 : Nat) (hs_r0 : shM[r0]? = some (.inl (0, n0))) (hn_r0 : n0 < 2 ^ 31) (hs_r1 : shM[r1]? = some (.inl (0, n1))) (hn_r1 : n1 < 2 ^ 31) (v1 v3 : Int32) {res : (Nat → Nat → Int32)} (h : f_X6_copy X r0 n0 r1 n1 v1 v3 = some res) : zMv l yX6_copy wsX6_copy (zrm 1) D (zTy cy) (zW cy ad shM E X) [.ref (ad r0), .int v1, .ref (ad r1), .int v3] (zW cy ad shM E res) := by
  refine zMv.of (cc := cX6_copy) (maxL := 5) (ret := none) (by decide) rfl (Nat.le_of_ble_eq_true rfl) ?_
  intro p e s m below meth c A C hr
  unfold f_X6_copy at h
  refine zG_L (L' := [(0, .ref (ad r0)), (1, .int v1), (2, .ref (ad r1)), (3, .int v3)]) rfl ?_
  refine g_iconst (v := 0) C dX6_copy_0 (by decide) ?_
  refine g_istore (L' := [(4, .int (0 : Int32)), (0, .ref (ad r0)), (1, .int v1), (2, .ref (ad r1)), (3, .int v3)]) C dX6_copy_1 (by decide) rfl ?_
  refine zG_sub (L' := [(0, .ref (ad r0)), (1, .int v1), (2, .ref (ad r1)), (3, .int v3), (4, .int (0 : Int32))]) [1, 2, 3, 4, 0] rfl ?_
  exact w_X6_copy_L3 l D cy ad E r0 n0 hs_r0 hn_r0 r1 n1 hs_r1 hn_r1 v1 v3 C hr zFuel X (0 : Int32) h
theorem in_X6_remembersRow_RX6 : ∀ w ∈ u_ws RX6 TX6 27, w ∈ wsX6_remembersRow := by decide +kernel
theorem fl_X6_remembersRow_13 : (Cond.fieldLink RX6 13 RX6 (TX6 2).2.1 (TX6 2).2.2.1) ∈ wsX6_remembersRow := by decide +kernel
theorem fl_X6_remembersRow_49 : (Cond.fieldLink RX6 49 RX6 (TX6 3).2.1 (TX6 3).2.2.1) ∈ wsX6_remembersRow := by decide +kernel
theorem hd_X6_remembersRow : yX6_remembersRow.cls = RX6 ∧ yX6_remembersRow.cls ≠ "java/lang/invoke/MethodHandle" ∧ yX6_remembersRow.cls ≠ "java/lang/invoke/VarHandle" ∧ (parseMethodDescriptor yX6_remembersRow.desc).map (fun d => d.parameters.length) = some 1 := by decide +kernel
def f_X6_remembersRow_L11 (k : (Nat → Nat → Int32) → Option (Nat → Nat → Int32)) (r0 n0 : Nat) : Nat → (Nat → Nat → Int32) → Int32 → Option (Nat → Nat → Int32)
  | 0, _, _ => none
  | fu + 1, X, v2 => (if (4060 : Int32) ≤ v2 then k X else (if (v2 + (580 : Int32)) < 0 ∨ 4640 ≤ (v2 + (580 : Int32)).toNatClampNeg then none else (if v2 < 0 ∨ 4640 ≤ v2.toNatClampNeg then none else (zlet (zU X 2 v2.toNatClampNeg (X 2 (v2 + (580 : Int32)).toNatClampNeg)) fun X_1009 => f_X6_remembersRow_L11 k r0 n0 fu X_1009 (v2 + 1)))))
set_option maxRecDepth 100000 in
set_option maxHeartbeats 4000000 in
theorem w_X6_remembersRow_L11 {p : Program} {e : Env} {s : State} {m : MethodId} {args : Array Value} {below : List Frame} {meth : Method} {c : Code} {A : Nat → Prop} (l : Launch) (D : va_G) (cy : Nat → ClassId) (ad : Nat → Nat) (E : va_W) (k : (Nat → Nat → Int32) → Option (Nat → Nat → Int32)) (r0 n0 : Nat) (hs_r0 : shM[r0]? = some (.inl (0, n0))) (hn_r0 : n0 < 2 ^ 31) {res : (Nat → Nat → Int32)} (C : zC p s m args meth c cX6_remembersRow 3 RX6 wsX6_remembersRow D (zTy cy) A) (hr : meth.sig.returnType = none) : ∀ (fu : Nat) (X : Nat → Nat → Int32) (v2 : Int32) (h : f_X6_remembersRow_L11 k r0 n0 fu X v2 = some res) (hk : ∀ (X : Nat → Nat → Int32), k X = some res → zG p l e (headSpec wsX6_remembersRow (zrm 2)).room s m args below meth c 3 D A 0 0 (MQ below (va_Qv (fun (_ : Unit) => True) (fun _ t => zB D (zTy cy) A (zW cy ad shM E res) t) A) args s 0 0 A) (zW cy ad shM E X) 40 [(0, .ref (ad 0)), (1, .ref (ad r0))] []), zG p l e (headSpec wsX6_remembersRow (zrm 2)).room s m args below meth c 3 D A 0 0 (MQ below (va_Qv (fun (_ : Unit) => True) (fun _ t => zB D (zTy cy) A (zW cy ad shM E res) t) A) args s 0 0 A) (zW cy ad shM E X) 11 [(0, .ref (ad 0)), (1, .ref (ad r0)), (2, .int v2)] [] := by
  intro fu
  induction fu with
  | zero => intro X v2 h hk; simp [f_X6_remembersRow_L11] at h
  | succ fu ih =>
    intro X v2 h hk
    rw [f_X6_remembersRow_L11] at h
    refine g_iload_n (j := 2) C dX6_remembersRow_11 rfl rfl ?_
    refine g_sipush (v := 4060) C dX6_remembersRow_12 (by decide) ?_
    refine g_icmp_ge C dX6_remembersRow_15 (tgt := 40) (by decide) (fun hc_1006 => ?_) (fun hc_1006 => ?_)
    · replace h := (if_pos hc_1006).symm.trans h
      refine zG_sub (L' := [(0, .ref (ad 0)), (1, .ref (ad r0))]) [0, 1] rfl ?_
      exact hk X h
    · replace h := (if_neg hc_1006).symm.trans h
      refine g_aload_n (j := 0) C dX6_remembersRow_18 rfl rfl ?_
      refine g_getr (k := 2) (N := 27) C sM_0 rfl in_X6_remembersRow_RX6 (by decide) rfl fl_X6_remembersRow_13 rfl dX6_remembersRow_19 ?_
      refine g_iload_n (j := 2) C dX6_remembersRow_22 rfl rfl ?_
      refine g_aload_n (j := 0) C dX6_remembersRow_23 rfl rfl ?_
      refine g_getr (k := 2) (N := 27) C sM_0 rfl in_X6_remembersRow_RX6 (by decide) rfl fl_X6_remembersRow_13 rfl dX6_remembersRow_24 ?_
      refine g_iload_n (j := 2) C dX6_remembersRow_27 rfl rfl ?_
      refine g_sipush (v := 580) C dX6_remembersRow_28 (by decide) ?_
      refine g_iadd C dX6_remembersRow_31 ?_
      obtain ⟨hi_1007, h⟩ := ite_inone h
      refine g_iald C sM_2 hi_1007 dX6_remembersRow_32 ?_
      obtain ⟨hi_1008, h⟩ := ite_inone h
      refine g_iast C sM_2 hi_1008 dX6_remembersRow_33 ?_
      obtain ⟨X_1009, e_1010, h⟩ := zlet_ex h
      rw [← e_1010]
      refine g_iinc (k := 2) (L' := [(2, .int (v2 + 1)), (0, .ref (ad 0)), (1, .ref (ad r0))]) C dX6_remembersRow_34 rfl (z_iinc (by decide)) (by decide) rfl ?_
      refine g_goto C dX6_remembersRow_37 (tgt := 11) (by decide) ?_
      refine zG_sub (L' := [(0, .ref (ad 0)), (1, .ref (ad r0)), (2, .int (v2 + 1))]) [1, 2, 0] rfl ?_
      exact ih X_1009 (v2 + 1) h hk
def f_X6_remembersRow (X : Nat → Nat → Int32) (r0 n0 : Nat) : Option (Nat → Nat → Int32) := (if (X 0 3) = (8 : Int32) then f_X6_remembersRow_L11 (fun X_1011 => (zlet (zU X_1011 0 3 ((X_1011 0 3) - (1 : Int32))) fun X_1012 => ((f_X6_copy X_1012 r0 n0 2 4640 (0 : Int32) ((X_1012 0 3) * (580 : Int32))).bind fun q_1014 => (zlet (zU q_1014 0 3 ((q_1014 0 3) + (1 : Int32))) fun X_1016 => some X_1016)))) r0 n0 zFuel X (0 : Int32) else ((f_X6_copy X r0 n0 2 4640 (0 : Int32) ((X 0 3) * (580 : Int32))).bind fun q_2 => (zlet (zU q_2 0 3 ((q_2 0 3) + (1 : Int32))) fun X_4 => some X_4)))
set_option maxRecDepth 100000 in
set_option maxHeartbeats 4000000 in
theorem c_X6_remembersRow (l : Launch) (D : va_G) (cy : Nat → ClassId) (ad : Nat → Nat) (E : va_W) (X : Nat → Nat → Int32) (r0 n0 : Nat) (hs_r0 : shM[r0]? = some (.inl (0, n0))) (hn_r0 : n0 < 2 ^ 31) {res : (Nat → Nat → Int32)} (h : f_X6_remembersRow X r0 n0 = some res) : zMv l yX6_remembersRow wsX6_remembersRow (zrm 2) D (zTy cy) (zW cy ad shM E X) [.ref (ad 0), .ref (ad r0)] (zW cy ad shM E res) := by
  refine zMv.of (cc := cX6_remembersRow) (maxL := 3) (ret := none) (by decide) rfl (Nat.le_of_ble_eq_true rfl) ?_
  intro p e s m below meth c A C hr
  unfold f_X6_remembersRow at h
  refine zG_L (L' := [(0, .ref (ad 0)), (1, .ref (ad r0))]) rfl ?_
  refine g_aload_n (j := 0) C dX6_remembersRow_0 rfl rfl ?_
  refine g_geti (k := 3) (N := 27) C sM_0 rfl in_X6_remembersRow_RX6 (by decide) rfl fl_X6_remembersRow_49 rfl dX6_remembersRow_1 ?_
  refine g_bipush (v := 8) C dX6_remembersRow_4 (by decide) ?_
  refine g_icmp_ne C dX6_remembersRow_6 (tgt := 50) (by decide) (fun hc_1 => ?_) (fun hc_1 => ?_)
  · replace h := (if_neg hc_1).symm.trans h
    refine g_aload_n (j := 1) C dX6_remembersRow_50 rfl rfl ?_
    refine g_iconst (v := 0) C dX6_remembersRow_51 (by decide) ?_
    refine g_aload_n (j := 0) C dX6_remembersRow_52 rfl rfl ?_
    refine g_getr (k := 2) (N := 27) C sM_0 rfl in_X6_remembersRow_RX6 (by decide) rfl fl_X6_remembersRow_13 rfl dX6_remembersRow_53 ?_
    refine g_aload_n (j := 0) C dX6_remembersRow_56 rfl rfl ?_
    refine g_geti (k := 3) (N := 27) C sM_0 rfl in_X6_remembersRow_RX6 (by decide) rfl fl_X6_remembersRow_49 rfl dX6_remembersRow_57 ?_
    refine g_sipush (v := 580) C dX6_remembersRow_60 (by decide) ?_
    refine g_imul C dX6_remembersRow_63 ?_
    obtain ⟨q_2, hq_3, h⟩ := bind_isome h
    refine g_sv (ws' := (zW cy ad shM E q_2)) (As := [.ref (ad r0), .int (0 : Int32), .ref (ad 2), .int ((X 0 3) * (580 : Int32))]) (rest := []) C (c_X6_copy l D cy ad E X r0 n0 2 4640 hs_r0 hn_r0 sM_2 (by decide) (0 : Int32) ((X 0 3) * (580 : Int32)) hq_3) gX6_remembersRow_X6_copy rfl hd_X6_copy rfl rfl ⟨Nat.le_of_ble_eq_true rfl, Nat.le_of_ble_eq_true rfl⟩ rfl rfl (Nat.le_of_ble_eq_true rfl) ⟨Nat.zero_le _, Nat.zero_le _⟩ dX6_remembersRow_64 ?_
    refine g_aload_n (j := 0) C dX6_remembersRow_67 rfl rfl ?_
    refine g_dup C dX6_remembersRow_68 rfl ?_
    refine g_geti (k := 3) (N := 27) C sM_0 rfl in_X6_remembersRow_RX6 (by decide) rfl fl_X6_remembersRow_49 rfl dX6_remembersRow_69 ?_
    refine g_iconst (v := 1) C dX6_remembersRow_72 (by decide) ?_
    refine g_iadd C dX6_remembersRow_73 ?_
    refine g_puti (k := 3) (N := 27) (ty := .int) C sM_0 rfl in_X6_remembersRow_RX6 (by decide) rfl fl_X6_remembersRow_49 rfl tyX6_ok nmX6 rfl (by decide +kernel) rfl rfl dX6_remembersRow_74 ?_
    obtain ⟨X_4, e_5, h⟩ := zlet_ex h
    rw [← e_5]
    obtain rfl := Option.some.inj h
    exact g_vret rfl C hr dX6_remembersRow_77
  · replace h := (if_pos hc_1).symm.trans h
    refine g_iconst (v := 0) C dX6_remembersRow_9 (by decide) ?_
    refine g_istore_n (L' := [(2, .int (0 : Int32)), (0, .ref (ad 0)), (1, .ref (ad r0))]) C dX6_remembersRow_10 rfl (by decide) rfl ?_
    refine zG_sub (L' := [(0, .ref (ad 0)), (1, .ref (ad r0)), (2, .int (0 : Int32))]) [1, 2, 0] rfl ?_
    refine w_X6_remembersRow_L11 l D cy ad E _ r0 n0 hs_r0 hn_r0 C hr zFuel X (0 : Int32) h ?_
    intro X_1011 h
    refine g_aload_n (j := 0) C dX6_remembersRow_40 rfl rfl ?_
    refine g_dup C dX6_remembersRow_41 rfl ?_
    refine g_geti (k := 3) (N := 27) C sM_0 rfl in_X6_remembersRow_RX6 (by decide) rfl fl_X6_remembersRow_49 rfl dX6_remembersRow_42 ?_
    refine g_iconst (v := 1) C dX6_remembersRow_45 (by decide) ?_
    refine g_isub C dX6_remembersRow_46 ?_
    refine g_puti (k := 3) (N := 27) (ty := .int) C sM_0 rfl in_X6_remembersRow_RX6 (by decide) rfl fl_X6_remembersRow_49 rfl tyX6_ok nmX6 rfl (by decide +kernel) rfl rfl dX6_remembersRow_47 ?_
    obtain ⟨X_1012, e_1013, h⟩ := zlet_ex h
    rw [← e_1013]
    refine g_aload_n (j := 1) C dX6_remembersRow_50 rfl rfl ?_
    refine g_iconst (v := 0) C dX6_remembersRow_51 (by decide) ?_
    refine g_aload_n (j := 0) C dX6_remembersRow_52 rfl rfl ?_
    refine g_getr (k := 2) (N := 27) C sM_0 rfl in_X6_remembersRow_RX6 (by decide) rfl fl_X6_remembersRow_13 rfl dX6_remembersRow_53 ?_
    refine g_aload_n (j := 0) C dX6_remembersRow_56 rfl rfl ?_
    refine g_geti (k := 3) (N := 27) C sM_0 rfl in_X6_remembersRow_RX6 (by decide) rfl fl_X6_remembersRow_49 rfl dX6_remembersRow_57 ?_
    refine g_sipush (v := 580) C dX6_remembersRow_60 (by decide) ?_
    refine g_imul C dX6_remembersRow_63 ?_
    obtain ⟨q_1014, hq_1015, h⟩ := bind_isome h
    refine g_sv (ws' := (zW cy ad shM E q_1014)) (As := [.ref (ad r0), .int (0 : Int32), .ref (ad 2), .int ((X_1012 0 3) * (580 : Int32))]) (rest := []) C (c_X6_copy l D cy ad E X_1012 r0 n0 2 4640 hs_r0 hn_r0 sM_2 (by decide) (0 : Int32) ((X_1012 0 3) * (580 : Int32)) hq_1015) gX6_remembersRow_X6_copy rfl hd_X6_copy rfl rfl ⟨Nat.le_of_ble_eq_true rfl, Nat.le_of_ble_eq_true rfl⟩ rfl rfl (Nat.le_of_ble_eq_true rfl) ⟨Nat.zero_le _, Nat.zero_le _⟩ dX6_remembersRow_64 ?_
    refine g_aload_n (j := 0) C dX6_remembersRow_67 rfl rfl ?_
    refine g_dup C dX6_remembersRow_68 rfl ?_
    refine g_geti (k := 3) (N := 27) C sM_0 rfl in_X6_remembersRow_RX6 (by decide) rfl fl_X6_remembersRow_49 rfl dX6_remembersRow_69 ?_
    refine g_iconst (v := 1) C dX6_remembersRow_72 (by decide) ?_
    refine g_iadd C dX6_remembersRow_73 ?_
    refine g_puti (k := 3) (N := 27) (ty := .int) C sM_0 rfl in_X6_remembersRow_RX6 (by decide) rfl fl_X6_remembersRow_49 rfl tyX6_ok nmX6 rfl (by decide +kernel) rfl rfl dX6_remembersRow_74 ?_
    obtain ⟨X_1016, e_1017, h⟩ := zlet_ex h
    rw [← e_1017]
    obtain rfl := Option.some.inj h
    exact g_vret rfl C hr dX6_remembersRow_77
theorem in_X6_remembers_RX6 : ∀ w ∈ u_ws RX6 TX6 27, w ∈ wsX6_remembers := by decide +kernel
theorem fl_X6_remembers_9 : (Cond.fieldLink RX6 9 RX6 (TX6 1).2.1 (TX6 1).2.2.1) ∈ wsX6_remembers := by decide +kernel
theorem fl_X6_remembers_56 : (Cond.fieldLink RX6 56 RX6 (TX6 7).2.1 (TX6 7).2.2.1) ∈ wsX6_remembers := by decide +kernel
theorem hd_X6_remembers : yX6_remembers.cls = RX6 ∧ yX6_remembers.cls ≠ "java/lang/invoke/MethodHandle" ∧ yX6_remembers.cls ≠ "java/lang/invoke/VarHandle" ∧ (parseMethodDescriptor yX6_remembers.desc).map (fun d => d.parameters.length) = some 0 := by decide +kernel
def f_X6_remembers (X : Nat → Nat → Int32) : Option (Nat → Nat → Int32) := (if (X 0 7) = 0 then ((f_X6_remembersRow X 1 580).bind fun q_2 => some q_2) else some X)
set_option maxRecDepth 100000 in
set_option maxHeartbeats 4000000 in
theorem c_X6_remembers (l : Launch) (D : va_G) (cy : Nat → ClassId) (ad : Nat → Nat) (E : va_W) (X : Nat → Nat → Int32) {res : (Nat → Nat → Int32)} (h : f_X6_remembers X = some res) : zMv l yX6_remembers wsX6_remembers (zrm 3) D (zTy cy) (zW cy ad shM E X) [.ref (ad 0)] (zW cy ad shM E res) := by
  refine zMv.of (cc := cX6_remembers) (maxL := 1) (ret := none) (by decide) rfl (Nat.le_of_ble_eq_true rfl) ?_
  intro p e s m below meth c A C hr
  unfold f_X6_remembers at h
  refine zG_L (L' := [(0, .ref (ad 0))]) rfl ?_
  refine g_aload_n (j := 0) C dX6_remembers_0 rfl rfl ?_
  refine g_geti (k := 7) (N := 27) C sM_0 rfl in_X6_remembers_RX6 (by decide) rfl fl_X6_remembers_56 rfl dX6_remembers_1 ?_
  refine g_if_ne C dX6_remembers_4 (tgt := 15) (by decide) (fun hc_1 => ?_) (fun hc_1 => ?_)
  · replace h := (if_neg hc_1).symm.trans h
    obtain rfl := Option.some.inj h
    exact g_vret rfl C hr dX6_remembers_15
  · replace h := (if_pos hc_1).symm.trans h
    refine g_aload_n (j := 0) C dX6_remembers_7 rfl rfl ?_
    refine g_aload_n (j := 0) C dX6_remembers_8 rfl rfl ?_
    refine g_getr (k := 1) (N := 27) C sM_0 rfl in_X6_remembers_RX6 (by decide) rfl fl_X6_remembers_9 rfl dX6_remembers_9 ?_
    obtain ⟨q_2, hq_3, h⟩ := bind_isome h
    refine g_vv (ws' := (zW cy ad shM E q_2)) (As := [.ref (ad 1)]) (rest := []) C (c_X6_remembersRow l D cy ad E X 1 580 sM_1 (by decide) hq_3) gX6_remembers_X6_remembersRow rfl hd_X6_remembersRow (zW_get X sM_0) rfl rfl rfl ⟨Nat.le_of_ble_eq_true rfl, Nat.le_of_ble_eq_true rfl⟩ rfl rfl (Nat.le_of_ble_eq_true rfl) ⟨Nat.zero_le _, Nat.zero_le _⟩ dX6_remembers_12 ?_
    obtain rfl := Option.some.inj h
    exact g_vret rfl C hr dX6_remembers_15
theorem in_X6_hallAt_RX6 : ∀ w ∈ u_ws RX6 TX6 27, w ∈ wsX6_hallAt := by decide +kernel
theorem fl_X6_hallAt_9 : (Cond.fieldLink RX6 9 RX6 (TX6 1).2.1 (TX6 1).2.2.1) ∈ wsX6_hallAt := by decide +kernel
theorem hd_X6_hallAt : yX6_hallAt.cls = RX6 ∧ yX6_hallAt.cls ≠ "java/lang/invoke/MethodHandle" ∧ yX6_hallAt.cls ≠ "java/lang/invoke/VarHandle" ∧ (parseMethodDescriptor yX6_hallAt.desc).map (fun d => d.parameters.length) = some 2 := by decide +kernel
def f_X6_hallAt (X : Nat → Nat → Int32) (v1 v2 : Int32) : Option Int32 := (if (((30 : Int32) + ((4 : Int32) * v1)) + v2) < 0 ∨ 580 ≤ (((30 : Int32) + ((4 : Int32) * v1)) + v2).toNatClampNeg then none else some (X 1 (((30 : Int32) + ((4 : Int32) * v1)) + v2).toNatClampNeg))
set_option maxRecDepth 100000 in
set_option maxHeartbeats 4000000 in
theorem c_X6_hallAt (l : Launch) (D : va_G) (cy : Nat → ClassId) (ad : Nat → Nat) (E : va_W) (X : Nat → Nat → Int32) (v1 v2 : Int32) {res : Int32} (h : f_X6_hallAt X v1 v2 = some res) : zMi l yX6_hallAt wsX6_hallAt (zrm 1) D (zTy cy) (zW cy ad shM E X) [.ref (ad 0), .int v1, .int v2] res (zW cy ad shM E X) := by
  refine zMi.of (cc := cX6_hallAt) (maxL := 3) (ret := (some .int)) (by decide) rfl (Nat.le_of_ble_eq_true rfl) ?_
  intro p e s m below meth c A C hr
  unfold f_X6_hallAt at h
  refine zG_L (L' := [(0, .ref (ad 0)), (1, .int v1), (2, .int v2)]) rfl ?_
  refine g_aload_n (j := 0) C dX6_hallAt_0 rfl rfl ?_
  refine g_getr (k := 1) (N := 27) C sM_0 rfl in_X6_hallAt_RX6 (by decide) rfl fl_X6_hallAt_9 rfl dX6_hallAt_1 ?_
  refine g_bipush (v := 30) C dX6_hallAt_4 (by decide) ?_
  refine g_iconst (v := 4) C dX6_hallAt_6 (by decide) ?_
  refine g_iload_n (j := 1) C dX6_hallAt_7 rfl rfl ?_
  refine g_imul C dX6_hallAt_8 ?_
  refine g_iadd C dX6_hallAt_9 ?_
  refine g_iload_n (j := 2) C dX6_hallAt_10 rfl rfl ?_
  refine g_iadd C dX6_hallAt_11 ?_
  obtain ⟨hi_1, h⟩ := ite_inone h
  refine g_iald C sM_1 hi_1 dX6_hallAt_12 ?_
  obtain rfl := Option.some.inj h
  exact g_iret rfl C hr rfl dX6_hallAt_13
theorem in_X6_filmAt_RX6 : ∀ w ∈ u_ws RX6 TX6 27, w ∈ wsX6_filmAt := by decide +kernel
theorem fl_X6_filmAt_9 : (Cond.fieldLink RX6 9 RX6 (TX6 1).2.1 (TX6 1).2.2.1) ∈ wsX6_filmAt := by decide +kernel
theorem hd_X6_filmAt : yX6_filmAt.cls = RX6 ∧ yX6_filmAt.cls ≠ "java/lang/invoke/MethodHandle" ∧ yX6_filmAt.cls ≠ "java/lang/invoke/VarHandle" ∧ (parseMethodDescriptor yX6_filmAt.desc).map (fun d => d.parameters.length) = some 2 := by decide +kernel
def f_X6_filmAt (X : Nat → Nat → Int32) (v1 v2 : Int32) : Option Int32 := (if (((54 : Int32) + ((8 : Int32) * v1)) + v2) < 0 ∨ 580 ≤ (((54 : Int32) + ((8 : Int32) * v1)) + v2).toNatClampNeg then none else some (X 1 (((54 : Int32) + ((8 : Int32) * v1)) + v2).toNatClampNeg))
set_option maxRecDepth 100000 in
set_option maxHeartbeats 4000000 in
theorem c_X6_filmAt (l : Launch) (D : va_G) (cy : Nat → ClassId) (ad : Nat → Nat) (E : va_W) (X : Nat → Nat → Int32) (v1 v2 : Int32) {res : Int32} (h : f_X6_filmAt X v1 v2 = some res) : zMi l yX6_filmAt wsX6_filmAt (zrm 1) D (zTy cy) (zW cy ad shM E X) [.ref (ad 0), .int v1, .int v2] res (zW cy ad shM E X) := by
  refine zMi.of (cc := cX6_filmAt) (maxL := 3) (ret := (some .int)) (by decide) rfl (Nat.le_of_ble_eq_true rfl) ?_
  intro p e s m below meth c A C hr
  unfold f_X6_filmAt at h
  refine zG_L (L' := [(0, .ref (ad 0)), (1, .int v1), (2, .int v2)]) rfl ?_
  refine g_aload_n (j := 0) C dX6_filmAt_0 rfl rfl ?_
  refine g_getr (k := 1) (N := 27) C sM_0 rfl in_X6_filmAt_RX6 (by decide) rfl fl_X6_filmAt_9 rfl dX6_filmAt_1 ?_
  refine g_bipush (v := 54) C dX6_filmAt_4 (by decide) ?_
  refine g_bipush (v := 8) C dX6_filmAt_6 (by decide) ?_
  refine g_iload_n (j := 1) C dX6_filmAt_8 rfl rfl ?_
  refine g_imul C dX6_filmAt_9 ?_
  refine g_iadd C dX6_filmAt_10 ?_
  refine g_iload_n (j := 2) C dX6_filmAt_11 rfl rfl ?_
  refine g_iadd C dX6_filmAt_12 ?_
  obtain ⟨hi_1, h⟩ := ite_inone h
  refine g_iald C sM_1 hi_1 dX6_filmAt_13 ?_
  obtain rfl := Option.some.inj h
  exact g_iret rfl C hr rfl dX6_filmAt_14
theorem in_X6_trailerAt_RX6 : ∀ w ∈ u_ws RX6 TX6 27, w ∈ wsX6_trailerAt := by decide +kernel
theorem fl_X6_trailerAt_9 : (Cond.fieldLink RX6 9 RX6 (TX6 1).2.1 (TX6 1).2.2.1) ∈ wsX6_trailerAt := by decide +kernel
theorem hd_X6_trailerAt : yX6_trailerAt.cls = RX6 ∧ yX6_trailerAt.cls ≠ "java/lang/invoke/MethodHandle" ∧ yX6_trailerAt.cls ≠ "java/lang/invoke/VarHandle" ∧ (parseMethodDescriptor yX6_trailerAt.desc).map (fun d => d.parameters.length) = some 2 := by decide +kernel
def f_X6_trailerAt (X : Nat → Nat → Int32) (v1 v2 : Int32) : Option Int32 := (if (((118 : Int32) + ((4 : Int32) * v1)) + v2) < 0 ∨ 580 ≤ (((118 : Int32) + ((4 : Int32) * v1)) + v2).toNatClampNeg then none else some (X 1 (((118 : Int32) + ((4 : Int32) * v1)) + v2).toNatClampNeg))
set_option maxRecDepth 100000 in
set_option maxHeartbeats 4000000 in
theorem c_X6_trailerAt (l : Launch) (D : va_G) (cy : Nat → ClassId) (ad : Nat → Nat) (E : va_W) (X : Nat → Nat → Int32) (v1 v2 : Int32) {res : Int32} (h : f_X6_trailerAt X v1 v2 = some res) : zMi l yX6_trailerAt wsX6_trailerAt (zrm 1) D (zTy cy) (zW cy ad shM E X) [.ref (ad 0), .int v1, .int v2] res (zW cy ad shM E X) := by
  refine zMi.of (cc := cX6_trailerAt) (maxL := 3) (ret := (some .int)) (by decide) rfl (Nat.le_of_ble_eq_true rfl) ?_
  intro p e s m below meth c A C hr
  unfold f_X6_trailerAt at h
  refine zG_L (L' := [(0, .ref (ad 0)), (1, .int v1), (2, .int v2)]) rfl ?_
  refine g_aload_n (j := 0) C dX6_trailerAt_0 rfl rfl ?_
  refine g_getr (k := 1) (N := 27) C sM_0 rfl in_X6_trailerAt_RX6 (by decide) rfl fl_X6_trailerAt_9 rfl dX6_trailerAt_1 ?_
  refine g_bipush (v := 118) C dX6_trailerAt_4 (by decide) ?_
  refine g_iconst (v := 4) C dX6_trailerAt_6 (by decide) ?_
  refine g_iload_n (j := 1) C dX6_trailerAt_7 rfl rfl ?_
  refine g_imul C dX6_trailerAt_8 ?_
  refine g_iadd C dX6_trailerAt_9 ?_
  refine g_iload_n (j := 2) C dX6_trailerAt_10 rfl rfl ?_
  refine g_iadd C dX6_trailerAt_11 ?_
  obtain ⟨hi_1, h⟩ := ite_inone h
  refine g_iald C sM_1 hi_1 dX6_trailerAt_12 ?_
  obtain rfl := Option.some.inj h
  exact g_iret rfl C hr rfl dX6_trailerAt_13
theorem in_X6_showAt_RX6 : ∀ w ∈ u_ws RX6 TX6 27, w ∈ wsX6_showAt := by decide +kernel
theorem fl_X6_showAt_9 : (Cond.fieldLink RX6 9 RX6 (TX6 1).2.1 (TX6 1).2.2.1) ∈ wsX6_showAt := by decide +kernel
theorem hd_X6_showAt : yX6_showAt.cls = RX6 ∧ yX6_showAt.cls ≠ "java/lang/invoke/MethodHandle" ∧ yX6_showAt.cls ≠ "java/lang/invoke/VarHandle" ∧ (parseMethodDescriptor yX6_showAt.desc).map (fun d => d.parameters.length) = some 2 := by decide +kernel
def f_X6_showAt (X : Nat → Nat → Int32) (v1 v2 : Int32) : Option Int32 := (if (((158 : Int32) + ((9 : Int32) * v1)) + v2) < 0 ∨ 580 ≤ (((158 : Int32) + ((9 : Int32) * v1)) + v2).toNatClampNeg then none else some (X 1 (((158 : Int32) + ((9 : Int32) * v1)) + v2).toNatClampNeg))
set_option maxRecDepth 100000 in
set_option maxHeartbeats 4000000 in
theorem c_X6_showAt (l : Launch) (D : va_G) (cy : Nat → ClassId) (ad : Nat → Nat) (E : va_W) (X : Nat → Nat → Int32) (v1 v2 : Int32) {res : Int32} (h : f_X6_showAt X v1 v2 = some res) : zMi l yX6_showAt wsX6_showAt (zrm 1) D (zTy cy) (zW cy ad shM E X) [.ref (ad 0), .int v1, .int v2] res (zW cy ad shM E X) := by
  refine zMi.of (cc := cX6_showAt) (maxL := 3) (ret := (some .int)) (by decide) rfl (Nat.le_of_ble_eq_true rfl) ?_
  intro p e s m below meth c A C hr
  unfold f_X6_showAt at h
  refine zG_L (L' := [(0, .ref (ad 0)), (1, .int v1), (2, .int v2)]) rfl ?_
  refine g_aload_n (j := 0) C dX6_showAt_0 rfl rfl ?_
  refine g_getr (k := 1) (N := 27) C sM_0 rfl in_X6_showAt_RX6 (by decide) rfl fl_X6_showAt_9 rfl dX6_showAt_1 ?_
  refine g_sipush (v := 158) C dX6_showAt_4 (by decide) ?_
  refine g_bipush (v := 9) C dX6_showAt_7 (by decide) ?_
  refine g_iload_n (j := 1) C dX6_showAt_9 rfl rfl ?_
  refine g_imul C dX6_showAt_10 ?_
  refine g_iadd C dX6_showAt_11 ?_
  refine g_iload_n (j := 2) C dX6_showAt_12 rfl rfl ?_
  refine g_iadd C dX6_showAt_13 ?_
  obtain ⟨hi_1, h⟩ := ite_inone h
  refine g_iald C sM_1 hi_1 dX6_showAt_14 ?_
  obtain rfl := Option.some.inj h
  exact g_iret rfl C hr rfl dX6_showAt_15
theorem in_X6_isHall_RX6 : ∀ w ∈ u_ws RX6 TX6 27, w ∈ wsX6_isHall := by decide +kernel
theorem fl_X6_isHall_9 : (Cond.fieldLink RX6 9 RX6 (TX6 1).2.1 (TX6 1).2.2.1) ∈ wsX6_isHall := by decide +kernel
theorem hd_X6_isHall : yX6_isHall.cls = RX6 ∧ yX6_isHall.cls ≠ "java/lang/invoke/MethodHandle" ∧ yX6_isHall.cls ≠ "java/lang/invoke/VarHandle" ∧ (parseMethodDescriptor yX6_isHall.desc).map (fun d => d.parameters.length) = some 1 := by decide +kernel
def f_X6_isHall (X : Nat → Nat → Int32) (v1 : Int32) : Int32 := (f_X6_in v1 (0 : Int32) ((X 1 (1 : Int32).toNatClampNeg) - (1 : Int32)))
theorem b_X6_isHall (X : Nat → Nat → Int32) (v1 : Int32) : f_X6_isHall X v1 = 0 ∨ f_X6_isHall X v1 = 1 := by
  unfold f_X6_isHall
  repeat' split
  all_goals first | exact Or.inl rfl | exact Or.inr rfl | apply b_X6_in
set_option maxRecDepth 100000 in
set_option maxHeartbeats 4000000 in
theorem c_X6_isHall (l : Launch) (D : va_G) (cy : Nat → ClassId) (ad : Nat → Nat) (E : va_W) (X : Nat → Nat → Int32) (v1 : Int32) : zMi l yX6_isHall wsX6_isHall (zrm 2) D (zTy cy) (zW cy ad shM E X) [.ref (ad 0), .int v1] (f_X6_isHall X v1) (zW cy ad shM E X) := by
  refine zMi.of (cc := cX6_isHall) (maxL := 2) (ret := (some .boolean)) (by decide) rfl (Nat.le_of_ble_eq_true rfl) ?_
  intro p e s m below meth c A C hr
  generalize h : f_X6_isHall X v1 = res
  unfold f_X6_isHall at h
  refine zG_L (L' := [(0, .ref (ad 0)), (1, .int v1)]) rfl ?_
  refine g_iload_n (j := 1) C dX6_isHall_0 rfl rfl ?_
  refine g_iconst (v := 0) C dX6_isHall_1 (by decide) ?_
  refine g_aload_n (j := 0) C dX6_isHall_2 rfl rfl ?_
  refine g_getr (k := 1) (N := 27) C sM_0 rfl in_X6_isHall_RX6 (by decide) rfl fl_X6_isHall_9 rfl dX6_isHall_3 ?_
  refine g_iconst (v := 1) C dX6_isHall_6 (by decide) ?_
  refine g_iald C sM_1 (by decide) dX6_isHall_7 ?_
  refine g_iconst (v := 1) C dX6_isHall_8 (by decide) ?_
  refine g_isub C dX6_isHall_9 ?_
  refine g_si (ws' := (zW cy ad shM E X)) (As := [.int v1, .int (0 : Int32), .int ((X 1 (1 : Int32).toNatClampNeg) - (1 : Int32))]) (rest := []) (res := (f_X6_in v1 (0 : Int32) ((X 1 (1 : Int32).toNatClampNeg) - (1 : Int32)))) C (c_X6_in l D cy (zW cy ad shM E X) v1 (0 : Int32) ((X 1 (1 : Int32).toNatClampNeg) - (1 : Int32))) gX6_isHall_X6_in rfl hd_X6_in rfl rfl ⟨Nat.le_of_ble_eq_true rfl, Nat.le_of_ble_eq_true rfl⟩ rfl rfl (Nat.le_of_ble_eq_true rfl) ⟨Nat.zero_le _, Nat.zero_le _⟩ dX6_isHall_10 ?_
  subst h
  exact g_iret rfl C hr (z_nb (b_X6_in v1 (0 : Int32) ((X 1 (1 : Int32).toNatClampNeg) - (1 : Int32)))) dX6_isHall_13
theorem in_X6_isFilm_RX6 : ∀ w ∈ u_ws RX6 TX6 27, w ∈ wsX6_isFilm := by decide +kernel
theorem fl_X6_isFilm_9 : (Cond.fieldLink RX6 9 RX6 (TX6 1).2.1 (TX6 1).2.2.1) ∈ wsX6_isFilm := by decide +kernel
theorem hd_X6_isFilm : yX6_isFilm.cls = RX6 ∧ yX6_isFilm.cls ≠ "java/lang/invoke/MethodHandle" ∧ yX6_isFilm.cls ≠ "java/lang/invoke/VarHandle" ∧ (parseMethodDescriptor yX6_isFilm.desc).map (fun d => d.parameters.length) = some 1 := by decide +kernel
def f_X6_isFilm (X : Nat → Nat → Int32) (v1 : Int32) : Int32 := (f_X6_in v1 (0 : Int32) ((X 1 (2 : Int32).toNatClampNeg) - (1 : Int32)))
theorem b_X6_isFilm (X : Nat → Nat → Int32) (v1 : Int32) : f_X6_isFilm X v1 = 0 ∨ f_X6_isFilm X v1 = 1 := by
  unfold f_X6_isFilm
  repeat' split
  all_goals first | exact Or.inl rfl | exact Or.inr rfl | apply b_X6_in
set_option maxRecDepth 100000 in
set_option maxHeartbeats 4000000 in
theorem c_X6_isFilm (l : Launch) (D : va_G) (cy : Nat → ClassId) (ad : Nat → Nat) (E : va_W) (X : Nat → Nat → Int32) (v1 : Int32) : zMi l yX6_isFilm wsX6_isFilm (zrm 2) D (zTy cy) (zW cy ad shM E X) [.ref (ad 0), .int v1] (f_X6_isFilm X v1) (zW cy ad shM E X) := by
  refine zMi.of (cc := cX6_isFilm) (maxL := 2) (ret := (some .boolean)) (by decide) rfl (Nat.le_of_ble_eq_true rfl) ?_
  intro p e s m below meth c A C hr
  generalize h : f_X6_isFilm X v1 = res
  unfold f_X6_isFilm at h
  refine zG_L (L' := [(0, .ref (ad 0)), (1, .int v1)]) rfl ?_
  refine g_iload_n (j := 1) C dX6_isFilm_0 rfl rfl ?_
  refine g_iconst (v := 0) C dX6_isFilm_1 (by decide) ?_
  refine g_aload_n (j := 0) C dX6_isFilm_2 rfl rfl ?_
  refine g_getr (k := 1) (N := 27) C sM_0 rfl in_X6_isFilm_RX6 (by decide) rfl fl_X6_isFilm_9 rfl dX6_isFilm_3 ?_
  refine g_iconst (v := 2) C dX6_isFilm_6 (by decide) ?_
  refine g_iald C sM_1 (by decide) dX6_isFilm_7 ?_
  refine g_iconst (v := 1) C dX6_isFilm_8 (by decide) ?_
  refine g_isub C dX6_isFilm_9 ?_
  refine g_si (ws' := (zW cy ad shM E X)) (As := [.int v1, .int (0 : Int32), .int ((X 1 (2 : Int32).toNatClampNeg) - (1 : Int32))]) (rest := []) (res := (f_X6_in v1 (0 : Int32) ((X 1 (2 : Int32).toNatClampNeg) - (1 : Int32)))) C (c_X6_in l D cy (zW cy ad shM E X) v1 (0 : Int32) ((X 1 (2 : Int32).toNatClampNeg) - (1 : Int32))) gX6_isFilm_X6_in rfl hd_X6_in rfl rfl ⟨Nat.le_of_ble_eq_true rfl, Nat.le_of_ble_eq_true rfl⟩ rfl rfl (Nat.le_of_ble_eq_true rfl) ⟨Nat.zero_le _, Nat.zero_le _⟩ dX6_isFilm_10 ?_
  subst h
  exact g_iret rfl C hr (z_nb (b_X6_in v1 (0 : Int32) ((X 1 (2 : Int32).toNatClampNeg) - (1 : Int32)))) dX6_isFilm_13
theorem in_X6_isShow_RX6 : ∀ w ∈ u_ws RX6 TX6 27, w ∈ wsX6_isShow := by decide +kernel
theorem fl_X6_isShow_9 : (Cond.fieldLink RX6 9 RX6 (TX6 1).2.1 (TX6 1).2.2.1) ∈ wsX6_isShow := by decide +kernel
theorem hd_X6_isShow : yX6_isShow.cls = RX6 ∧ yX6_isShow.cls ≠ "java/lang/invoke/MethodHandle" ∧ yX6_isShow.cls ≠ "java/lang/invoke/VarHandle" ∧ (parseMethodDescriptor yX6_isShow.desc).map (fun d => d.parameters.length) = some 1 := by decide +kernel
def f_X6_isShow (X : Nat → Nat → Int32) (v1 : Int32) : Int32 := (f_X6_in v1 (0 : Int32) ((X 1 (4 : Int32).toNatClampNeg) - (1 : Int32)))
theorem b_X6_isShow (X : Nat → Nat → Int32) (v1 : Int32) : f_X6_isShow X v1 = 0 ∨ f_X6_isShow X v1 = 1 := by
  unfold f_X6_isShow
  repeat' split
  all_goals first | exact Or.inl rfl | exact Or.inr rfl | apply b_X6_in
set_option maxRecDepth 100000 in
set_option maxHeartbeats 4000000 in
theorem c_X6_isShow (l : Launch) (D : va_G) (cy : Nat → ClassId) (ad : Nat → Nat) (E : va_W) (X : Nat → Nat → Int32) (v1 : Int32) : zMi l yX6_isShow wsX6_isShow (zrm 2) D (zTy cy) (zW cy ad shM E X) [.ref (ad 0), .int v1] (f_X6_isShow X v1) (zW cy ad shM E X) := by
  refine zMi.of (cc := cX6_isShow) (maxL := 2) (ret := (some .boolean)) (by decide) rfl (Nat.le_of_ble_eq_true rfl) ?_
  intro p e s m below meth c A C hr
  generalize h : f_X6_isShow X v1 = res
  unfold f_X6_isShow at h
  refine zG_L (L' := [(0, .ref (ad 0)), (1, .int v1)]) rfl ?_
  refine g_iload_n (j := 1) C dX6_isShow_0 rfl rfl ?_
  refine g_iconst (v := 0) C dX6_isShow_1 (by decide) ?_
  refine g_aload_n (j := 0) C dX6_isShow_2 rfl rfl ?_
  refine g_getr (k := 1) (N := 27) C sM_0 rfl in_X6_isShow_RX6 (by decide) rfl fl_X6_isShow_9 rfl dX6_isShow_3 ?_
  refine g_iconst (v := 4) C dX6_isShow_6 (by decide) ?_
  refine g_iald C sM_1 (by decide) dX6_isShow_7 ?_
  refine g_iconst (v := 1) C dX6_isShow_8 (by decide) ?_
  refine g_isub C dX6_isShow_9 ?_
  refine g_si (ws' := (zW cy ad shM E X)) (As := [.int v1, .int (0 : Int32), .int ((X 1 (4 : Int32).toNatClampNeg) - (1 : Int32))]) (rest := []) (res := (f_X6_in v1 (0 : Int32) ((X 1 (4 : Int32).toNatClampNeg) - (1 : Int32)))) C (c_X6_in l D cy (zW cy ad shM E X) v1 (0 : Int32) ((X 1 (4 : Int32).toNatClampNeg) - (1 : Int32))) gX6_isShow_X6_in rfl hd_X6_in rfl rfl ⟨Nat.le_of_ble_eq_true rfl, Nat.le_of_ble_eq_true rfl⟩ rfl rfl (Nat.le_of_ble_eq_true rfl) ⟨Nat.zero_le _, Nat.zero_le _⟩ dX6_isShow_10 ?_
  subst h
  exact g_iret rfl C hr (z_nb (b_X6_in v1 (0 : Int32) ((X 1 (4 : Int32).toNatClampNeg) - (1 : Int32)))) dX6_isShow_13
theorem hd_X6_isDay : yX6_isDay.cls ≠ "java/lang/invoke/MethodHandle" ∧ yX6_isDay.cls ≠ "java/lang/invoke/VarHandle" ∧ (parseMethodDescriptor yX6_isDay.desc).map (fun d => d.parameters.length) = some 1 := by decide +kernel
def f_X6_isDay (v0 : Int32) : Int32 := (f_X6_in v0 (0 : Int32) (59 : Int32))
theorem b_X6_isDay (v0 : Int32) : f_X6_isDay v0 = 0 ∨ f_X6_isDay v0 = 1 := by
  unfold f_X6_isDay
  repeat' split
  all_goals first | exact Or.inl rfl | exact Or.inr rfl | apply b_X6_in
set_option maxRecDepth 100000 in
set_option maxHeartbeats 4000000 in
theorem c_X6_isDay (l : Launch) (D : va_G) (cy : Nat → ClassId) (ws : va_W) (v0 : Int32) : zMi l yX6_isDay wsX6_isDay (zrm 2) D (zTy cy) ws [.int v0] (f_X6_isDay v0) ws := by
  refine zMi.of (cc := cX6_isDay) (maxL := 1) (ret := (some .boolean)) (by decide) rfl (Nat.le_of_ble_eq_true rfl) ?_
  intro p e s m below meth c A C hr
  generalize h : f_X6_isDay v0 = res
  unfold f_X6_isDay at h
  refine zG_L (L' := [(0, .int v0)]) rfl ?_
  refine g_iload_n (j := 0) C dX6_isDay_0 rfl rfl ?_
  refine g_iconst (v := 0) C dX6_isDay_1 (by decide) ?_
  refine g_bipush (v := 59) C dX6_isDay_2 (by decide) ?_
  refine g_si (ws' := ws) (As := [.int v0, .int (0 : Int32), .int (59 : Int32)]) (rest := []) (res := (f_X6_in v0 (0 : Int32) (59 : Int32))) C (c_X6_in l D cy ws v0 (0 : Int32) (59 : Int32)) gX6_isDay_X6_in rfl hd_X6_in rfl rfl ⟨Nat.le_of_ble_eq_true rfl, Nat.le_of_ble_eq_true rfl⟩ rfl rfl (Nat.le_of_ble_eq_true rfl) ⟨Nat.zero_le _, Nat.zero_le _⟩ dX6_isDay_4 ?_
  subst h
  exact g_iret rfl C hr (z_nb (b_X6_in v0 (0 : Int32) (59 : Int32))) dX6_isDay_7
theorem in_X6_addHall_RX6 : ∀ w ∈ u_ws RX6 TX6 27, w ∈ wsX6_addHall := by decide +kernel
theorem fl_X6_addHall_9 : (Cond.fieldLink RX6 9 RX6 (TX6 1).2.1 (TX6 1).2.2.1) ∈ wsX6_addHall := by decide +kernel
theorem hd_X6_addHall : yX6_addHall.cls = RX6 ∧ yX6_addHall.cls ≠ "java/lang/invoke/MethodHandle" ∧ yX6_addHall.cls ≠ "java/lang/invoke/VarHandle" ∧ (parseMethodDescriptor yX6_addHall.desc).map (fun d => d.parameters.length) = some 3 := by decide +kernel
def f_X6_addHall (X : Nat → Nat → Int32) (v1 v2 v3 : Int32) : Option (Int32 × (Nat → Nat → Int32)) := (if (f_X6_in v1 (1 : Int32) (400 : Int32)) = 0 then (zlet (f_X6_fails X (1 : Int32)) fun q_2 => some (q_2.1, q_2.2)) else (if (f_X6_in v2 (0 : Int32) (40 : Int32)) = 0 then (zlet (f_X6_fails X (1 : Int32)) fun q_5 => some (q_5.1, q_5.2)) else (if (f_X6_in v3 (0 : Int32) (2 : Int32)) = 0 then (zlet (f_X6_fails X (1 : Int32)) fun q_29 => some (q_29.1, q_29.2)) else (if (X 1 (1 : Int32).toNatClampNeg) = (6 : Int32) then (zlet (f_X6_fails X (2 : Int32)) fun q_27 => some (q_27.1, q_27.2)) else ((f_X6_remembers X).bind fun q_9 => (if ((30 : Int32) + ((4 : Int32) * (q_9 1 (1 : Int32).toNatClampNeg))) < 0 ∨ 580 ≤ ((30 : Int32) + ((4 : Int32) * (q_9 1 (1 : Int32).toNatClampNeg))).toNatClampNeg then none else (zlet (zU q_9 1 ((30 : Int32) + ((4 : Int32) * (q_9 1 (1 : Int32).toNatClampNeg))).toNatClampNeg v1) fun X_12 => (if (((30 : Int32) + ((4 : Int32) * (q_9 1 (1 : Int32).toNatClampNeg))) + (1 : Int32)) < 0 ∨ 580 ≤ (((30 : Int32) + ((4 : Int32) * (q_9 1 (1 : Int32).toNatClampNeg))) + (1 : Int32)).toNatClampNeg then none else (zlet (zU X_12 1 (((30 : Int32) + ((4 : Int32) * (q_9 1 (1 : Int32).toNatClampNeg))) + (1 : Int32)).toNatClampNeg v2) fun X_15 => (if (((30 : Int32) + ((4 : Int32) * (q_9 1 (1 : Int32).toNatClampNeg))) + (2 : Int32)) < 0 ∨ 580 ≤ (((30 : Int32) + ((4 : Int32) * (q_9 1 (1 : Int32).toNatClampNeg))) + (2 : Int32)).toNatClampNeg then none else (zlet (zU X_15 1 (((30 : Int32) + ((4 : Int32) * (q_9 1 (1 : Int32).toNatClampNeg))) + (2 : Int32)).toNatClampNeg v3) fun X_18 => (if (((30 : Int32) + ((4 : Int32) * (q_9 1 (1 : Int32).toNatClampNeg))) + (3 : Int32)) < 0 ∨ 580 ≤ (((30 : Int32) + ((4 : Int32) * (q_9 1 (1 : Int32).toNatClampNeg))) + (3 : Int32)).toNatClampNeg then none else (zlet (zU X_18 1 (((30 : Int32) + ((4 : Int32) * (q_9 1 (1 : Int32).toNatClampNeg))) + (3 : Int32)).toNatClampNeg (-1 : Int32)) fun X_21 => (zlet (zU X_21 1 (1 : Int32).toNatClampNeg ((X_21 1 (1 : Int32).toNatClampNeg) + (1 : Int32))) fun X_23 => (zlet (f_X6_done X_23 ((X_23 1 (1 : Int32).toNatClampNeg) - (1 : Int32))) fun q_25 => some (q_25.1, q_25.2))))))))))))))))
set_option maxRecDepth 100000 in
set_option maxHeartbeats 4000000 in
theorem c_X6_addHall (l : Launch) (D : va_G) (cy : Nat → ClassId) (ad : Nat → Nat) (E : va_W) (X : Nat → Nat → Int32) (v1 v2 v3 : Int32) {res : Int32 × (Nat → Nat → Int32)} (h : f_X6_addHall X v1 v2 v3 = some res) : zMi l yX6_addHall wsX6_addHall (zrm 4) D (zTy cy) (zW cy ad shM E X) [.ref (ad 0), .int v1, .int v2, .int v3] res.1 (zW cy ad shM E res.2) := by
  refine zMi.of (cc := cX6_addHall) (maxL := 5) (ret := (some .int)) (by decide) rfl (Nat.le_of_ble_eq_true rfl) ?_
  intro p e s m below meth c A C hr
  unfold f_X6_addHall at h
  refine zG_L (L' := [(0, .ref (ad 0)), (1, .int v1), (2, .int v2), (3, .int v3)]) rfl ?_
  refine g_iload_n (j := 1) C dX6_addHall_0 rfl rfl ?_
  refine g_iconst (v := 1) C dX6_addHall_1 (by decide) ?_
  refine g_sipush (v := 400) C dX6_addHall_2 (by decide) ?_
  refine g_si (ws' := (zW cy ad shM E X)) (As := [.int v1, .int (1 : Int32), .int (400 : Int32)]) (rest := []) (res := (f_X6_in v1 (1 : Int32) (400 : Int32))) C (c_X6_in l D cy (zW cy ad shM E X) v1 (1 : Int32) (400 : Int32)) gX6_addHall_X6_in rfl hd_X6_in rfl rfl ⟨Nat.le_of_ble_eq_true rfl, Nat.le_of_ble_eq_true rfl⟩ rfl rfl (Nat.le_of_ble_eq_true rfl) ⟨Nat.zero_le _, Nat.zero_le _⟩ dX6_addHall_5 ?_
  refine g_if_eq C dX6_addHall_8 (tgt := 30) (by decide) (fun hc_1 => ?_) (fun hc_1 => ?_)
  · replace h := (if_pos hc_1).symm.trans h
    refine g_aload_n (j := 0) C dX6_addHall_30 rfl rfl ?_
    refine g_iconst (v := 1) C dX6_addHall_31 (by decide) ?_
    obtain ⟨q_2, e_3, h⟩ := zlet_ex h
    refine g_vi (ws' := (zW cy ad shM E q_2.2)) (As := [.int (1 : Int32)]) (rest := []) (res := q_2.1) C ((by rw [e_3]; exact c_X6_fails l D cy ad E X (1 : Int32))) gX6_addHall_X6_fails rfl hd_X6_fails (zW_get X sM_0) rfl rfl rfl ⟨Nat.le_of_ble_eq_true rfl, Nat.le_of_ble_eq_true rfl⟩ rfl rfl (Nat.le_of_ble_eq_true rfl) ⟨Nat.zero_le _, Nat.zero_le _⟩ dX6_addHall_32 ?_
    obtain rfl := Option.some.inj h
    exact g_iret rfl C hr rfl dX6_addHall_35
  · replace h := (if_neg hc_1).symm.trans h
    refine g_iload_n (j := 2) C dX6_addHall_11 rfl rfl ?_
    refine g_iconst (v := 0) C dX6_addHall_12 (by decide) ?_
    refine g_bipush (v := 40) C dX6_addHall_13 (by decide) ?_
    refine g_si (ws' := (zW cy ad shM E X)) (As := [.int v2, .int (0 : Int32), .int (40 : Int32)]) (rest := []) (res := (f_X6_in v2 (0 : Int32) (40 : Int32))) C (c_X6_in l D cy (zW cy ad shM E X) v2 (0 : Int32) (40 : Int32)) gX6_addHall_X6_in rfl hd_X6_in rfl rfl ⟨Nat.le_of_ble_eq_true rfl, Nat.le_of_ble_eq_true rfl⟩ rfl rfl (Nat.le_of_ble_eq_true rfl) ⟨Nat.zero_le _, Nat.zero_le _⟩ dX6_addHall_15 ?_
    refine g_if_eq C dX6_addHall_18 (tgt := 30) (by decide) (fun hc_4 => ?_) (fun hc_4 => ?_)
    · replace h := (if_pos hc_4).symm.trans h
      refine g_aload_n (j := 0) C dX6_addHall_30 rfl rfl ?_
      refine g_iconst (v := 1) C dX6_addHall_31 (by decide) ?_
      obtain ⟨q_5, e_6, h⟩ := zlet_ex h
      refine g_vi (ws' := (zW cy ad shM E q_5.2)) (As := [.int (1 : Int32)]) (rest := []) (res := q_5.1) C ((by rw [e_6]; exact c_X6_fails l D cy ad E X (1 : Int32))) gX6_addHall_X6_fails rfl hd_X6_fails (zW_get X sM_0) rfl rfl rfl ⟨Nat.le_of_ble_eq_true rfl, Nat.le_of_ble_eq_true rfl⟩ rfl rfl (Nat.le_of_ble_eq_true rfl) ⟨Nat.zero_le _, Nat.zero_le _⟩ dX6_addHall_32 ?_
      obtain rfl := Option.some.inj h
      exact g_iret rfl C hr rfl dX6_addHall_35
    · replace h := (if_neg hc_4).symm.trans h
      refine g_iload_n (j := 3) C dX6_addHall_21 rfl rfl ?_
      refine g_iconst (v := 0) C dX6_addHall_22 (by decide) ?_
      refine g_iconst (v := 2) C dX6_addHall_23 (by decide) ?_
      refine g_si (ws' := (zW cy ad shM E X)) (As := [.int v3, .int (0 : Int32), .int (2 : Int32)]) (rest := []) (res := (f_X6_in v3 (0 : Int32) (2 : Int32))) C (c_X6_in l D cy (zW cy ad shM E X) v3 (0 : Int32) (2 : Int32)) gX6_addHall_X6_in rfl hd_X6_in rfl rfl ⟨Nat.le_of_ble_eq_true rfl, Nat.le_of_ble_eq_true rfl⟩ rfl rfl (Nat.le_of_ble_eq_true rfl) ⟨Nat.zero_le _, Nat.zero_le _⟩ dX6_addHall_24 ?_
      refine g_if_ne C dX6_addHall_27 (tgt := 36) (by decide) (fun hc_7 => ?_) (fun hc_7 => ?_)
      · replace h := (if_neg hc_7).symm.trans h
        refine g_aload_n (j := 0) C dX6_addHall_36 rfl rfl ?_
        refine g_getr (k := 1) (N := 27) C sM_0 rfl in_X6_addHall_RX6 (by decide) rfl fl_X6_addHall_9 rfl dX6_addHall_37 ?_
        refine g_iconst (v := 1) C dX6_addHall_40 (by decide) ?_
        refine g_iald C sM_1 (by decide) dX6_addHall_41 ?_
        refine g_bipush (v := 6) C dX6_addHall_42 (by decide) ?_
        refine g_icmp_ne C dX6_addHall_44 (tgt := 53) (by decide) (fun hc_8 => ?_) (fun hc_8 => ?_)
        · replace h := (if_neg hc_8).symm.trans h
          refine g_aload_n (j := 0) C dX6_addHall_53 rfl rfl ?_
          obtain ⟨q_9, hq_10, h⟩ := bind_isome h
          refine g_vv (ws' := (zW cy ad shM E q_9)) (As := []) (rest := []) C (c_X6_remembers l D cy ad E X hq_10) gX6_addHall_X6_remembers rfl hd_X6_remembers (zW_get X sM_0) rfl rfl rfl ⟨Nat.le_of_ble_eq_true rfl, Nat.le_of_ble_eq_true rfl⟩ rfl rfl (Nat.le_of_ble_eq_true rfl) ⟨Nat.zero_le _, Nat.zero_le _⟩ dX6_addHall_54 ?_
          refine g_bipush (v := 30) C dX6_addHall_57 (by decide) ?_
          refine g_iconst (v := 4) C dX6_addHall_59 (by decide) ?_
          refine g_aload_n (j := 0) C dX6_addHall_60 rfl rfl ?_
          refine g_getr (k := 1) (N := 27) C sM_0 rfl in_X6_addHall_RX6 (by decide) rfl fl_X6_addHall_9 rfl dX6_addHall_61 ?_
          refine g_iconst (v := 1) C dX6_addHall_64 (by decide) ?_
          refine g_iald C sM_1 (by decide) dX6_addHall_65 ?_
          refine g_imul C dX6_addHall_66 ?_
          refine g_iadd C dX6_addHall_67 ?_
          refine g_istore (L' := [(4, .int ((30 : Int32) + ((4 : Int32) * (q_9 1 (1 : Int32).toNatClampNeg)))), (0, .ref (ad 0)), (1, .int v1), (2, .int v2), (3, .int v3)]) C dX6_addHall_68 (by decide) rfl ?_
          refine g_aload_n (j := 1) C dX6_addHall_70 rfl rfl ?_
          refine g_getr (k := 1) (N := 27) C sM_0 rfl in_X6_addHall_RX6 (by decide) rfl fl_X6_addHall_9 rfl dX6_addHall_71 ?_
          refine g_iload (j := 0) C dX6_addHall_74 rfl ?_
          refine g_iload_n (j := 2) C dX6_addHall_76 rfl rfl ?_
          obtain ⟨hi_11, h⟩ := ite_inone h
          refine g_iast C sM_1 hi_11 dX6_addHall_77 ?_
          obtain ⟨X_12, e_13, h⟩ := zlet_ex h
          rw [← e_13]
          refine g_aload_n (j := 1) C dX6_addHall_78 rfl rfl ?_
          refine g_getr (k := 1) (N := 27) C sM_0 rfl in_X6_addHall_RX6 (by decide) rfl fl_X6_addHall_9 rfl dX6_addHall_79 ?_
          refine g_iload (j := 0) C dX6_addHall_82 rfl ?_
          refine g_iconst (v := 1) C dX6_addHall_84 (by decide) ?_
          refine g_iadd C dX6_addHall_85 ?_
          refine g_iload_n (j := 3) C dX6_addHall_86 rfl rfl ?_
          obtain ⟨hi_14, h⟩ := ite_inone h
          refine g_iast C sM_1 hi_14 dX6_addHall_87 ?_
          obtain ⟨X_15, e_16, h⟩ := zlet_ex h
          rw [← e_16]
          refine g_aload_n (j := 1) C dX6_addHall_88 rfl rfl ?_
          refine g_getr (k := 1) (N := 27) C sM_0 rfl in_X6_addHall_RX6 (by decide) rfl fl_X6_addHall_9 rfl dX6_addHall_89 ?_
          refine g_iload (j := 0) C dX6_addHall_92 rfl ?_
          refine g_iconst (v := 2) C dX6_addHall_94 (by decide) ?_
          refine g_iadd C dX6_addHall_95 ?_
          refine g_iload_n (j := 4) C dX6_addHall_96 rfl rfl ?_
          obtain ⟨hi_17, h⟩ := ite_inone h
          refine g_iast C sM_1 hi_17 dX6_addHall_97 ?_
          obtain ⟨X_18, e_19, h⟩ := zlet_ex h
          rw [← e_19]
          refine g_aload_n (j := 1) C dX6_addHall_98 rfl rfl ?_
          refine g_getr (k := 1) (N := 27) C sM_0 rfl in_X6_addHall_RX6 (by decide) rfl fl_X6_addHall_9 rfl dX6_addHall_99 ?_
          refine g_iload (j := 0) C dX6_addHall_102 rfl ?_
          refine g_iconst (v := 3) C dX6_addHall_104 (by decide) ?_
          refine g_iadd C dX6_addHall_105 ?_
          refine g_iconst (v := -1) C dX6_addHall_106 (by decide) ?_
          obtain ⟨hi_20, h⟩ := ite_inone h
          refine g_iast C sM_1 hi_20 dX6_addHall_107 ?_
          obtain ⟨X_21, e_22, h⟩ := zlet_ex h
          rw [← e_22]
          refine g_aload_n (j := 1) C dX6_addHall_108 rfl rfl ?_
          refine g_getr (k := 1) (N := 27) C sM_0 rfl in_X6_addHall_RX6 (by decide) rfl fl_X6_addHall_9 rfl dX6_addHall_109 ?_
          refine g_iconst (v := 1) C dX6_addHall_112 (by decide) ?_
          refine g_dup2 C dX6_addHall_113 rfl rfl ?_
          refine g_iald C sM_1 (by decide) dX6_addHall_114 ?_
          refine g_iconst (v := 1) C dX6_addHall_115 (by decide) ?_
          refine g_iadd C dX6_addHall_116 ?_
          refine g_iast C sM_1 (by decide) dX6_addHall_117 ?_
          obtain ⟨X_23, e_24, h⟩ := zlet_ex h
          rw [← e_24]
          refine g_aload_n (j := 1) C dX6_addHall_118 rfl rfl ?_
          refine g_aload_n (j := 1) C dX6_addHall_119 rfl rfl ?_
          refine g_getr (k := 1) (N := 27) C sM_0 rfl in_X6_addHall_RX6 (by decide) rfl fl_X6_addHall_9 rfl dX6_addHall_120 ?_
          refine g_iconst (v := 1) C dX6_addHall_123 (by decide) ?_
          refine g_iald C sM_1 (by decide) dX6_addHall_124 ?_
          refine g_iconst (v := 1) C dX6_addHall_125 (by decide) ?_
          refine g_isub C dX6_addHall_126 ?_
          obtain ⟨q_25, e_26, h⟩ := zlet_ex h
          refine g_vi (ws' := (zW cy ad shM E q_25.2)) (As := [.int ((X_23 1 (1 : Int32).toNatClampNeg) - (1 : Int32))]) (rest := []) (res := q_25.1) C ((by rw [e_26]; exact c_X6_done l D cy ad E X_23 ((X_23 1 (1 : Int32).toNatClampNeg) - (1 : Int32)))) gX6_addHall_X6_done rfl hd_X6_done (zW_get X_23 sM_0) rfl rfl rfl ⟨Nat.le_of_ble_eq_true rfl, Nat.le_of_ble_eq_true rfl⟩ rfl rfl (Nat.le_of_ble_eq_true rfl) ⟨Nat.zero_le _, Nat.zero_le _⟩ dX6_addHall_127 ?_
          obtain rfl := Option.some.inj h
          exact g_iret rfl C hr rfl dX6_addHall_130
        · replace h := (if_pos hc_8).symm.trans h
          refine g_aload_n (j := 0) C dX6_addHall_47 rfl rfl ?_
          refine g_iconst (v := 2) C dX6_addHall_48 (by decide) ?_
          obtain ⟨q_27, e_28, h⟩ := zlet_ex h
          refine g_vi (ws' := (zW cy ad shM E q_27.2)) (As := [.int (2 : Int32)]) (rest := []) (res := q_27.1) C ((by rw [e_28]; exact c_X6_fails l D cy ad E X (2 : Int32))) gX6_addHall_X6_fails rfl hd_X6_fails (zW_get X sM_0) rfl rfl rfl ⟨Nat.le_of_ble_eq_true rfl, Nat.le_of_ble_eq_true rfl⟩ rfl rfl (Nat.le_of_ble_eq_true rfl) ⟨Nat.zero_le _, Nat.zero_le _⟩ dX6_addHall_49 ?_
          obtain rfl := Option.some.inj h
          exact g_iret rfl C hr rfl dX6_addHall_52
      · replace h := (if_pos hc_7).symm.trans h
        refine g_aload_n (j := 0) C dX6_addHall_30 rfl rfl ?_
        refine g_iconst (v := 1) C dX6_addHall_31 (by decide) ?_
        obtain ⟨q_29, e_30, h⟩ := zlet_ex h
        refine g_vi (ws' := (zW cy ad shM E q_29.2)) (As := [.int (1 : Int32)]) (rest := []) (res := q_29.1) C ((by rw [e_30]; exact c_X6_fails l D cy ad E X (1 : Int32))) gX6_addHall_X6_fails rfl hd_X6_fails (zW_get X sM_0) rfl rfl rfl ⟨Nat.le_of_ble_eq_true rfl, Nat.le_of_ble_eq_true rfl⟩ rfl rfl (Nat.le_of_ble_eq_true rfl) ⟨Nat.zero_le _, Nat.zero_le _⟩ dX6_addHall_32 ?_
        obtain rfl := Option.some.inj h
        exact g_iret rfl C hr rfl dX6_addHall_35
theorem in_X6_addFilm_RX6 : ∀ w ∈ u_ws RX6 TX6 27, w ∈ wsX6_addFilm := by decide +kernel
theorem fl_X6_addFilm_9 : (Cond.fieldLink RX6 9 RX6 (TX6 1).2.1 (TX6 1).2.2.1) ∈ wsX6_addFilm := by decide +kernel
theorem hd_X6_addFilm : yX6_addFilm.cls = RX6 ∧ yX6_addFilm.cls ≠ "java/lang/invoke/MethodHandle" ∧ yX6_addFilm.cls ≠ "java/lang/invoke/VarHandle" ∧ (parseMethodDescriptor yX6_addFilm.desc).map (fun d => d.parameters.length) = some 5 := by decide +kernel
def f_X6_addFilm (X : Nat → Nat → Int32) (v1 v2 v3 v4 v5 : Int32) : Option (Int32 × (Nat → Nat → Int32)) := (if (f_X6_in v1 (30 : Int32) (240 : Int32)) = 0 then (zlet (f_X6_fails X (1 : Int32)) fun q_2 => some (q_2.1, q_2.2)) else (if (f_X6_in v2 (0 : Int32) (3 : Int32)) = 0 then (zlet (f_X6_fails X (1 : Int32)) fun q_5 => some (q_5.1, q_5.2)) else (if (f_X6_in v3 (1 : Int32) (63 : Int32)) = 0 then (zlet (f_X6_fails X (1 : Int32)) fun q_8 => some (q_8.1, q_8.2)) else (if (f_X6_in v4 (1 : Int32) (3 : Int32)) = 0 then (zlet (f_X6_fails X (1 : Int32)) fun q_11 => some (q_11.1, q_11.2)) else (if (f_X6_isDay v5) = 0 then (zlet (f_X6_fails X (1 : Int32)) fun q_47 => some (q_47.1, q_47.2)) else (if (X 1 (2 : Int32).toNatClampNeg) = (8 : Int32) then (zlet (f_X6_fails X (2 : Int32)) fun q_45 => some (q_45.1, q_45.2)) else ((f_X6_remembers X).bind fun q_15 => (if ((54 : Int32) + ((8 : Int32) * (q_15 1 (2 : Int32).toNatClampNeg))) < 0 ∨ 580 ≤ ((54 : Int32) + ((8 : Int32) * (q_15 1 (2 : Int32).toNatClampNeg))).toNatClampNeg then none else (zlet (zU q_15 1 ((54 : Int32) + ((8 : Int32) * (q_15 1 (2 : Int32).toNatClampNeg))).toNatClampNeg v1) fun X_18 => (if (((54 : Int32) + ((8 : Int32) * (q_15 1 (2 : Int32).toNatClampNeg))) + (1 : Int32)) < 0 ∨ 580 ≤ (((54 : Int32) + ((8 : Int32) * (q_15 1 (2 : Int32).toNatClampNeg))) + (1 : Int32)).toNatClampNeg then none else (zlet (zU X_18 1 (((54 : Int32) + ((8 : Int32) * (q_15 1 (2 : Int32).toNatClampNeg))) + (1 : Int32)).toNatClampNeg v2) fun X_21 => (if (((54 : Int32) + ((8 : Int32) * (q_15 1 (2 : Int32).toNatClampNeg))) + (2 : Int32)) < 0 ∨ 580 ≤ (((54 : Int32) + ((8 : Int32) * (q_15 1 (2 : Int32).toNatClampNeg))) + (2 : Int32)).toNatClampNeg then none else (zlet (zU X_21 1 (((54 : Int32) + ((8 : Int32) * (q_15 1 (2 : Int32).toNatClampNeg))) + (2 : Int32)).toNatClampNeg v3) fun X_24 => (if (((54 : Int32) + ((8 : Int32) * (q_15 1 (2 : Int32).toNatClampNeg))) + (3 : Int32)) < 0 ∨ 580 ≤ (((54 : Int32) + ((8 : Int32) * (q_15 1 (2 : Int32).toNatClampNeg))) + (3 : Int32)).toNatClampNeg then none else (zlet (zU X_24 1 (((54 : Int32) + ((8 : Int32) * (q_15 1 (2 : Int32).toNatClampNeg))) + (3 : Int32)).toNatClampNeg v4) fun X_27 => (if (((54 : Int32) + ((8 : Int32) * (q_15 1 (2 : Int32).toNatClampNeg))) + (4 : Int32)) < 0 ∨ 580 ≤ (((54 : Int32) + ((8 : Int32) * (q_15 1 (2 : Int32).toNatClampNeg))) + (4 : Int32)).toNatClampNeg then none else (zlet (zU X_27 1 (((54 : Int32) + ((8 : Int32) * (q_15 1 (2 : Int32).toNatClampNeg))) + (4 : Int32)).toNatClampNeg v5) fun X_30 => (if (((54 : Int32) + ((8 : Int32) * (q_15 1 (2 : Int32).toNatClampNeg))) + (5 : Int32)) < 0 ∨ 580 ≤ (((54 : Int32) + ((8 : Int32) * (q_15 1 (2 : Int32).toNatClampNeg))) + (5 : Int32)).toNatClampNeg then none else (zlet (zU X_30 1 (((54 : Int32) + ((8 : Int32) * (q_15 1 (2 : Int32).toNatClampNeg))) + (5 : Int32)).toNatClampNeg (60 : Int32)) fun X_33 => (if (((54 : Int32) + ((8 : Int32) * (q_15 1 (2 : Int32).toNatClampNeg))) + (6 : Int32)) < 0 ∨ 580 ≤ (((54 : Int32) + ((8 : Int32) * (q_15 1 (2 : Int32).toNatClampNeg))) + (6 : Int32)).toNatClampNeg then none else (zlet (zU X_33 1 (((54 : Int32) + ((8 : Int32) * (q_15 1 (2 : Int32).toNatClampNeg))) + (6 : Int32)).toNatClampNeg (10 : Int32)) fun X_36 => (if (((54 : Int32) + ((8 : Int32) * (q_15 1 (2 : Int32).toNatClampNeg))) + (7 : Int32)) < 0 ∨ 580 ≤ (((54 : Int32) + ((8 : Int32) * (q_15 1 (2 : Int32).toNatClampNeg))) + (7 : Int32)).toNatClampNeg then none else (zlet (zU X_36 1 (((54 : Int32) + ((8 : Int32) * (q_15 1 (2 : Int32).toNatClampNeg))) + (7 : Int32)).toNatClampNeg (20 : Int32)) fun X_39 => (zlet (zU X_39 1 (2 : Int32).toNatClampNeg ((X_39 1 (2 : Int32).toNatClampNeg) + (1 : Int32))) fun X_41 => (zlet (f_X6_done X_41 ((X_41 1 (2 : Int32).toNatClampNeg) - (1 : Int32))) fun q_43 => some (q_43.1, q_43.2))))))))))))))))))))))))))
set_option maxRecDepth 100000 in
set_option maxHeartbeats 4000000 in
theorem c_X6_addFilm (l : Launch) (D : va_G) (cy : Nat → ClassId) (ad : Nat → Nat) (E : va_W) (X : Nat → Nat → Int32) (v1 v2 v3 v4 v5 : Int32) {res : Int32 × (Nat → Nat → Int32)} (h : f_X6_addFilm X v1 v2 v3 v4 v5 = some res) : zMi l yX6_addFilm wsX6_addFilm (zrm 4) D (zTy cy) (zW cy ad shM E X) [.ref (ad 0), .int v1, .int v2, .int v3, .int v4, .int v5] res.1 (zW cy ad shM E res.2) := by
  refine zMi.of (cc := cX6_addFilm) (maxL := 7) (ret := (some .int)) (by decide) rfl (Nat.le_of_ble_eq_true rfl) ?_
  intro p e s m below meth c A C hr
  unfold f_X6_addFilm at h
  refine zG_L (L' := [(0, .ref (ad 0)), (1, .int v1), (2, .int v2), (3, .int v3), (4, .int v4), (5, .int v5)]) rfl ?_
  refine g_iload_n (j := 1) C dX6_addFilm_0 rfl rfl ?_
  refine g_bipush (v := 30) C dX6_addFilm_1 (by decide) ?_
  refine g_sipush (v := 240) C dX6_addFilm_3 (by decide) ?_
  refine g_si (ws' := (zW cy ad shM E X)) (As := [.int v1, .int (30 : Int32), .int (240 : Int32)]) (rest := []) (res := (f_X6_in v1 (30 : Int32) (240 : Int32))) C (c_X6_in l D cy (zW cy ad shM E X) v1 (30 : Int32) (240 : Int32)) gX6_addFilm_X6_in rfl hd_X6_in rfl rfl ⟨Nat.le_of_ble_eq_true rfl, Nat.le_of_ble_eq_true rfl⟩ rfl rfl (Nat.le_of_ble_eq_true rfl) ⟨Nat.zero_le _, Nat.zero_le _⟩ dX6_addFilm_6 ?_
  refine g_if_eq C dX6_addFilm_9 (tgt := 49) (by decide) (fun hc_1 => ?_) (fun hc_1 => ?_)
  · replace h := (if_pos hc_1).symm.trans h
    refine g_aload_n (j := 0) C dX6_addFilm_49 rfl rfl ?_
    refine g_iconst (v := 1) C dX6_addFilm_50 (by decide) ?_
    obtain ⟨q_2, e_3, h⟩ := zlet_ex h
    refine g_vi (ws' := (zW cy ad shM E q_2.2)) (As := [.int (1 : Int32)]) (rest := []) (res := q_2.1) C ((by rw [e_3]; exact c_X6_fails l D cy ad E X (1 : Int32))) gX6_addFilm_X6_fails rfl hd_X6_fails (zW_get X sM_0) rfl rfl rfl ⟨Nat.le_of_ble_eq_true rfl, Nat.le_of_ble_eq_true rfl⟩ rfl rfl (Nat.le_of_ble_eq_true rfl) ⟨Nat.zero_le _, Nat.zero_le _⟩ dX6_addFilm_51 ?_
    obtain rfl := Option.some.inj h
    exact g_iret rfl C hr rfl dX6_addFilm_54
  · replace h := (if_neg hc_1).symm.trans h
    refine g_iload_n (j := 2) C dX6_addFilm_12 rfl rfl ?_
    refine g_iconst (v := 0) C dX6_addFilm_13 (by decide) ?_
    refine g_iconst (v := 3) C dX6_addFilm_14 (by decide) ?_
    refine g_si (ws' := (zW cy ad shM E X)) (As := [.int v2, .int (0 : Int32), .int (3 : Int32)]) (rest := []) (res := (f_X6_in v2 (0 : Int32) (3 : Int32))) C (c_X6_in l D cy (zW cy ad shM E X) v2 (0 : Int32) (3 : Int32)) gX6_addFilm_X6_in rfl hd_X6_in rfl rfl ⟨Nat.le_of_ble_eq_true rfl, Nat.le_of_ble_eq_true rfl⟩ rfl rfl (Nat.le_of_ble_eq_true rfl) ⟨Nat.zero_le _, Nat.zero_le _⟩ dX6_addFilm_15 ?_
    refine g_if_eq C dX6_addFilm_18 (tgt := 49) (by decide) (fun hc_4 => ?_) (fun hc_4 => ?_)
    · replace h := (if_pos hc_4).symm.trans h
      refine g_aload_n (j := 0) C dX6_addFilm_49 rfl rfl ?_
      refine g_iconst (v := 1) C dX6_addFilm_50 (by decide) ?_
      obtain ⟨q_5, e_6, h⟩ := zlet_ex h
      refine g_vi (ws' := (zW cy ad shM E q_5.2)) (As := [.int (1 : Int32)]) (rest := []) (res := q_5.1) C ((by rw [e_6]; exact c_X6_fails l D cy ad E X (1 : Int32))) gX6_addFilm_X6_fails rfl hd_X6_fails (zW_get X sM_0) rfl rfl rfl ⟨Nat.le_of_ble_eq_true rfl, Nat.le_of_ble_eq_true rfl⟩ rfl rfl (Nat.le_of_ble_eq_true rfl) ⟨Nat.zero_le _, Nat.zero_le _⟩ dX6_addFilm_51 ?_
      obtain rfl := Option.some.inj h
      exact g_iret rfl C hr rfl dX6_addFilm_54
    · replace h := (if_neg hc_4).symm.trans h
      refine g_iload_n (j := 3) C dX6_addFilm_21 rfl rfl ?_
      refine g_iconst (v := 1) C dX6_addFilm_22 (by decide) ?_
      refine g_bipush (v := 63) C dX6_addFilm_23 (by decide) ?_
      refine g_si (ws' := (zW cy ad shM E X)) (As := [.int v3, .int (1 : Int32), .int (63 : Int32)]) (rest := []) (res := (f_X6_in v3 (1 : Int32) (63 : Int32))) C (c_X6_in l D cy (zW cy ad shM E X) v3 (1 : Int32) (63 : Int32)) gX6_addFilm_X6_in rfl hd_X6_in rfl rfl ⟨Nat.le_of_ble_eq_true rfl, Nat.le_of_ble_eq_true rfl⟩ rfl rfl (Nat.le_of_ble_eq_true rfl) ⟨Nat.zero_le _, Nat.zero_le _⟩ dX6_addFilm_25 ?_
      refine g_if_eq C dX6_addFilm_28 (tgt := 49) (by decide) (fun hc_7 => ?_) (fun hc_7 => ?_)
      · replace h := (if_pos hc_7).symm.trans h
        refine g_aload_n (j := 0) C dX6_addFilm_49 rfl rfl ?_
        refine g_iconst (v := 1) C dX6_addFilm_50 (by decide) ?_
        obtain ⟨q_8, e_9, h⟩ := zlet_ex h
        refine g_vi (ws' := (zW cy ad shM E q_8.2)) (As := [.int (1 : Int32)]) (rest := []) (res := q_8.1) C ((by rw [e_9]; exact c_X6_fails l D cy ad E X (1 : Int32))) gX6_addFilm_X6_fails rfl hd_X6_fails (zW_get X sM_0) rfl rfl rfl ⟨Nat.le_of_ble_eq_true rfl, Nat.le_of_ble_eq_true rfl⟩ rfl rfl (Nat.le_of_ble_eq_true rfl) ⟨Nat.zero_le _, Nat.zero_le _⟩ dX6_addFilm_51 ?_
        obtain rfl := Option.some.inj h
        exact g_iret rfl C hr rfl dX6_addFilm_54
      · replace h := (if_neg hc_7).symm.trans h
        refine g_iload (j := 4) C dX6_addFilm_31 rfl ?_
        refine g_iconst (v := 1) C dX6_addFilm_33 (by decide) ?_
        refine g_iconst (v := 3) C dX6_addFilm_34 (by decide) ?_
        refine g_si (ws' := (zW cy ad shM E X)) (As := [.int v4, .int (1 : Int32), .int (3 : Int32)]) (rest := []) (res := (f_X6_in v4 (1 : Int32) (3 : Int32))) C (c_X6_in l D cy (zW cy ad shM E X) v4 (1 : Int32) (3 : Int32)) gX6_addFilm_X6_in rfl hd_X6_in rfl rfl ⟨Nat.le_of_ble_eq_true rfl, Nat.le_of_ble_eq_true rfl⟩ rfl rfl (Nat.le_of_ble_eq_true rfl) ⟨Nat.zero_le _, Nat.zero_le _⟩ dX6_addFilm_35 ?_
        refine g_if_eq C dX6_addFilm_38 (tgt := 49) (by decide) (fun hc_10 => ?_) (fun hc_10 => ?_)
        · replace h := (if_pos hc_10).symm.trans h
          refine g_aload_n (j := 0) C dX6_addFilm_49 rfl rfl ?_
          refine g_iconst (v := 1) C dX6_addFilm_50 (by decide) ?_
          obtain ⟨q_11, e_12, h⟩ := zlet_ex h
          refine g_vi (ws' := (zW cy ad shM E q_11.2)) (As := [.int (1 : Int32)]) (rest := []) (res := q_11.1) C ((by rw [e_12]; exact c_X6_fails l D cy ad E X (1 : Int32))) gX6_addFilm_X6_fails rfl hd_X6_fails (zW_get X sM_0) rfl rfl rfl ⟨Nat.le_of_ble_eq_true rfl, Nat.le_of_ble_eq_true rfl⟩ rfl rfl (Nat.le_of_ble_eq_true rfl) ⟨Nat.zero_le _, Nat.zero_le _⟩ dX6_addFilm_51 ?_
          obtain rfl := Option.some.inj h
          exact g_iret rfl C hr rfl dX6_addFilm_54
        · replace h := (if_neg hc_10).symm.trans h
          refine g_iload (j := 5) C dX6_addFilm_41 rfl ?_
          refine g_si (ws' := (zW cy ad shM E X)) (As := [.int v5]) (rest := []) (res := (f_X6_isDay v5)) C (c_X6_isDay l D cy (zW cy ad shM E X) v5) gX6_addFilm_X6_isDay rfl hd_X6_isDay rfl rfl ⟨Nat.le_of_ble_eq_true rfl, Nat.le_of_ble_eq_true rfl⟩ rfl rfl (Nat.le_of_ble_eq_true rfl) ⟨Nat.zero_le _, Nat.zero_le _⟩ dX6_addFilm_43 ?_
          refine g_if_ne C dX6_addFilm_46 (tgt := 55) (by decide) (fun hc_13 => ?_) (fun hc_13 => ?_)
          · replace h := (if_neg hc_13).symm.trans h
            refine g_aload_n (j := 0) C dX6_addFilm_55 rfl rfl ?_
            refine g_getr (k := 1) (N := 27) C sM_0 rfl in_X6_addFilm_RX6 (by decide) rfl fl_X6_addFilm_9 rfl dX6_addFilm_56 ?_
            refine g_iconst (v := 2) C dX6_addFilm_59 (by decide) ?_
            refine g_iald C sM_1 (by decide) dX6_addFilm_60 ?_
            refine g_bipush (v := 8) C dX6_addFilm_61 (by decide) ?_
            refine g_icmp_ne C dX6_addFilm_63 (tgt := 72) (by decide) (fun hc_14 => ?_) (fun hc_14 => ?_)
            · replace h := (if_neg hc_14).symm.trans h
              refine g_aload_n (j := 0) C dX6_addFilm_72 rfl rfl ?_
              obtain ⟨q_15, hq_16, h⟩ := bind_isome h
              refine g_vv (ws' := (zW cy ad shM E q_15)) (As := []) (rest := []) C (c_X6_remembers l D cy ad E X hq_16) gX6_addFilm_X6_remembers rfl hd_X6_remembers (zW_get X sM_0) rfl rfl rfl ⟨Nat.le_of_ble_eq_true rfl, Nat.le_of_ble_eq_true rfl⟩ rfl rfl (Nat.le_of_ble_eq_true rfl) ⟨Nat.zero_le _, Nat.zero_le _⟩ dX6_addFilm_73 ?_
              refine g_bipush (v := 54) C dX6_addFilm_76 (by decide) ?_
              refine g_bipush (v := 8) C dX6_addFilm_78 (by decide) ?_
              refine g_aload_n (j := 0) C dX6_addFilm_80 rfl rfl ?_
              refine g_getr (k := 1) (N := 27) C sM_0 rfl in_X6_addFilm_RX6 (by decide) rfl fl_X6_addFilm_9 rfl dX6_addFilm_81 ?_
              refine g_iconst (v := 2) C dX6_addFilm_84 (by decide) ?_
              refine g_iald C sM_1 (by decide) dX6_addFilm_85 ?_
              refine g_imul C dX6_addFilm_86 ?_
              refine g_iadd C dX6_addFilm_87 ?_
              refine g_istore (L' := [(6, .int ((54 : Int32) + ((8 : Int32) * (q_15 1 (2 : Int32).toNatClampNeg)))), (0, .ref (ad 0)), (1, .int v1), (2, .int v2), (3, .int v3), (4, .int v4), (5, .int v5)]) C dX6_addFilm_88 (by decide) rfl ?_
              refine g_aload_n (j := 1) C dX6_addFilm_90 rfl rfl ?_
              refine g_getr (k := 1) (N := 27) C sM_0 rfl in_X6_addFilm_RX6 (by decide) rfl fl_X6_addFilm_9 rfl dX6_addFilm_91 ?_
              refine g_iload (j := 0) C dX6_addFilm_94 rfl ?_
              refine g_iload_n (j := 2) C dX6_addFilm_96 rfl rfl ?_
              obtain ⟨hi_17, h⟩ := ite_inone h
              refine g_iast C sM_1 hi_17 dX6_addFilm_97 ?_
              obtain ⟨X_18, e_19, h⟩ := zlet_ex h
              rw [← e_19]
              refine g_aload_n (j := 1) C dX6_addFilm_98 rfl rfl ?_
              refine g_getr (k := 1) (N := 27) C sM_0 rfl in_X6_addFilm_RX6 (by decide) rfl fl_X6_addFilm_9 rfl dX6_addFilm_99 ?_
              refine g_iload (j := 0) C dX6_addFilm_102 rfl ?_
              refine g_iconst (v := 1) C dX6_addFilm_104 (by decide) ?_
              refine g_iadd C dX6_addFilm_105 ?_
              refine g_iload_n (j := 3) C dX6_addFilm_106 rfl rfl ?_
              obtain ⟨hi_20, h⟩ := ite_inone h
              refine g_iast C sM_1 hi_20 dX6_addFilm_107 ?_
              obtain ⟨X_21, e_22, h⟩ := zlet_ex h
              rw [← e_22]
              refine g_aload_n (j := 1) C dX6_addFilm_108 rfl rfl ?_
              refine g_getr (k := 1) (N := 27) C sM_0 rfl in_X6_addFilm_RX6 (by decide) rfl fl_X6_addFilm_9 rfl dX6_addFilm_109 ?_
              refine g_iload (j := 0) C dX6_addFilm_112 rfl ?_
              refine g_iconst (v := 2) C dX6_addFilm_114 (by decide) ?_
              refine g_iadd C dX6_addFilm_115 ?_
              refine g_iload_n (j := 4) C dX6_addFilm_116 rfl rfl ?_
              obtain ⟨hi_23, h⟩ := ite_inone h
              refine g_iast C sM_1 hi_23 dX6_addFilm_117 ?_
              obtain ⟨X_24, e_25, h⟩ := zlet_ex h
              rw [← e_25]
              refine g_aload_n (j := 1) C dX6_addFilm_118 rfl rfl ?_
              refine g_getr (k := 1) (N := 27) C sM_0 rfl in_X6_addFilm_RX6 (by decide) rfl fl_X6_addFilm_9 rfl dX6_addFilm_119 ?_
              refine g_iload (j := 0) C dX6_addFilm_122 rfl ?_
              refine g_iconst (v := 3) C dX6_addFilm_124 (by decide) ?_
              refine g_iadd C dX6_addFilm_125 ?_
              refine g_iload (j := 5) C dX6_addFilm_126 rfl ?_
              obtain ⟨hi_26, h⟩ := ite_inone h
              refine g_iast C sM_1 hi_26 dX6_addFilm_128 ?_
              obtain ⟨X_27, e_28, h⟩ := zlet_ex h
              rw [← e_28]
              refine g_aload_n (j := 1) C dX6_addFilm_129 rfl rfl ?_
              refine g_getr (k := 1) (N := 27) C sM_0 rfl in_X6_addFilm_RX6 (by decide) rfl fl_X6_addFilm_9 rfl dX6_addFilm_130 ?_
              refine g_iload (j := 0) C dX6_addFilm_133 rfl ?_
              refine g_iconst (v := 4) C dX6_addFilm_135 (by decide) ?_
              refine g_iadd C dX6_addFilm_136 ?_
              refine g_iload (j := 6) C dX6_addFilm_137 rfl ?_
              obtain ⟨hi_29, h⟩ := ite_inone h
              refine g_iast C sM_1 hi_29 dX6_addFilm_139 ?_
              obtain ⟨X_30, e_31, h⟩ := zlet_ex h
              rw [← e_31]
              refine g_aload_n (j := 1) C dX6_addFilm_140 rfl rfl ?_
              refine g_getr (k := 1) (N := 27) C sM_0 rfl in_X6_addFilm_RX6 (by decide) rfl fl_X6_addFilm_9 rfl dX6_addFilm_141 ?_
              refine g_iload (j := 0) C dX6_addFilm_144 rfl ?_
              refine g_iconst (v := 5) C dX6_addFilm_146 (by decide) ?_
              refine g_iadd C dX6_addFilm_147 ?_
              refine g_bipush (v := 60) C dX6_addFilm_148 (by decide) ?_
              obtain ⟨hi_32, h⟩ := ite_inone h
              refine g_iast C sM_1 hi_32 dX6_addFilm_150 ?_
              obtain ⟨X_33, e_34, h⟩ := zlet_ex h
              rw [← e_34]
              refine g_aload_n (j := 1) C dX6_addFilm_151 rfl rfl ?_
              refine g_getr (k := 1) (N := 27) C sM_0 rfl in_X6_addFilm_RX6 (by decide) rfl fl_X6_addFilm_9 rfl dX6_addFilm_152 ?_
              refine g_iload (j := 0) C dX6_addFilm_155 rfl ?_
              refine g_bipush (v := 6) C dX6_addFilm_157 (by decide) ?_
              refine g_iadd C dX6_addFilm_159 ?_
              refine g_bipush (v := 10) C dX6_addFilm_160 (by decide) ?_
              obtain ⟨hi_35, h⟩ := ite_inone h
              refine g_iast C sM_1 hi_35 dX6_addFilm_162 ?_
              obtain ⟨X_36, e_37, h⟩ := zlet_ex h
              rw [← e_37]
              refine g_aload_n (j := 1) C dX6_addFilm_163 rfl rfl ?_
              refine g_getr (k := 1) (N := 27) C sM_0 rfl in_X6_addFilm_RX6 (by decide) rfl fl_X6_addFilm_9 rfl dX6_addFilm_164 ?_
              refine g_iload (j := 0) C dX6_addFilm_167 rfl ?_
              refine g_bipush (v := 7) C dX6_addFilm_169 (by decide) ?_
              refine g_iadd C dX6_addFilm_171 ?_
              refine g_bipush (v := 20) C dX6_addFilm_172 (by decide) ?_
              obtain ⟨hi_38, h⟩ := ite_inone h
              refine g_iast C sM_1 hi_38 dX6_addFilm_174 ?_
              obtain ⟨X_39, e_40, h⟩ := zlet_ex h
              rw [← e_40]
              refine g_aload_n (j := 1) C dX6_addFilm_175 rfl rfl ?_
              refine g_getr (k := 1) (N := 27) C sM_0 rfl in_X6_addFilm_RX6 (by decide) rfl fl_X6_addFilm_9 rfl dX6_addFilm_176 ?_
              refine g_iconst (v := 2) C dX6_addFilm_179 (by decide) ?_
              refine g_dup2 C dX6_addFilm_180 rfl rfl ?_
              refine g_iald C sM_1 (by decide) dX6_addFilm_181 ?_
              refine g_iconst (v := 1) C dX6_addFilm_182 (by decide) ?_
              refine g_iadd C dX6_addFilm_183 ?_
              refine g_iast C sM_1 (by decide) dX6_addFilm_184 ?_
              obtain ⟨X_41, e_42, h⟩ := zlet_ex h
              rw [← e_42]
              refine g_aload_n (j := 1) C dX6_addFilm_185 rfl rfl ?_
              refine g_aload_n (j := 1) C dX6_addFilm_186 rfl rfl ?_
              refine g_getr (k := 1) (N := 27) C sM_0 rfl in_X6_addFilm_RX6 (by decide) rfl fl_X6_addFilm_9 rfl dX6_addFilm_187 ?_
              refine g_iconst (v := 2) C dX6_addFilm_190 (by decide) ?_
              refine g_iald C sM_1 (by decide) dX6_addFilm_191 ?_
              refine g_iconst (v := 1) C dX6_addFilm_192 (by decide) ?_
              refine g_isub C dX6_addFilm_193 ?_
              obtain ⟨q_43, e_44, h⟩ := zlet_ex h
              refine g_vi (ws' := (zW cy ad shM E q_43.2)) (As := [.int ((X_41 1 (2 : Int32).toNatClampNeg) - (1 : Int32))]) (rest := []) (res := q_43.1) C ((by rw [e_44]; exact c_X6_done l D cy ad E X_41 ((X_41 1 (2 : Int32).toNatClampNeg) - (1 : Int32)))) gX6_addFilm_X6_done rfl hd_X6_done (zW_get X_41 sM_0) rfl rfl rfl ⟨Nat.le_of_ble_eq_true rfl, Nat.le_of_ble_eq_true rfl⟩ rfl rfl (Nat.le_of_ble_eq_true rfl) ⟨Nat.zero_le _, Nat.zero_le _⟩ dX6_addFilm_194 ?_
              obtain rfl := Option.some.inj h
              exact g_iret rfl C hr rfl dX6_addFilm_197
            · replace h := (if_pos hc_14).symm.trans h
              refine g_aload_n (j := 0) C dX6_addFilm_66 rfl rfl ?_
              refine g_iconst (v := 2) C dX6_addFilm_67 (by decide) ?_
              obtain ⟨q_45, e_46, h⟩ := zlet_ex h
              refine g_vi (ws' := (zW cy ad shM E q_45.2)) (As := [.int (2 : Int32)]) (rest := []) (res := q_45.1) C ((by rw [e_46]; exact c_X6_fails l D cy ad E X (2 : Int32))) gX6_addFilm_X6_fails rfl hd_X6_fails (zW_get X sM_0) rfl rfl rfl ⟨Nat.le_of_ble_eq_true rfl, Nat.le_of_ble_eq_true rfl⟩ rfl rfl (Nat.le_of_ble_eq_true rfl) ⟨Nat.zero_le _, Nat.zero_le _⟩ dX6_addFilm_68 ?_
              obtain rfl := Option.some.inj h
              exact g_iret rfl C hr rfl dX6_addFilm_71
          · replace h := (if_pos hc_13).symm.trans h
            refine g_aload_n (j := 0) C dX6_addFilm_49 rfl rfl ?_
            refine g_iconst (v := 1) C dX6_addFilm_50 (by decide) ?_
            obtain ⟨q_47, e_48, h⟩ := zlet_ex h
            refine g_vi (ws' := (zW cy ad shM E q_47.2)) (As := [.int (1 : Int32)]) (rest := []) (res := q_47.1) C ((by rw [e_48]; exact c_X6_fails l D cy ad E X (1 : Int32))) gX6_addFilm_X6_fails rfl hd_X6_fails (zW_get X sM_0) rfl rfl rfl ⟨Nat.le_of_ble_eq_true rfl, Nat.le_of_ble_eq_true rfl⟩ rfl rfl (Nat.le_of_ble_eq_true rfl) ⟨Nat.zero_le _, Nat.zero_le _⟩ dX6_addFilm_51 ?_
            obtain rfl := Option.some.inj h
            exact g_iret rfl C hr rfl dX6_addFilm_54
theorem in_X6_setShares_RX6 : ∀ w ∈ u_ws RX6 TX6 27, w ∈ wsX6_setShares := by decide +kernel
theorem fl_X6_setShares_9 : (Cond.fieldLink RX6 9 RX6 (TX6 1).2.1 (TX6 1).2.2.1) ∈ wsX6_setShares := by decide +kernel
theorem hd_X6_setShares : yX6_setShares.cls = RX6 ∧ yX6_setShares.cls ≠ "java/lang/invoke/MethodHandle" ∧ yX6_setShares.cls ≠ "java/lang/invoke/VarHandle" ∧ (parseMethodDescriptor yX6_setShares.desc).map (fun d => d.parameters.length) = some 4 := by decide +kernel
def f_X6_setShares (X : Nat → Nat → Int32) (v1 v2 v3 v4 : Int32) : Option (Int32 × (Nat → Nat → Int32)) := (if (f_X6_isFilm X v1) = 0 then (zlet (f_X6_fails X (1 : Int32)) fun q_26 => some (q_26.1, q_26.2)) else (if (f_X6_in v2 (0 : Int32) (100 : Int32)) = 0 then (zlet (f_X6_fails X (2 : Int32)) fun q_3 => some (q_3.1, q_3.2)) else (if (f_X6_in v3 (0 : Int32) (50 : Int32)) = 0 then (zlet (f_X6_fails X (2 : Int32)) fun q_6 => some (q_6.1, q_6.2)) else (if (f_X6_in v4 (0 : Int32) v2) = 0 then (zlet (f_X6_fails X (2 : Int32)) fun q_24 => some (q_24.1, q_24.2)) else ((f_X6_remembers X).bind fun q_9 => ((f_X6_filmAt q_9 v1 (5 : Int32)).bind fun q_11 => (if (((54 : Int32) + ((8 : Int32) * v1)) + (5 : Int32)) < 0 ∨ 580 ≤ (((54 : Int32) + ((8 : Int32) * v1)) + (5 : Int32)).toNatClampNeg then none else (zlet (zU q_9 1 (((54 : Int32) + ((8 : Int32) * v1)) + (5 : Int32)).toNatClampNeg v2) fun X_14 => (if (((54 : Int32) + ((8 : Int32) * v1)) + (6 : Int32)) < 0 ∨ 580 ≤ (((54 : Int32) + ((8 : Int32) * v1)) + (6 : Int32)).toNatClampNeg then none else (zlet (zU X_14 1 (((54 : Int32) + ((8 : Int32) * v1)) + (6 : Int32)).toNatClampNeg v3) fun X_17 => (if (((54 : Int32) + ((8 : Int32) * v1)) + (7 : Int32)) < 0 ∨ 580 ≤ (((54 : Int32) + ((8 : Int32) * v1)) + (7 : Int32)).toNatClampNeg then none else (zlet (zU X_17 1 (((54 : Int32) + ((8 : Int32) * v1)) + (7 : Int32)).toNatClampNeg v4) fun X_20 => (zlet (f_X6_done X_20 q_11) fun q_22 => some (q_22.1, q_22.2))))))))))))))
set_option maxRecDepth 100000 in
set_option maxHeartbeats 4000000 in
theorem c_X6_setShares (l : Launch) (D : va_G) (cy : Nat → ClassId) (ad : Nat → Nat) (E : va_W) (X : Nat → Nat → Int32) (v1 v2 v3 v4 : Int32) {res : Int32 × (Nat → Nat → Int32)} (h : f_X6_setShares X v1 v2 v3 v4 = some res) : zMi l yX6_setShares wsX6_setShares (zrm 4) D (zTy cy) (zW cy ad shM E X) [.ref (ad 0), .int v1, .int v2, .int v3, .int v4] res.1 (zW cy ad shM E res.2) := by
  refine zMi.of (cc := cX6_setShares) (maxL := 6) (ret := (some .int)) (by decide) rfl (Nat.le_of_ble_eq_true rfl) ?_
  intro p e s m below meth c A C hr
  unfold f_X6_setShares at h
  refine zG_L (L' := [(0, .ref (ad 0)), (1, .int v1), (2, .int v2), (3, .int v3), (4, .int v4)]) rfl ?_
  refine g_aload_n (j := 0) C dX6_setShares_0 rfl rfl ?_
  refine g_iload_n (j := 1) C dX6_setShares_1 rfl rfl ?_
  refine g_vi (ws' := (zW cy ad shM E X)) (As := [.int v1]) (rest := []) (res := (f_X6_isFilm X v1)) C (c_X6_isFilm l D cy ad E X v1) gX6_setShares_X6_isFilm rfl hd_X6_isFilm (zW_get X sM_0) rfl rfl rfl ⟨Nat.le_of_ble_eq_true rfl, Nat.le_of_ble_eq_true rfl⟩ rfl rfl (Nat.le_of_ble_eq_true rfl) ⟨Nat.zero_le _, Nat.zero_le _⟩ dX6_setShares_2 ?_
  refine g_if_ne C dX6_setShares_5 (tgt := 14) (by decide) (fun hc_1 => ?_) (fun hc_1 => ?_)
  · replace h := (if_neg hc_1).symm.trans h
    refine g_iload_n (j := 2) C dX6_setShares_14 rfl rfl ?_
    refine g_iconst (v := 0) C dX6_setShares_15 (by decide) ?_
    refine g_bipush (v := 100) C dX6_setShares_16 (by decide) ?_
    refine g_si (ws' := (zW cy ad shM E X)) (As := [.int v2, .int (0 : Int32), .int (100 : Int32)]) (rest := []) (res := (f_X6_in v2 (0 : Int32) (100 : Int32))) C (c_X6_in l D cy (zW cy ad shM E X) v2 (0 : Int32) (100 : Int32)) gX6_setShares_X6_in rfl hd_X6_in rfl rfl ⟨Nat.le_of_ble_eq_true rfl, Nat.le_of_ble_eq_true rfl⟩ rfl rfl (Nat.le_of_ble_eq_true rfl) ⟨Nat.zero_le _, Nat.zero_le _⟩ dX6_setShares_18 ?_
    refine g_if_eq C dX6_setShares_21 (tgt := 44) (by decide) (fun hc_2 => ?_) (fun hc_2 => ?_)
    · replace h := (if_pos hc_2).symm.trans h
      refine g_aload_n (j := 0) C dX6_setShares_44 rfl rfl ?_
      refine g_iconst (v := 2) C dX6_setShares_45 (by decide) ?_
      obtain ⟨q_3, e_4, h⟩ := zlet_ex h
      refine g_vi (ws' := (zW cy ad shM E q_3.2)) (As := [.int (2 : Int32)]) (rest := []) (res := q_3.1) C ((by rw [e_4]; exact c_X6_fails l D cy ad E X (2 : Int32))) gX6_setShares_X6_fails rfl hd_X6_fails (zW_get X sM_0) rfl rfl rfl ⟨Nat.le_of_ble_eq_true rfl, Nat.le_of_ble_eq_true rfl⟩ rfl rfl (Nat.le_of_ble_eq_true rfl) ⟨Nat.zero_le _, Nat.zero_le _⟩ dX6_setShares_46 ?_
      obtain rfl := Option.some.inj h
      exact g_iret rfl C hr rfl dX6_setShares_49
    · replace h := (if_neg hc_2).symm.trans h
      refine g_iload_n (j := 3) C dX6_setShares_24 rfl rfl ?_
      refine g_iconst (v := 0) C dX6_setShares_25 (by decide) ?_
      refine g_bipush (v := 50) C dX6_setShares_26 (by decide) ?_
      refine g_si (ws' := (zW cy ad shM E X)) (As := [.int v3, .int (0 : Int32), .int (50 : Int32)]) (rest := []) (res := (f_X6_in v3 (0 : Int32) (50 : Int32))) C (c_X6_in l D cy (zW cy ad shM E X) v3 (0 : Int32) (50 : Int32)) gX6_setShares_X6_in rfl hd_X6_in rfl rfl ⟨Nat.le_of_ble_eq_true rfl, Nat.le_of_ble_eq_true rfl⟩ rfl rfl (Nat.le_of_ble_eq_true rfl) ⟨Nat.zero_le _, Nat.zero_le _⟩ dX6_setShares_28 ?_
      refine g_if_eq C dX6_setShares_31 (tgt := 44) (by decide) (fun hc_5 => ?_) (fun hc_5 => ?_)
      · replace h := (if_pos hc_5).symm.trans h
        refine g_aload_n (j := 0) C dX6_setShares_44 rfl rfl ?_
        refine g_iconst (v := 2) C dX6_setShares_45 (by decide) ?_
        obtain ⟨q_6, e_7, h⟩ := zlet_ex h
        refine g_vi (ws' := (zW cy ad shM E q_6.2)) (As := [.int (2 : Int32)]) (rest := []) (res := q_6.1) C ((by rw [e_7]; exact c_X6_fails l D cy ad E X (2 : Int32))) gX6_setShares_X6_fails rfl hd_X6_fails (zW_get X sM_0) rfl rfl rfl ⟨Nat.le_of_ble_eq_true rfl, Nat.le_of_ble_eq_true rfl⟩ rfl rfl (Nat.le_of_ble_eq_true rfl) ⟨Nat.zero_le _, Nat.zero_le _⟩ dX6_setShares_46 ?_
        obtain rfl := Option.some.inj h
        exact g_iret rfl C hr rfl dX6_setShares_49
      · replace h := (if_neg hc_5).symm.trans h
        refine g_iload (j := 4) C dX6_setShares_34 rfl ?_
        refine g_iconst (v := 0) C dX6_setShares_36 (by decide) ?_
        refine g_iload_n (j := 2) C dX6_setShares_37 rfl rfl ?_
        refine g_si (ws' := (zW cy ad shM E X)) (As := [.int v4, .int (0 : Int32), .int v2]) (rest := []) (res := (f_X6_in v4 (0 : Int32) v2)) C (c_X6_in l D cy (zW cy ad shM E X) v4 (0 : Int32) v2) gX6_setShares_X6_in rfl hd_X6_in rfl rfl ⟨Nat.le_of_ble_eq_true rfl, Nat.le_of_ble_eq_true rfl⟩ rfl rfl (Nat.le_of_ble_eq_true rfl) ⟨Nat.zero_le _, Nat.zero_le _⟩ dX6_setShares_38 ?_
        refine g_if_ne C dX6_setShares_41 (tgt := 50) (by decide) (fun hc_8 => ?_) (fun hc_8 => ?_)
        · replace h := (if_neg hc_8).symm.trans h
          refine g_aload_n (j := 0) C dX6_setShares_50 rfl rfl ?_
          obtain ⟨q_9, hq_10, h⟩ := bind_isome h
          refine g_vv (ws' := (zW cy ad shM E q_9)) (As := []) (rest := []) C (c_X6_remembers l D cy ad E X hq_10) gX6_setShares_X6_remembers rfl hd_X6_remembers (zW_get X sM_0) rfl rfl rfl ⟨Nat.le_of_ble_eq_true rfl, Nat.le_of_ble_eq_true rfl⟩ rfl rfl (Nat.le_of_ble_eq_true rfl) ⟨Nat.zero_le _, Nat.zero_le _⟩ dX6_setShares_51 ?_
          refine g_aload_n (j := 0) C dX6_setShares_54 rfl rfl ?_
          refine g_iload_n (j := 1) C dX6_setShares_55 rfl rfl ?_
          refine g_iconst (v := 5) C dX6_setShares_56 (by decide) ?_
          obtain ⟨q_11, hq_12, h⟩ := bind_isome h
          refine g_vi (ws' := (zW cy ad shM E q_9)) (As := [.int v1, .int (5 : Int32)]) (rest := []) (res := q_11) C (c_X6_filmAt l D cy ad E q_9 v1 (5 : Int32) hq_12) gX6_setShares_X6_filmAt rfl hd_X6_filmAt (zW_get q_9 sM_0) rfl rfl rfl ⟨Nat.le_of_ble_eq_true rfl, Nat.le_of_ble_eq_true rfl⟩ rfl rfl (Nat.le_of_ble_eq_true rfl) ⟨Nat.zero_le _, Nat.zero_le _⟩ dX6_setShares_57 ?_
          refine g_istore (L' := [(5, .int q_11), (0, .ref (ad 0)), (1, .int v1), (2, .int v2), (3, .int v3), (4, .int v4)]) C dX6_setShares_60 (by decide) rfl ?_
          refine g_aload_n (j := 1) C dX6_setShares_62 rfl rfl ?_
          refine g_getr (k := 1) (N := 27) C sM_0 rfl in_X6_setShares_RX6 (by decide) rfl fl_X6_setShares_9 rfl dX6_setShares_63 ?_
          refine g_bipush (v := 54) C dX6_setShares_66 (by decide) ?_
          refine g_bipush (v := 8) C dX6_setShares_68 (by decide) ?_
          refine g_iload_n (j := 2) C dX6_setShares_70 rfl rfl ?_
          refine g_imul C dX6_setShares_71 ?_
          refine g_iadd C dX6_setShares_72 ?_
          refine g_iconst (v := 5) C dX6_setShares_73 (by decide) ?_
          refine g_iadd C dX6_setShares_74 ?_
          refine g_iload_n (j := 3) C dX6_setShares_75 rfl rfl ?_
          obtain ⟨hi_13, h⟩ := ite_inone h
          refine g_iast C sM_1 hi_13 dX6_setShares_76 ?_
          obtain ⟨X_14, e_15, h⟩ := zlet_ex h
          rw [← e_15]
          refine g_aload_n (j := 1) C dX6_setShares_77 rfl rfl ?_
          refine g_getr (k := 1) (N := 27) C sM_0 rfl in_X6_setShares_RX6 (by decide) rfl fl_X6_setShares_9 rfl dX6_setShares_78 ?_
          refine g_bipush (v := 54) C dX6_setShares_81 (by decide) ?_
          refine g_bipush (v := 8) C dX6_setShares_83 (by decide) ?_
          refine g_iload_n (j := 2) C dX6_setShares_85 rfl rfl ?_
          refine g_imul C dX6_setShares_86 ?_
          refine g_iadd C dX6_setShares_87 ?_
          refine g_bipush (v := 6) C dX6_setShares_88 (by decide) ?_
          refine g_iadd C dX6_setShares_90 ?_
          refine g_iload_n (j := 4) C dX6_setShares_91 rfl rfl ?_
          obtain ⟨hi_16, h⟩ := ite_inone h
          refine g_iast C sM_1 hi_16 dX6_setShares_92 ?_
          obtain ⟨X_17, e_18, h⟩ := zlet_ex h
          rw [← e_18]
          refine g_aload_n (j := 1) C dX6_setShares_93 rfl rfl ?_
          refine g_getr (k := 1) (N := 27) C sM_0 rfl in_X6_setShares_RX6 (by decide) rfl fl_X6_setShares_9 rfl dX6_setShares_94 ?_
          refine g_bipush (v := 54) C dX6_setShares_97 (by decide) ?_
          refine g_bipush (v := 8) C dX6_setShares_99 (by decide) ?_
          refine g_iload_n (j := 2) C dX6_setShares_101 rfl rfl ?_
          refine g_imul C dX6_setShares_102 ?_
          refine g_iadd C dX6_setShares_103 ?_
          refine g_bipush (v := 7) C dX6_setShares_104 (by decide) ?_
          refine g_iadd C dX6_setShares_106 ?_
          refine g_iload (j := 5) C dX6_setShares_107 rfl ?_
          obtain ⟨hi_19, h⟩ := ite_inone h
          refine g_iast C sM_1 hi_19 dX6_setShares_109 ?_
          obtain ⟨X_20, e_21, h⟩ := zlet_ex h
          rw [← e_21]
          refine g_aload_n (j := 1) C dX6_setShares_110 rfl rfl ?_
          refine g_iload (j := 0) C dX6_setShares_111 rfl ?_
          obtain ⟨q_22, e_23, h⟩ := zlet_ex h
          refine g_vi (ws' := (zW cy ad shM E q_22.2)) (As := [.int q_11]) (rest := []) (res := q_22.1) C ((by rw [e_23]; exact c_X6_done l D cy ad E X_20 q_11)) gX6_setShares_X6_done rfl hd_X6_done (zW_get X_20 sM_0) rfl rfl rfl ⟨Nat.le_of_ble_eq_true rfl, Nat.le_of_ble_eq_true rfl⟩ rfl rfl (Nat.le_of_ble_eq_true rfl) ⟨Nat.zero_le _, Nat.zero_le _⟩ dX6_setShares_113 ?_
          obtain rfl := Option.some.inj h
          exact g_iret rfl C hr rfl dX6_setShares_116
        · replace h := (if_pos hc_8).symm.trans h
          refine g_aload_n (j := 0) C dX6_setShares_44 rfl rfl ?_
          refine g_iconst (v := 2) C dX6_setShares_45 (by decide) ?_
          obtain ⟨q_24, e_25, h⟩ := zlet_ex h
          refine g_vi (ws' := (zW cy ad shM E q_24.2)) (As := [.int (2 : Int32)]) (rest := []) (res := q_24.1) C ((by rw [e_25]; exact c_X6_fails l D cy ad E X (2 : Int32))) gX6_setShares_X6_fails rfl hd_X6_fails (zW_get X sM_0) rfl rfl rfl ⟨Nat.le_of_ble_eq_true rfl, Nat.le_of_ble_eq_true rfl⟩ rfl rfl (Nat.le_of_ble_eq_true rfl) ⟨Nat.zero_le _, Nat.zero_le _⟩ dX6_setShares_46 ?_
          obtain rfl := Option.some.inj h
          exact g_iret rfl C hr rfl dX6_setShares_49
  · replace h := (if_pos hc_1).symm.trans h
    refine g_aload_n (j := 0) C dX6_setShares_8 rfl rfl ?_
    refine g_iconst (v := 1) C dX6_setShares_9 (by decide) ?_
    obtain ⟨q_26, e_27, h⟩ := zlet_ex h
    refine g_vi (ws' := (zW cy ad shM E q_26.2)) (As := [.int (1 : Int32)]) (rest := []) (res := q_26.1) C ((by rw [e_27]; exact c_X6_fails l D cy ad E X (1 : Int32))) gX6_setShares_X6_fails rfl hd_X6_fails (zW_get X sM_0) rfl rfl rfl ⟨Nat.le_of_ble_eq_true rfl, Nat.le_of_ble_eq_true rfl⟩ rfl rfl (Nat.le_of_ble_eq_true rfl) ⟨Nat.zero_le _, Nat.zero_le _⟩ dX6_setShares_10 ?_
    obtain rfl := Option.some.inj h
    exact g_iret rfl C hr rfl dX6_setShares_13
theorem in_X6_addTrailer_RX6 : ∀ w ∈ u_ws RX6 TX6 27, w ∈ wsX6_addTrailer := by decide +kernel
theorem fl_X6_addTrailer_9 : (Cond.fieldLink RX6 9 RX6 (TX6 1).2.1 (TX6 1).2.2.1) ∈ wsX6_addTrailer := by decide +kernel
theorem hd_X6_addTrailer : yX6_addTrailer.cls = RX6 ∧ yX6_addTrailer.cls ≠ "java/lang/invoke/MethodHandle" ∧ yX6_addTrailer.cls ≠ "java/lang/invoke/VarHandle" ∧ (parseMethodDescriptor yX6_addTrailer.desc).map (fun d => d.parameters.length) = some 4 := by decide +kernel
def f_X6_addTrailer (X : Nat → Nat → Int32) (v1 v2 v3 v4 : Int32) : Option (Int32 × (Nat → Nat → Int32)) := (if (f_X6_isFilm X v1) = 0 then (zlet (f_X6_fails X (1 : Int32)) fun q_32 => some (q_32.1, q_32.2)) else (if (f_X6_in v2 (1 : Int32) (6 : Int32)) = 0 then (zlet (f_X6_fails X (2 : Int32)) fun q_3 => some (q_3.1, q_3.2)) else (if (f_X6_in v3 (0 : Int32) (3 : Int32)) = 0 then (zlet (f_X6_fails X (2 : Int32)) fun q_6 => some (q_6.1, q_6.2)) else (if (f_X6_in v4 (1 : Int32) (63 : Int32)) = 0 then (zlet (f_X6_fails X (2 : Int32)) fun q_30 => some (q_30.1, q_30.2)) else (if (X 1 (3 : Int32).toNatClampNeg) = (10 : Int32) then (zlet (f_X6_fails X (3 : Int32)) fun q_28 => some (q_28.1, q_28.2)) else ((f_X6_remembers X).bind fun q_10 => (if ((118 : Int32) + ((4 : Int32) * (q_10 1 (3 : Int32).toNatClampNeg))) < 0 ∨ 580 ≤ ((118 : Int32) + ((4 : Int32) * (q_10 1 (3 : Int32).toNatClampNeg))).toNatClampNeg then none else (zlet (zU q_10 1 ((118 : Int32) + ((4 : Int32) * (q_10 1 (3 : Int32).toNatClampNeg))).toNatClampNeg v1) fun X_13 => (if (((118 : Int32) + ((4 : Int32) * (q_10 1 (3 : Int32).toNatClampNeg))) + (1 : Int32)) < 0 ∨ 580 ≤ (((118 : Int32) + ((4 : Int32) * (q_10 1 (3 : Int32).toNatClampNeg))) + (1 : Int32)).toNatClampNeg then none else (zlet (zU X_13 1 (((118 : Int32) + ((4 : Int32) * (q_10 1 (3 : Int32).toNatClampNeg))) + (1 : Int32)).toNatClampNeg v2) fun X_16 => (if (((118 : Int32) + ((4 : Int32) * (q_10 1 (3 : Int32).toNatClampNeg))) + (2 : Int32)) < 0 ∨ 580 ≤ (((118 : Int32) + ((4 : Int32) * (q_10 1 (3 : Int32).toNatClampNeg))) + (2 : Int32)).toNatClampNeg then none else (zlet (zU X_16 1 (((118 : Int32) + ((4 : Int32) * (q_10 1 (3 : Int32).toNatClampNeg))) + (2 : Int32)).toNatClampNeg v3) fun X_19 => (if (((118 : Int32) + ((4 : Int32) * (q_10 1 (3 : Int32).toNatClampNeg))) + (3 : Int32)) < 0 ∨ 580 ≤ (((118 : Int32) + ((4 : Int32) * (q_10 1 (3 : Int32).toNatClampNeg))) + (3 : Int32)).toNatClampNeg then none else (zlet (zU X_19 1 (((118 : Int32) + ((4 : Int32) * (q_10 1 (3 : Int32).toNatClampNeg))) + (3 : Int32)).toNatClampNeg v4) fun X_22 => (zlet (zU X_22 1 (3 : Int32).toNatClampNeg ((X_22 1 (3 : Int32).toNatClampNeg) + (1 : Int32))) fun X_24 => (zlet (f_X6_done X_24 ((X_24 1 (3 : Int32).toNatClampNeg) - (1 : Int32))) fun q_26 => some (q_26.1, q_26.2)))))))))))))))))
set_option maxRecDepth 100000 in
set_option maxHeartbeats 4000000 in
theorem c_X6_addTrailer (l : Launch) (D : va_G) (cy : Nat → ClassId) (ad : Nat → Nat) (E : va_W) (X : Nat → Nat → Int32) (v1 v2 v3 v4 : Int32) {res : Int32 × (Nat → Nat → Int32)} (h : f_X6_addTrailer X v1 v2 v3 v4 = some res) : zMi l yX6_addTrailer wsX6_addTrailer (zrm 4) D (zTy cy) (zW cy ad shM E X) [.ref (ad 0), .int v1, .int v2, .int v3, .int v4] res.1 (zW cy ad shM E res.2) := by
  refine zMi.of (cc := cX6_addTrailer) (maxL := 6) (ret := (some .int)) (by decide) rfl (Nat.le_of_ble_eq_true rfl) ?_
  intro p e s m below meth c A C hr
  unfold f_X6_addTrailer at h
  refine zG_L (L' := [(0, .ref (ad 0)), (1, .int v1), (2, .int v2), (3, .int v3), (4, .int v4)]) rfl ?_
  refine g_aload_n (j := 0) C dX6_addTrailer_0 rfl rfl ?_
  refine g_iload_n (j := 1) C dX6_addTrailer_1 rfl rfl ?_
  refine g_vi (ws' := (zW cy ad shM E X)) (As := [.int v1]) (rest := []) (res := (f_X6_isFilm X v1)) C (c_X6_isFilm l D cy ad E X v1) gX6_addTrailer_X6_isFilm rfl hd_X6_isFilm (zW_get X sM_0) rfl rfl rfl ⟨Nat.le_of_ble_eq_true rfl, Nat.le_of_ble_eq_true rfl⟩ rfl rfl (Nat.le_of_ble_eq_true rfl) ⟨Nat.zero_le _, Nat.zero_le _⟩ dX6_addTrailer_2 ?_
  refine g_if_ne C dX6_addTrailer_5 (tgt := 14) (by decide) (fun hc_1 => ?_) (fun hc_1 => ?_)
  · replace h := (if_neg hc_1).symm.trans h
    refine g_iload_n (j := 2) C dX6_addTrailer_14 rfl rfl ?_
    refine g_iconst (v := 1) C dX6_addTrailer_15 (by decide) ?_
    refine g_bipush (v := 6) C dX6_addTrailer_16 (by decide) ?_
    refine g_si (ws' := (zW cy ad shM E X)) (As := [.int v2, .int (1 : Int32), .int (6 : Int32)]) (rest := []) (res := (f_X6_in v2 (1 : Int32) (6 : Int32))) C (c_X6_in l D cy (zW cy ad shM E X) v2 (1 : Int32) (6 : Int32)) gX6_addTrailer_X6_in rfl hd_X6_in rfl rfl ⟨Nat.le_of_ble_eq_true rfl, Nat.le_of_ble_eq_true rfl⟩ rfl rfl (Nat.le_of_ble_eq_true rfl) ⟨Nat.zero_le _, Nat.zero_le _⟩ dX6_addTrailer_18 ?_
    refine g_if_eq C dX6_addTrailer_21 (tgt := 44) (by decide) (fun hc_2 => ?_) (fun hc_2 => ?_)
    · replace h := (if_pos hc_2).symm.trans h
      refine g_aload_n (j := 0) C dX6_addTrailer_44 rfl rfl ?_
      refine g_iconst (v := 2) C dX6_addTrailer_45 (by decide) ?_
      obtain ⟨q_3, e_4, h⟩ := zlet_ex h
      refine g_vi (ws' := (zW cy ad shM E q_3.2)) (As := [.int (2 : Int32)]) (rest := []) (res := q_3.1) C ((by rw [e_4]; exact c_X6_fails l D cy ad E X (2 : Int32))) gX6_addTrailer_X6_fails rfl hd_X6_fails (zW_get X sM_0) rfl rfl rfl ⟨Nat.le_of_ble_eq_true rfl, Nat.le_of_ble_eq_true rfl⟩ rfl rfl (Nat.le_of_ble_eq_true rfl) ⟨Nat.zero_le _, Nat.zero_le _⟩ dX6_addTrailer_46 ?_
      obtain rfl := Option.some.inj h
      exact g_iret rfl C hr rfl dX6_addTrailer_49
    · replace h := (if_neg hc_2).symm.trans h
      refine g_iload_n (j := 3) C dX6_addTrailer_24 rfl rfl ?_
      refine g_iconst (v := 0) C dX6_addTrailer_25 (by decide) ?_
      refine g_iconst (v := 3) C dX6_addTrailer_26 (by decide) ?_
      refine g_si (ws' := (zW cy ad shM E X)) (As := [.int v3, .int (0 : Int32), .int (3 : Int32)]) (rest := []) (res := (f_X6_in v3 (0 : Int32) (3 : Int32))) C (c_X6_in l D cy (zW cy ad shM E X) v3 (0 : Int32) (3 : Int32)) gX6_addTrailer_X6_in rfl hd_X6_in rfl rfl ⟨Nat.le_of_ble_eq_true rfl, Nat.le_of_ble_eq_true rfl⟩ rfl rfl (Nat.le_of_ble_eq_true rfl) ⟨Nat.zero_le _, Nat.zero_le _⟩ dX6_addTrailer_27 ?_
      refine g_if_eq C dX6_addTrailer_30 (tgt := 44) (by decide) (fun hc_5 => ?_) (fun hc_5 => ?_)
      · replace h := (if_pos hc_5).symm.trans h
        refine g_aload_n (j := 0) C dX6_addTrailer_44 rfl rfl ?_
        refine g_iconst (v := 2) C dX6_addTrailer_45 (by decide) ?_
        obtain ⟨q_6, e_7, h⟩ := zlet_ex h
        refine g_vi (ws' := (zW cy ad shM E q_6.2)) (As := [.int (2 : Int32)]) (rest := []) (res := q_6.1) C ((by rw [e_7]; exact c_X6_fails l D cy ad E X (2 : Int32))) gX6_addTrailer_X6_fails rfl hd_X6_fails (zW_get X sM_0) rfl rfl rfl ⟨Nat.le_of_ble_eq_true rfl, Nat.le_of_ble_eq_true rfl⟩ rfl rfl (Nat.le_of_ble_eq_true rfl) ⟨Nat.zero_le _, Nat.zero_le _⟩ dX6_addTrailer_46 ?_
        obtain rfl := Option.some.inj h
        exact g_iret rfl C hr rfl dX6_addTrailer_49
      · replace h := (if_neg hc_5).symm.trans h
        refine g_iload (j := 4) C dX6_addTrailer_33 rfl ?_
        refine g_iconst (v := 1) C dX6_addTrailer_35 (by decide) ?_
        refine g_bipush (v := 63) C dX6_addTrailer_36 (by decide) ?_
        refine g_si (ws' := (zW cy ad shM E X)) (As := [.int v4, .int (1 : Int32), .int (63 : Int32)]) (rest := []) (res := (f_X6_in v4 (1 : Int32) (63 : Int32))) C (c_X6_in l D cy (zW cy ad shM E X) v4 (1 : Int32) (63 : Int32)) gX6_addTrailer_X6_in rfl hd_X6_in rfl rfl ⟨Nat.le_of_ble_eq_true rfl, Nat.le_of_ble_eq_true rfl⟩ rfl rfl (Nat.le_of_ble_eq_true rfl) ⟨Nat.zero_le _, Nat.zero_le _⟩ dX6_addTrailer_38 ?_
        refine g_if_ne C dX6_addTrailer_41 (tgt := 50) (by decide) (fun hc_8 => ?_) (fun hc_8 => ?_)
        · replace h := (if_neg hc_8).symm.trans h
          refine g_aload_n (j := 0) C dX6_addTrailer_50 rfl rfl ?_
          refine g_getr (k := 1) (N := 27) C sM_0 rfl in_X6_addTrailer_RX6 (by decide) rfl fl_X6_addTrailer_9 rfl dX6_addTrailer_51 ?_
          refine g_iconst (v := 3) C dX6_addTrailer_54 (by decide) ?_
          refine g_iald C sM_1 (by decide) dX6_addTrailer_55 ?_
          refine g_bipush (v := 10) C dX6_addTrailer_56 (by decide) ?_
          refine g_icmp_ne C dX6_addTrailer_58 (tgt := 67) (by decide) (fun hc_9 => ?_) (fun hc_9 => ?_)
          · replace h := (if_neg hc_9).symm.trans h
            refine g_aload_n (j := 0) C dX6_addTrailer_67 rfl rfl ?_
            obtain ⟨q_10, hq_11, h⟩ := bind_isome h
            refine g_vv (ws' := (zW cy ad shM E q_10)) (As := []) (rest := []) C (c_X6_remembers l D cy ad E X hq_11) gX6_addTrailer_X6_remembers rfl hd_X6_remembers (zW_get X sM_0) rfl rfl rfl ⟨Nat.le_of_ble_eq_true rfl, Nat.le_of_ble_eq_true rfl⟩ rfl rfl (Nat.le_of_ble_eq_true rfl) ⟨Nat.zero_le _, Nat.zero_le _⟩ dX6_addTrailer_68 ?_
            refine g_bipush (v := 118) C dX6_addTrailer_71 (by decide) ?_
            refine g_iconst (v := 4) C dX6_addTrailer_73 (by decide) ?_
            refine g_aload_n (j := 0) C dX6_addTrailer_74 rfl rfl ?_
            refine g_getr (k := 1) (N := 27) C sM_0 rfl in_X6_addTrailer_RX6 (by decide) rfl fl_X6_addTrailer_9 rfl dX6_addTrailer_75 ?_
            refine g_iconst (v := 3) C dX6_addTrailer_78 (by decide) ?_
            refine g_iald C sM_1 (by decide) dX6_addTrailer_79 ?_
            refine g_imul C dX6_addTrailer_80 ?_
            refine g_iadd C dX6_addTrailer_81 ?_
            refine g_istore (L' := [(5, .int ((118 : Int32) + ((4 : Int32) * (q_10 1 (3 : Int32).toNatClampNeg)))), (0, .ref (ad 0)), (1, .int v1), (2, .int v2), (3, .int v3), (4, .int v4)]) C dX6_addTrailer_82 (by decide) rfl ?_
            refine g_aload_n (j := 1) C dX6_addTrailer_84 rfl rfl ?_
            refine g_getr (k := 1) (N := 27) C sM_0 rfl in_X6_addTrailer_RX6 (by decide) rfl fl_X6_addTrailer_9 rfl dX6_addTrailer_85 ?_
            refine g_iload (j := 0) C dX6_addTrailer_88 rfl ?_
            refine g_iload_n (j := 2) C dX6_addTrailer_90 rfl rfl ?_
            obtain ⟨hi_12, h⟩ := ite_inone h
            refine g_iast C sM_1 hi_12 dX6_addTrailer_91 ?_
            obtain ⟨X_13, e_14, h⟩ := zlet_ex h
            rw [← e_14]
            refine g_aload_n (j := 1) C dX6_addTrailer_92 rfl rfl ?_
            refine g_getr (k := 1) (N := 27) C sM_0 rfl in_X6_addTrailer_RX6 (by decide) rfl fl_X6_addTrailer_9 rfl dX6_addTrailer_93 ?_
            refine g_iload (j := 0) C dX6_addTrailer_96 rfl ?_
            refine g_iconst (v := 1) C dX6_addTrailer_98 (by decide) ?_
            refine g_iadd C dX6_addTrailer_99 ?_
            refine g_iload_n (j := 3) C dX6_addTrailer_100 rfl rfl ?_
            obtain ⟨hi_15, h⟩ := ite_inone h
            refine g_iast C sM_1 hi_15 dX6_addTrailer_101 ?_
            obtain ⟨X_16, e_17, h⟩ := zlet_ex h
            rw [← e_17]
            refine g_aload_n (j := 1) C dX6_addTrailer_102 rfl rfl ?_
            refine g_getr (k := 1) (N := 27) C sM_0 rfl in_X6_addTrailer_RX6 (by decide) rfl fl_X6_addTrailer_9 rfl dX6_addTrailer_103 ?_
            refine g_iload (j := 0) C dX6_addTrailer_106 rfl ?_
            refine g_iconst (v := 2) C dX6_addTrailer_108 (by decide) ?_
            refine g_iadd C dX6_addTrailer_109 ?_
            refine g_iload_n (j := 4) C dX6_addTrailer_110 rfl rfl ?_
            obtain ⟨hi_18, h⟩ := ite_inone h
            refine g_iast C sM_1 hi_18 dX6_addTrailer_111 ?_
            obtain ⟨X_19, e_20, h⟩ := zlet_ex h
            rw [← e_20]
            refine g_aload_n (j := 1) C dX6_addTrailer_112 rfl rfl ?_
            refine g_getr (k := 1) (N := 27) C sM_0 rfl in_X6_addTrailer_RX6 (by decide) rfl fl_X6_addTrailer_9 rfl dX6_addTrailer_113 ?_
            refine g_iload (j := 0) C dX6_addTrailer_116 rfl ?_
            refine g_iconst (v := 3) C dX6_addTrailer_118 (by decide) ?_
            refine g_iadd C dX6_addTrailer_119 ?_
            refine g_iload (j := 5) C dX6_addTrailer_120 rfl ?_
            obtain ⟨hi_21, h⟩ := ite_inone h
            refine g_iast C sM_1 hi_21 dX6_addTrailer_122 ?_
            obtain ⟨X_22, e_23, h⟩ := zlet_ex h
            rw [← e_23]
            refine g_aload_n (j := 1) C dX6_addTrailer_123 rfl rfl ?_
            refine g_getr (k := 1) (N := 27) C sM_0 rfl in_X6_addTrailer_RX6 (by decide) rfl fl_X6_addTrailer_9 rfl dX6_addTrailer_124 ?_
            refine g_iconst (v := 3) C dX6_addTrailer_127 (by decide) ?_
            refine g_dup2 C dX6_addTrailer_128 rfl rfl ?_
            refine g_iald C sM_1 (by decide) dX6_addTrailer_129 ?_
            refine g_iconst (v := 1) C dX6_addTrailer_130 (by decide) ?_
            refine g_iadd C dX6_addTrailer_131 ?_
            refine g_iast C sM_1 (by decide) dX6_addTrailer_132 ?_
            obtain ⟨X_24, e_25, h⟩ := zlet_ex h
            rw [← e_25]
            refine g_aload_n (j := 1) C dX6_addTrailer_133 rfl rfl ?_
            refine g_aload_n (j := 1) C dX6_addTrailer_134 rfl rfl ?_
            refine g_getr (k := 1) (N := 27) C sM_0 rfl in_X6_addTrailer_RX6 (by decide) rfl fl_X6_addTrailer_9 rfl dX6_addTrailer_135 ?_
            refine g_iconst (v := 3) C dX6_addTrailer_138 (by decide) ?_
            refine g_iald C sM_1 (by decide) dX6_addTrailer_139 ?_
            refine g_iconst (v := 1) C dX6_addTrailer_140 (by decide) ?_
            refine g_isub C dX6_addTrailer_141 ?_
            obtain ⟨q_26, e_27, h⟩ := zlet_ex h
            refine g_vi (ws' := (zW cy ad shM E q_26.2)) (As := [.int ((X_24 1 (3 : Int32).toNatClampNeg) - (1 : Int32))]) (rest := []) (res := q_26.1) C ((by rw [e_27]; exact c_X6_done l D cy ad E X_24 ((X_24 1 (3 : Int32).toNatClampNeg) - (1 : Int32)))) gX6_addTrailer_X6_done rfl hd_X6_done (zW_get X_24 sM_0) rfl rfl rfl ⟨Nat.le_of_ble_eq_true rfl, Nat.le_of_ble_eq_true rfl⟩ rfl rfl (Nat.le_of_ble_eq_true rfl) ⟨Nat.zero_le _, Nat.zero_le _⟩ dX6_addTrailer_142 ?_
            obtain rfl := Option.some.inj h
            exact g_iret rfl C hr rfl dX6_addTrailer_145
          · replace h := (if_pos hc_9).symm.trans h
            refine g_aload_n (j := 0) C dX6_addTrailer_61 rfl rfl ?_
            refine g_iconst (v := 3) C dX6_addTrailer_62 (by decide) ?_
            obtain ⟨q_28, e_29, h⟩ := zlet_ex h
            refine g_vi (ws' := (zW cy ad shM E q_28.2)) (As := [.int (3 : Int32)]) (rest := []) (res := q_28.1) C ((by rw [e_29]; exact c_X6_fails l D cy ad E X (3 : Int32))) gX6_addTrailer_X6_fails rfl hd_X6_fails (zW_get X sM_0) rfl rfl rfl ⟨Nat.le_of_ble_eq_true rfl, Nat.le_of_ble_eq_true rfl⟩ rfl rfl (Nat.le_of_ble_eq_true rfl) ⟨Nat.zero_le _, Nat.zero_le _⟩ dX6_addTrailer_63 ?_
            obtain rfl := Option.some.inj h
            exact g_iret rfl C hr rfl dX6_addTrailer_66
        · replace h := (if_pos hc_8).symm.trans h
          refine g_aload_n (j := 0) C dX6_addTrailer_44 rfl rfl ?_
          refine g_iconst (v := 2) C dX6_addTrailer_45 (by decide) ?_
          obtain ⟨q_30, e_31, h⟩ := zlet_ex h
          refine g_vi (ws' := (zW cy ad shM E q_30.2)) (As := [.int (2 : Int32)]) (rest := []) (res := q_30.1) C ((by rw [e_31]; exact c_X6_fails l D cy ad E X (2 : Int32))) gX6_addTrailer_X6_fails rfl hd_X6_fails (zW_get X sM_0) rfl rfl rfl ⟨Nat.le_of_ble_eq_true rfl, Nat.le_of_ble_eq_true rfl⟩ rfl rfl (Nat.le_of_ble_eq_true rfl) ⟨Nat.zero_le _, Nat.zero_le _⟩ dX6_addTrailer_46 ?_
          obtain rfl := Option.some.inj h
          exact g_iret rfl C hr rfl dX6_addTrailer_49
  · replace h := (if_pos hc_1).symm.trans h
    refine g_aload_n (j := 0) C dX6_addTrailer_8 rfl rfl ?_
    refine g_iconst (v := 1) C dX6_addTrailer_9 (by decide) ?_
    obtain ⟨q_32, e_33, h⟩ := zlet_ex h
    refine g_vi (ws' := (zW cy ad shM E q_32.2)) (As := [.int (1 : Int32)]) (rest := []) (res := q_32.1) C ((by rw [e_33]; exact c_X6_fails l D cy ad E X (1 : Int32))) gX6_addTrailer_X6_fails rfl hd_X6_fails (zW_get X sM_0) rfl rfl rfl ⟨Nat.le_of_ble_eq_true rfl, Nat.le_of_ble_eq_true rfl⟩ rfl rfl (Nat.le_of_ble_eq_true rfl) ⟨Nat.zero_le _, Nat.zero_le _⟩ dX6_addTrailer_10 ?_
    obtain rfl := Option.some.inj h
    exact g_iret rfl C hr rfl dX6_addTrailer_13
theorem hd_X6_isValue : yX6_isValue.cls ≠ "java/lang/invoke/MethodHandle" ∧ yX6_isValue.cls ≠ "java/lang/invoke/VarHandle" ∧ (parseMethodDescriptor yX6_isValue.desc).map (fun d => d.parameters.length) = some 2 := by decide +kernel
def f_X6_isValue (v0 v1 : Int32) : Int32 := (if v0 = (0 : Int32) then (f_X6_in v1 (0 : Int32) (30 : Int32)) else (if v0 = (1 : Int32) then (f_X6_in v1 (1 : Int32) (3 : Int32)) else (if v0 = (2 : Int32) then (f_X6_in v1 (0 : Int32) (60 : Int32)) else (if v0 = (3 : Int32) then (f_X6_in v1 (0 : Int32) (20 : Int32)) else (if v0 = (4 : Int32) then (f_X6_in v1 (0 : Int32) (120 : Int32)) else (f_X6_in v1 (1 : Int32) (99 : Int32)))))))
theorem b_X6_isValue (v0 v1 : Int32) : f_X6_isValue v0 v1 = 0 ∨ f_X6_isValue v0 v1 = 1 := by
  unfold f_X6_isValue
  repeat' split
  all_goals first | exact Or.inl rfl | exact Or.inr rfl | apply b_X6_in
set_option maxRecDepth 100000 in
set_option maxHeartbeats 4000000 in
theorem c_X6_isValue (l : Launch) (D : va_G) (cy : Nat → ClassId) (ws : va_W) (v0 v1 : Int32) : zMi l yX6_isValue wsX6_isValue (zrm 2) D (zTy cy) ws [.int v0, .int v1] (f_X6_isValue v0 v1) ws := by
  refine zMi.of (cc := cX6_isValue) (maxL := 2) (ret := (some .boolean)) (by decide) rfl (Nat.le_of_ble_eq_true rfl) ?_
  intro p e s m below meth c A C hr
  generalize h : f_X6_isValue v0 v1 = res
  unfold f_X6_isValue at h
  refine zG_L (L' := [(0, .int v0), (1, .int v1)]) rfl ?_
  refine g_iload_n (j := 0) C dX6_isValue_0 rfl rfl ?_
  by_cases hc_1 : v0 = (0 : Int32)
  · replace h := (if_pos hc_1).symm.trans h
    refine g_tabEq C dX6_isValue_1 hc_1 (by decide) (by decide) rfl (tgt := 36) (by decide) ?_
    refine g_iload_n (j := 1) C dX6_isValue_36 rfl rfl ?_
    refine g_iconst (v := 0) C dX6_isValue_37 (by decide) ?_
    refine g_bipush (v := 30) C dX6_isValue_38 (by decide) ?_
    refine g_si (ws' := ws) (As := [.int v1, .int (0 : Int32), .int (30 : Int32)]) (rest := []) (res := (f_X6_in v1 (0 : Int32) (30 : Int32))) C (c_X6_in l D cy ws v1 (0 : Int32) (30 : Int32)) gX6_isValue_X6_in rfl hd_X6_in rfl rfl ⟨Nat.le_of_ble_eq_true rfl, Nat.le_of_ble_eq_true rfl⟩ rfl rfl (Nat.le_of_ble_eq_true rfl) ⟨Nat.zero_le _, Nat.zero_le _⟩ dX6_isValue_40 ?_
    subst h
    exact g_iret rfl C hr (z_nb (b_X6_in v1 (0 : Int32) (30 : Int32))) dX6_isValue_43
  replace h := (if_neg hc_1).symm.trans h
  by_cases hc_2 : v0 = (1 : Int32)
  · replace h := (if_pos hc_2).symm.trans h
    refine g_tabEq C dX6_isValue_1 hc_2 (by decide) (by decide) rfl (tgt := 44) (by decide) ?_
    refine g_iload_n (j := 1) C dX6_isValue_44 rfl rfl ?_
    refine g_iconst (v := 1) C dX6_isValue_45 (by decide) ?_
    refine g_iconst (v := 3) C dX6_isValue_46 (by decide) ?_
    refine g_si (ws' := ws) (As := [.int v1, .int (1 : Int32), .int (3 : Int32)]) (rest := []) (res := (f_X6_in v1 (1 : Int32) (3 : Int32))) C (c_X6_in l D cy ws v1 (1 : Int32) (3 : Int32)) gX6_isValue_X6_in rfl hd_X6_in rfl rfl ⟨Nat.le_of_ble_eq_true rfl, Nat.le_of_ble_eq_true rfl⟩ rfl rfl (Nat.le_of_ble_eq_true rfl) ⟨Nat.zero_le _, Nat.zero_le _⟩ dX6_isValue_47 ?_
    subst h
    exact g_iret rfl C hr (z_nb (b_X6_in v1 (1 : Int32) (3 : Int32))) dX6_isValue_50
  replace h := (if_neg hc_2).symm.trans h
  by_cases hc_3 : v0 = (2 : Int32)
  · replace h := (if_pos hc_3).symm.trans h
    refine g_tabEq C dX6_isValue_1 hc_3 (by decide) (by decide) rfl (tgt := 51) (by decide) ?_
    refine g_iload_n (j := 1) C dX6_isValue_51 rfl rfl ?_
    refine g_iconst (v := 0) C dX6_isValue_52 (by decide) ?_
    refine g_bipush (v := 60) C dX6_isValue_53 (by decide) ?_
    refine g_si (ws' := ws) (As := [.int v1, .int (0 : Int32), .int (60 : Int32)]) (rest := []) (res := (f_X6_in v1 (0 : Int32) (60 : Int32))) C (c_X6_in l D cy ws v1 (0 : Int32) (60 : Int32)) gX6_isValue_X6_in rfl hd_X6_in rfl rfl ⟨Nat.le_of_ble_eq_true rfl, Nat.le_of_ble_eq_true rfl⟩ rfl rfl (Nat.le_of_ble_eq_true rfl) ⟨Nat.zero_le _, Nat.zero_le _⟩ dX6_isValue_55 ?_
    subst h
    exact g_iret rfl C hr (z_nb (b_X6_in v1 (0 : Int32) (60 : Int32))) dX6_isValue_58
  replace h := (if_neg hc_3).symm.trans h
  by_cases hc_4 : v0 = (3 : Int32)
  · replace h := (if_pos hc_4).symm.trans h
    refine g_tabEq C dX6_isValue_1 hc_4 (by decide) (by decide) rfl (tgt := 59) (by decide) ?_
    refine g_iload_n (j := 1) C dX6_isValue_59 rfl rfl ?_
    refine g_iconst (v := 0) C dX6_isValue_60 (by decide) ?_
    refine g_bipush (v := 20) C dX6_isValue_61 (by decide) ?_
    refine g_si (ws' := ws) (As := [.int v1, .int (0 : Int32), .int (20 : Int32)]) (rest := []) (res := (f_X6_in v1 (0 : Int32) (20 : Int32))) C (c_X6_in l D cy ws v1 (0 : Int32) (20 : Int32)) gX6_isValue_X6_in rfl hd_X6_in rfl rfl ⟨Nat.le_of_ble_eq_true rfl, Nat.le_of_ble_eq_true rfl⟩ rfl rfl (Nat.le_of_ble_eq_true rfl) ⟨Nat.zero_le _, Nat.zero_le _⟩ dX6_isValue_63 ?_
    subst h
    exact g_iret rfl C hr (z_nb (b_X6_in v1 (0 : Int32) (20 : Int32))) dX6_isValue_66
  replace h := (if_neg hc_4).symm.trans h
  by_cases hc_5 : v0 = (4 : Int32)
  · replace h := (if_pos hc_5).symm.trans h
    refine g_tabEq C dX6_isValue_1 hc_5 (by decide) (by decide) rfl (tgt := 67) (by decide) ?_
    refine g_iload_n (j := 1) C dX6_isValue_67 rfl rfl ?_
    refine g_iconst (v := 0) C dX6_isValue_68 (by decide) ?_
    refine g_bipush (v := 120) C dX6_isValue_69 (by decide) ?_
    refine g_si (ws' := ws) (As := [.int v1, .int (0 : Int32), .int (120 : Int32)]) (rest := []) (res := (f_X6_in v1 (0 : Int32) (120 : Int32))) C (c_X6_in l D cy ws v1 (0 : Int32) (120 : Int32)) gX6_isValue_X6_in rfl hd_X6_in rfl rfl ⟨Nat.le_of_ble_eq_true rfl, Nat.le_of_ble_eq_true rfl⟩ rfl rfl (Nat.le_of_ble_eq_true rfl) ⟨Nat.zero_le _, Nat.zero_le _⟩ dX6_isValue_71 ?_
    subst h
    exact g_iret rfl C hr (z_nb (b_X6_in v1 (0 : Int32) (120 : Int32))) dX6_isValue_74
  replace h := (if_neg hc_5).symm.trans h
  refine g_tabOut C dX6_isValue_1 (z_tabout_5 (lo := 0) (hi := 4) hc_1 hc_2 hc_3 hc_4 hc_5 (by decide)) (tgt := 75) (by decide) ?_
  refine g_iload_n (j := 1) C dX6_isValue_75 rfl rfl ?_
  refine g_iconst (v := 1) C dX6_isValue_76 (by decide) ?_
  refine g_bipush (v := 99) C dX6_isValue_77 (by decide) ?_
  refine g_si (ws' := ws) (As := [.int v1, .int (1 : Int32), .int (99 : Int32)]) (rest := []) (res := (f_X6_in v1 (1 : Int32) (99 : Int32))) C (c_X6_in l D cy ws v1 (1 : Int32) (99 : Int32)) gX6_isValue_X6_in rfl hd_X6_in rfl rfl ⟨Nat.le_of_ble_eq_true rfl, Nat.le_of_ble_eq_true rfl⟩ rfl rfl (Nat.le_of_ble_eq_true rfl) ⟨Nat.zero_le _, Nat.zero_le _⟩ dX6_isValue_79 ?_
  subst h
  exact g_iret rfl C hr (z_nb (b_X6_in v1 (1 : Int32) (99 : Int32))) dX6_isValue_82
theorem in_X6_set_RX6 : ∀ w ∈ u_ws RX6 TX6 27, w ∈ wsX6_set := by decide +kernel
theorem fl_X6_set_9 : (Cond.fieldLink RX6 9 RX6 (TX6 1).2.1 (TX6 1).2.2.1) ∈ wsX6_set := by decide +kernel
theorem hd_X6_set : yX6_set.cls = RX6 ∧ yX6_set.cls ≠ "java/lang/invoke/MethodHandle" ∧ yX6_set.cls ≠ "java/lang/invoke/VarHandle" ∧ (parseMethodDescriptor yX6_set.desc).map (fun d => d.parameters.length) = some 2 := by decide +kernel
def f_X6_set (X : Nat → Nat → Int32) (v1 v2 : Int32) : Option (Int32 × (Nat → Nat → Int32)) := (if (f_X6_in v1 (0 : Int32) (5 : Int32)) = 0 then (zlet (f_X6_fails X (1 : Int32)) fun q_13 => some (q_13.1, q_13.2)) else (if (f_X6_isValue v1 v2) = 0 then (zlet (f_X6_fails X (2 : Int32)) fun q_11 => some (q_11.1, q_11.2)) else ((f_X6_remembers X).bind fun q_3 => (if ((8 : Int32) + v1) < 0 ∨ 580 ≤ ((8 : Int32) + v1).toNatClampNeg then none else (if ((8 : Int32) + v1) < 0 ∨ 580 ≤ ((8 : Int32) + v1).toNatClampNeg then none else (zlet (zU q_3 1 ((8 : Int32) + v1).toNatClampNeg v2) fun X_7 => (zlet (f_X6_done X_7 (q_3 1 ((8 : Int32) + v1).toNatClampNeg)) fun q_9 => some (q_9.1, q_9.2))))))))
set_option maxRecDepth 100000 in
set_option maxHeartbeats 4000000 in
theorem c_X6_set (l : Launch) (D : va_G) (cy : Nat → ClassId) (ad : Nat → Nat) (E : va_W) (X : Nat → Nat → Int32) (v1 v2 : Int32) {res : Int32 × (Nat → Nat → Int32)} (h : f_X6_set X v1 v2 = some res) : zMi l yX6_set wsX6_set (zrm 4) D (zTy cy) (zW cy ad shM E X) [.ref (ad 0), .int v1, .int v2] res.1 (zW cy ad shM E res.2) := by
  refine zMi.of (cc := cX6_set) (maxL := 4) (ret := (some .int)) (by decide) rfl (Nat.le_of_ble_eq_true rfl) ?_
  intro p e s m below meth c A C hr
  unfold f_X6_set at h
  refine zG_L (L' := [(0, .ref (ad 0)), (1, .int v1), (2, .int v2)]) rfl ?_
  refine g_iload_n (j := 1) C dX6_set_0 rfl rfl ?_
  refine g_iconst (v := 0) C dX6_set_1 (by decide) ?_
  refine g_iconst (v := 5) C dX6_set_2 (by decide) ?_
  refine g_si (ws' := (zW cy ad shM E X)) (As := [.int v1, .int (0 : Int32), .int (5 : Int32)]) (rest := []) (res := (f_X6_in v1 (0 : Int32) (5 : Int32))) C (c_X6_in l D cy (zW cy ad shM E X) v1 (0 : Int32) (5 : Int32)) gX6_set_X6_in rfl hd_X6_in rfl rfl ⟨Nat.le_of_ble_eq_true rfl, Nat.le_of_ble_eq_true rfl⟩ rfl rfl (Nat.le_of_ble_eq_true rfl) ⟨Nat.zero_le _, Nat.zero_le _⟩ dX6_set_3 ?_
  refine g_if_ne C dX6_set_6 (tgt := 15) (by decide) (fun hc_1 => ?_) (fun hc_1 => ?_)
  · replace h := (if_neg hc_1).symm.trans h
    refine g_iload_n (j := 1) C dX6_set_15 rfl rfl ?_
    refine g_iload_n (j := 2) C dX6_set_16 rfl rfl ?_
    refine g_si (ws' := (zW cy ad shM E X)) (As := [.int v1, .int v2]) (rest := []) (res := (f_X6_isValue v1 v2)) C (c_X6_isValue l D cy (zW cy ad shM E X) v1 v2) gX6_set_X6_isValue rfl hd_X6_isValue rfl rfl ⟨Nat.le_of_ble_eq_true rfl, Nat.le_of_ble_eq_true rfl⟩ rfl rfl (Nat.le_of_ble_eq_true rfl) ⟨Nat.zero_le _, Nat.zero_le _⟩ dX6_set_17 ?_
    refine g_if_ne C dX6_set_20 (tgt := 29) (by decide) (fun hc_2 => ?_) (fun hc_2 => ?_)
    · replace h := (if_neg hc_2).symm.trans h
      refine g_aload_n (j := 0) C dX6_set_29 rfl rfl ?_
      obtain ⟨q_3, hq_4, h⟩ := bind_isome h
      refine g_vv (ws' := (zW cy ad shM E q_3)) (As := []) (rest := []) C (c_X6_remembers l D cy ad E X hq_4) gX6_set_X6_remembers rfl hd_X6_remembers (zW_get X sM_0) rfl rfl rfl ⟨Nat.le_of_ble_eq_true rfl, Nat.le_of_ble_eq_true rfl⟩ rfl rfl (Nat.le_of_ble_eq_true rfl) ⟨Nat.zero_le _, Nat.zero_le _⟩ dX6_set_30 ?_
      refine g_aload_n (j := 0) C dX6_set_33 rfl rfl ?_
      refine g_getr (k := 1) (N := 27) C sM_0 rfl in_X6_set_RX6 (by decide) rfl fl_X6_set_9 rfl dX6_set_34 ?_
      refine g_bipush (v := 8) C dX6_set_37 (by decide) ?_
      refine g_iload_n (j := 1) C dX6_set_39 rfl rfl ?_
      refine g_iadd C dX6_set_40 ?_
      obtain ⟨hi_5, h⟩ := ite_inone h
      refine g_iald C sM_1 hi_5 dX6_set_41 ?_
      refine g_istore_n (L' := [(3, .int (q_3 1 ((8 : Int32) + v1).toNatClampNeg)), (0, .ref (ad 0)), (1, .int v1), (2, .int v2)]) C dX6_set_42 rfl (by decide) rfl ?_
      refine g_aload_n (j := 1) C dX6_set_43 rfl rfl ?_
      refine g_getr (k := 1) (N := 27) C sM_0 rfl in_X6_set_RX6 (by decide) rfl fl_X6_set_9 rfl dX6_set_44 ?_
      refine g_bipush (v := 8) C dX6_set_47 (by decide) ?_
      refine g_iload_n (j := 2) C dX6_set_49 rfl rfl ?_
      refine g_iadd C dX6_set_50 ?_
      refine g_iload_n (j := 3) C dX6_set_51 rfl rfl ?_
      obtain ⟨hi_6, h⟩ := ite_inone h
      refine g_iast C sM_1 hi_6 dX6_set_52 ?_
      obtain ⟨X_7, e_8, h⟩ := zlet_ex h
      rw [← e_8]
      refine g_aload_n (j := 1) C dX6_set_53 rfl rfl ?_
      refine g_iload_n (j := 0) C dX6_set_54 rfl rfl ?_
      obtain ⟨q_9, e_10, h⟩ := zlet_ex h
      refine g_vi (ws' := (zW cy ad shM E q_9.2)) (As := [.int (q_3 1 ((8 : Int32) + v1).toNatClampNeg)]) (rest := []) (res := q_9.1) C ((by rw [e_10]; exact c_X6_done l D cy ad E X_7 (q_3 1 ((8 : Int32) + v1).toNatClampNeg))) gX6_set_X6_done rfl hd_X6_done (zW_get X_7 sM_0) rfl rfl rfl ⟨Nat.le_of_ble_eq_true rfl, Nat.le_of_ble_eq_true rfl⟩ rfl rfl (Nat.le_of_ble_eq_true rfl) ⟨Nat.zero_le _, Nat.zero_le _⟩ dX6_set_55 ?_
      obtain rfl := Option.some.inj h
      exact g_iret rfl C hr rfl dX6_set_58
    · replace h := (if_pos hc_2).symm.trans h
      refine g_aload_n (j := 0) C dX6_set_23 rfl rfl ?_
      refine g_iconst (v := 2) C dX6_set_24 (by decide) ?_
      obtain ⟨q_11, e_12, h⟩ := zlet_ex h
      refine g_vi (ws' := (zW cy ad shM E q_11.2)) (As := [.int (2 : Int32)]) (rest := []) (res := q_11.1) C ((by rw [e_12]; exact c_X6_fails l D cy ad E X (2 : Int32))) gX6_set_X6_fails rfl hd_X6_fails (zW_get X sM_0) rfl rfl rfl ⟨Nat.le_of_ble_eq_true rfl, Nat.le_of_ble_eq_true rfl⟩ rfl rfl (Nat.le_of_ble_eq_true rfl) ⟨Nat.zero_le _, Nat.zero_le _⟩ dX6_set_25 ?_
      obtain rfl := Option.some.inj h
      exact g_iret rfl C hr rfl dX6_set_28
  · replace h := (if_pos hc_1).symm.trans h
    refine g_aload_n (j := 0) C dX6_set_9 rfl rfl ?_
    refine g_iconst (v := 1) C dX6_set_10 (by decide) ?_
    obtain ⟨q_13, e_14, h⟩ := zlet_ex h
    refine g_vi (ws' := (zW cy ad shM E q_13.2)) (As := [.int (1 : Int32)]) (rest := []) (res := q_13.1) C ((by rw [e_14]; exact c_X6_fails l D cy ad E X (1 : Int32))) gX6_set_X6_fails rfl hd_X6_fails (zW_get X sM_0) rfl rfl rfl ⟨Nat.le_of_ble_eq_true rfl, Nat.le_of_ble_eq_true rfl⟩ rfl rfl (Nat.le_of_ble_eq_true rfl) ⟨Nat.zero_le _, Nat.zero_le _⟩ dX6_set_11 ?_
    obtain rfl := Option.some.inj h
    exact g_iret rfl C hr rfl dX6_set_14
theorem in_X6_setLimit_RX6 : ∀ w ∈ u_ws RX6 TX6 27, w ∈ wsX6_setLimit := by decide +kernel
theorem fl_X6_setLimit_9 : (Cond.fieldLink RX6 9 RX6 (TX6 1).2.1 (TX6 1).2.2.1) ∈ wsX6_setLimit := by decide +kernel
theorem hd_X6_setLimit : yX6_setLimit.cls = RX6 ∧ yX6_setLimit.cls ≠ "java/lang/invoke/MethodHandle" ∧ yX6_setLimit.cls ≠ "java/lang/invoke/VarHandle" ∧ (parseMethodDescriptor yX6_setLimit.desc).map (fun d => d.parameters.length) = some 2 := by decide +kernel
def f_X6_setLimit (X : Nat → Nat → Int32) (v1 v2 : Int32) : Option (Int32 × (Nat → Nat → Int32)) := (if (f_X6_in v1 (0 : Int32) (15 : Int32)) = 0 then (zlet (f_X6_fails X (1 : Int32)) fun q_13 => some (q_13.1, q_13.2)) else (if (f_X6_in v2 (0 : Int32) (3 : Int32)) = 0 then (zlet (f_X6_fails X (2 : Int32)) fun q_11 => some (q_11.1, q_11.2)) else ((f_X6_remembers X).bind fun q_3 => (if ((14 : Int32) + v1) < 0 ∨ 580 ≤ ((14 : Int32) + v1).toNatClampNeg then none else (if ((14 : Int32) + v1) < 0 ∨ 580 ≤ ((14 : Int32) + v1).toNatClampNeg then none else (zlet (zU q_3 1 ((14 : Int32) + v1).toNatClampNeg v2) fun X_7 => (zlet (f_X6_done X_7 (q_3 1 ((14 : Int32) + v1).toNatClampNeg)) fun q_9 => some (q_9.1, q_9.2))))))))
set_option maxRecDepth 100000 in
set_option maxHeartbeats 4000000 in
theorem c_X6_setLimit (l : Launch) (D : va_G) (cy : Nat → ClassId) (ad : Nat → Nat) (E : va_W) (X : Nat → Nat → Int32) (v1 v2 : Int32) {res : Int32 × (Nat → Nat → Int32)} (h : f_X6_setLimit X v1 v2 = some res) : zMi l yX6_setLimit wsX6_setLimit (zrm 4) D (zTy cy) (zW cy ad shM E X) [.ref (ad 0), .int v1, .int v2] res.1 (zW cy ad shM E res.2) := by
  refine zMi.of (cc := cX6_setLimit) (maxL := 4) (ret := (some .int)) (by decide) rfl (Nat.le_of_ble_eq_true rfl) ?_
  intro p e s m below meth c A C hr
  unfold f_X6_setLimit at h
  refine zG_L (L' := [(0, .ref (ad 0)), (1, .int v1), (2, .int v2)]) rfl ?_
  refine g_iload_n (j := 1) C dX6_setLimit_0 rfl rfl ?_
  refine g_iconst (v := 0) C dX6_setLimit_1 (by decide) ?_
  refine g_bipush (v := 15) C dX6_setLimit_2 (by decide) ?_
  refine g_si (ws' := (zW cy ad shM E X)) (As := [.int v1, .int (0 : Int32), .int (15 : Int32)]) (rest := []) (res := (f_X6_in v1 (0 : Int32) (15 : Int32))) C (c_X6_in l D cy (zW cy ad shM E X) v1 (0 : Int32) (15 : Int32)) gX6_setLimit_X6_in rfl hd_X6_in rfl rfl ⟨Nat.le_of_ble_eq_true rfl, Nat.le_of_ble_eq_true rfl⟩ rfl rfl (Nat.le_of_ble_eq_true rfl) ⟨Nat.zero_le _, Nat.zero_le _⟩ dX6_setLimit_4 ?_
  refine g_if_ne C dX6_setLimit_7 (tgt := 16) (by decide) (fun hc_1 => ?_) (fun hc_1 => ?_)
  · replace h := (if_neg hc_1).symm.trans h
    refine g_iload_n (j := 2) C dX6_setLimit_16 rfl rfl ?_
    refine g_iconst (v := 0) C dX6_setLimit_17 (by decide) ?_
    refine g_iconst (v := 3) C dX6_setLimit_18 (by decide) ?_
    refine g_si (ws' := (zW cy ad shM E X)) (As := [.int v2, .int (0 : Int32), .int (3 : Int32)]) (rest := []) (res := (f_X6_in v2 (0 : Int32) (3 : Int32))) C (c_X6_in l D cy (zW cy ad shM E X) v2 (0 : Int32) (3 : Int32)) gX6_setLimit_X6_in rfl hd_X6_in rfl rfl ⟨Nat.le_of_ble_eq_true rfl, Nat.le_of_ble_eq_true rfl⟩ rfl rfl (Nat.le_of_ble_eq_true rfl) ⟨Nat.zero_le _, Nat.zero_le _⟩ dX6_setLimit_19 ?_
    refine g_if_ne C dX6_setLimit_22 (tgt := 31) (by decide) (fun hc_2 => ?_) (fun hc_2 => ?_)
    · replace h := (if_neg hc_2).symm.trans h
      refine g_aload_n (j := 0) C dX6_setLimit_31 rfl rfl ?_
      obtain ⟨q_3, hq_4, h⟩ := bind_isome h
      refine g_vv (ws' := (zW cy ad shM E q_3)) (As := []) (rest := []) C (c_X6_remembers l D cy ad E X hq_4) gX6_setLimit_X6_remembers rfl hd_X6_remembers (zW_get X sM_0) rfl rfl rfl ⟨Nat.le_of_ble_eq_true rfl, Nat.le_of_ble_eq_true rfl⟩ rfl rfl (Nat.le_of_ble_eq_true rfl) ⟨Nat.zero_le _, Nat.zero_le _⟩ dX6_setLimit_32 ?_
      refine g_aload_n (j := 0) C dX6_setLimit_35 rfl rfl ?_
      refine g_getr (k := 1) (N := 27) C sM_0 rfl in_X6_setLimit_RX6 (by decide) rfl fl_X6_setLimit_9 rfl dX6_setLimit_36 ?_
      refine g_bipush (v := 14) C dX6_setLimit_39 (by decide) ?_
      refine g_iload_n (j := 1) C dX6_setLimit_41 rfl rfl ?_
      refine g_iadd C dX6_setLimit_42 ?_
      obtain ⟨hi_5, h⟩ := ite_inone h
      refine g_iald C sM_1 hi_5 dX6_setLimit_43 ?_
      refine g_istore_n (L' := [(3, .int (q_3 1 ((14 : Int32) + v1).toNatClampNeg)), (0, .ref (ad 0)), (1, .int v1), (2, .int v2)]) C dX6_setLimit_44 rfl (by decide) rfl ?_
      refine g_aload_n (j := 1) C dX6_setLimit_45 rfl rfl ?_
      refine g_getr (k := 1) (N := 27) C sM_0 rfl in_X6_setLimit_RX6 (by decide) rfl fl_X6_setLimit_9 rfl dX6_setLimit_46 ?_
      refine g_bipush (v := 14) C dX6_setLimit_49 (by decide) ?_
      refine g_iload_n (j := 2) C dX6_setLimit_51 rfl rfl ?_
      refine g_iadd C dX6_setLimit_52 ?_
      refine g_iload_n (j := 3) C dX6_setLimit_53 rfl rfl ?_
      obtain ⟨hi_6, h⟩ := ite_inone h
      refine g_iast C sM_1 hi_6 dX6_setLimit_54 ?_
      obtain ⟨X_7, e_8, h⟩ := zlet_ex h
      rw [← e_8]
      refine g_aload_n (j := 1) C dX6_setLimit_55 rfl rfl ?_
      refine g_iload_n (j := 0) C dX6_setLimit_56 rfl rfl ?_
      obtain ⟨q_9, e_10, h⟩ := zlet_ex h
      refine g_vi (ws' := (zW cy ad shM E q_9.2)) (As := [.int (q_3 1 ((14 : Int32) + v1).toNatClampNeg)]) (rest := []) (res := q_9.1) C ((by rw [e_10]; exact c_X6_done l D cy ad E X_7 (q_3 1 ((14 : Int32) + v1).toNatClampNeg))) gX6_setLimit_X6_done rfl hd_X6_done (zW_get X_7 sM_0) rfl rfl rfl ⟨Nat.le_of_ble_eq_true rfl, Nat.le_of_ble_eq_true rfl⟩ rfl rfl (Nat.le_of_ble_eq_true rfl) ⟨Nat.zero_le _, Nat.zero_le _⟩ dX6_setLimit_57 ?_
      obtain rfl := Option.some.inj h
      exact g_iret rfl C hr rfl dX6_setLimit_60
    · replace h := (if_pos hc_2).symm.trans h
      refine g_aload_n (j := 0) C dX6_setLimit_25 rfl rfl ?_
      refine g_iconst (v := 2) C dX6_setLimit_26 (by decide) ?_
      obtain ⟨q_11, e_12, h⟩ := zlet_ex h
      refine g_vi (ws' := (zW cy ad shM E q_11.2)) (As := [.int (2 : Int32)]) (rest := []) (res := q_11.1) C ((by rw [e_12]; exact c_X6_fails l D cy ad E X (2 : Int32))) gX6_setLimit_X6_fails rfl hd_X6_fails (zW_get X sM_0) rfl rfl rfl ⟨Nat.le_of_ble_eq_true rfl, Nat.le_of_ble_eq_true rfl⟩ rfl rfl (Nat.le_of_ble_eq_true rfl) ⟨Nat.zero_le _, Nat.zero_le _⟩ dX6_setLimit_27 ?_
      obtain rfl := Option.some.inj h
      exact g_iret rfl C hr rfl dX6_setLimit_30
  · replace h := (if_pos hc_1).symm.trans h
    refine g_aload_n (j := 0) C dX6_setLimit_10 rfl rfl ?_
    refine g_iconst (v := 1) C dX6_setLimit_11 (by decide) ?_
    obtain ⟨q_13, e_14, h⟩ := zlet_ex h
    refine g_vi (ws' := (zW cy ad shM E q_13.2)) (As := [.int (1 : Int32)]) (rest := []) (res := q_13.1) C ((by rw [e_14]; exact c_X6_fails l D cy ad E X (1 : Int32))) gX6_setLimit_X6_fails rfl hd_X6_fails (zW_get X sM_0) rfl rfl rfl ⟨Nat.le_of_ble_eq_true rfl, Nat.le_of_ble_eq_true rfl⟩ rfl rfl (Nat.le_of_ble_eq_true rfl) ⟨Nat.zero_le _, Nat.zero_le _⟩ dX6_setLimit_12 ?_
    obtain rfl := Option.some.inj h
    exact g_iret rfl C hr rfl dX6_setLimit_15
