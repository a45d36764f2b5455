/-! laid by wip/whole/mkparts.py -/
def f_X6_thrown (X : Nat → Nat → Int32) : Int32 := (X 0 0)
set_option maxRecDepth 100000 in
set_option maxHeartbeats 4000000 in
theorem c_X6_thrown (l : Launch) (D : va_G) (cy : Nat → ClassId) (ad : Nat → Nat) (E : va_W) (X : Nat → Nat → Int32) : zMi l yX6_thrown cX6_thrown 1 (some .int) (zrm 1) D (zTy cy) (zW cy ad shM E X) [.ref (ad 0)] (f_X6_thrown X) (zW cy ad shM E X) := by
  refine zMi.of (by decide) (Nat.le_of_ble_eq_true rfl) ?_
  intro p e s m below meth c A C hr
  generalize h : f_X6_thrown X = res
  unfold f_X6_thrown at h
  refine zG_L (L' := [(0, .ref (ad 0))]) rfl ?_
  refine g_aload_n (j := 0) C dX6_thrown_0 rfl rfl ?_
  refine g_geti (k := 0) (N := 27) C sM_0 rfl zin_RX6 (by decide) rfl zfl_RX6_36 rfl dX6_thrown_1 ?_
  subst h
  exact g_iret rfl C hr rfl dX6_thrown_4
def f_X6_in (v0 v1 v2 : Int32) : Int32 := (if v0 < v1 then (nI 0) else (if v2 < v0 then (nI 0) else (nI 1)))
theorem b_X6_in (v0 v1 v2 : Int32) : f_X6_in v0 v1 v2 = 0 ∨ f_X6_in v0 v1 v2 = 1 := by
  unfold f_X6_in
  repeat' split
  all_goals first | exact Or.inl rfl | exact Or.inr rfl
set_option maxRecDepth 100000 in
set_option maxHeartbeats 4000000 in
theorem c_X6_in (l : Launch) (D : va_G) (cy : Nat → ClassId) (ws : va_W) (v0 v1 v2 : Int32) : zMi l yX6_in cX6_in 3 (some .boolean) (zrm 1) D (zTy cy) ws [.int v0, .int v1, .int v2] (f_X6_in v0 v1 v2) ws := by
  refine zMi.of (by decide) (Nat.le_of_ble_eq_true rfl) ?_
  intro p e s m below meth c A C hr
  generalize h : f_X6_in v0 v1 v2 = res
  unfold f_X6_in at h
  refine zG_L (L' := [(0, .int v0), (1, .int v1), (2, .int v2)]) rfl ?_
  refine g_iload_n (j := 0) C dX6_in_0 rfl rfl ?_
  refine g_iload_n (j := 1) C dX6_in_1 rfl rfl ?_
  refine g_icmp_lt C dX6_in_2 (tgt := 14) (by decide) (fun hc_1 => ?_) (fun hc_1 => ?_)
  · replace h := (if_pos hc_1).symm.trans h
    refine g_iconst (v := (nI 0)) C dX6_in_14 (by decide) ?_
    subst h
    exact g_iret rfl C hr (z_nb (Or.inl rfl)) dX6_in_15
  · replace h := (if_neg hc_1).symm.trans h
    refine g_iload_n (j := 0) C dX6_in_5 rfl rfl ?_
    refine g_iload_n (j := 2) C dX6_in_6 rfl rfl ?_
    refine g_icmp_gt C dX6_in_7 (tgt := 14) (by decide) (fun hc_2 => ?_) (fun hc_2 => ?_)
    · replace h := (if_pos hc_2).symm.trans h
      refine g_iconst (v := (nI 0)) C dX6_in_14 (by decide) ?_
      subst h
      exact g_iret rfl C hr (z_nb (Or.inl rfl)) dX6_in_15
    · replace h := (if_neg hc_2).symm.trans h
      refine g_iconst (v := (nI 1)) C dX6_in_10 (by decide) ?_
      refine g_goto C dX6_in_11 (tgt := 15) (by decide) ?_
      subst h
      exact g_iret rfl C hr (z_nb (Or.inr rfl)) dX6_in_15
def f_X6_fails (X : Nat → Nat → Int32) (v1 : Int32) : Int32 × (Nat → Nat → Int32) := (zlet (zU X 0 0 v1) fun X_1 => ((nI 0), X_1))
set_option maxRecDepth 100000 in
set_option maxHeartbeats 4000000 in
theorem c_X6_fails (l : Launch) (D : va_G) (cy : Nat → ClassId) (ad : Nat → Nat) (E : va_W) (X : Nat → Nat → Int32) (v1 : Int32) : zMi l yX6_fails cX6_fails 2 (some .int) (zrm 1) D (zTy cy) (zW cy ad shM E X) [.ref (ad 0), .int v1] ((f_X6_fails X v1).1) (zW cy ad shM E (f_X6_fails X v1).2) := by
  refine zMi.of (by decide) (Nat.le_of_ble_eq_true rfl) ?_
  intro p e s m below meth c A C hr
  generalize h : f_X6_fails X v1 = res
  unfold f_X6_fails at h
  refine zG_L (L' := [(0, .ref (ad 0)), (1, .int v1)]) rfl ?_
  refine g_aload_n (j := 0) C dX6_fails_0 rfl rfl ?_
  refine g_iload_n (j := 1) C dX6_fails_1 rfl rfl ?_
  refine g_puti (k := 0) (N := 27) (ty := .int) C sM_0 rfl zin_RX6 (by decide) rfl zfl_RX6_36 rfl tyX6_ok nmX6 rfl (by decide +kernel) rfl rfl dX6_fails_2 ?_
  obtain ⟨X_1, e_2, h⟩ := zlet_ex h
  rw [← e_2]
  refine g_iconst (v := (nI 0)) C dX6_fails_5 (by decide) ?_
  subst h
  exact g_iret rfl C hr rfl dX6_fails_6
def f_X6_done (X : Nat → Nat → Int32) (v1 : Int32) : Int32 × (Nat → Nat → Int32) := (zlet (zU X 0 0 (nI 0)) fun X_1 => (v1, X_1))
set_option maxRecDepth 100000 in
set_option maxHeartbeats 4000000 in
theorem c_X6_done (l : Launch) (D : va_G) (cy : Nat → ClassId) (ad : Nat → Nat) (E : va_W) (X : Nat → Nat → Int32) (v1 : Int32) : zMi l yX6_done cX6_done 2 (some .int) (zrm 1) D (zTy cy) (zW cy ad shM E X) [.ref (ad 0), .int v1] ((f_X6_done X v1).1) (zW cy ad shM E (f_X6_done X v1).2) := by
  refine zMi.of (by decide) (Nat.le_of_ble_eq_true rfl) ?_
  intro p e s m below meth c A C hr
  generalize h : f_X6_done X v1 = res
  unfold f_X6_done at h
  refine zG_L (L' := [(0, .ref (ad 0)), (1, .int v1)]) rfl ?_
  refine g_aload_n (j := 0) C dX6_done_0 rfl rfl ?_
  refine g_iconst (v := (nI 0)) C dX6_done_1 (by decide) ?_
  refine g_puti (k := 0) (N := 27) (ty := .int) C sM_0 rfl zin_RX6 (by decide) rfl zfl_RX6_36 rfl tyX6_ok nmX6 rfl (by decide +kernel) rfl rfl dX6_done_2 ?_
  obtain ⟨X_1, e_2, h⟩ := zlet_ex h
  rw [← e_2]
  refine g_iload_n (j := 1) C dX6_done_5 rfl rfl ?_
  subst h
  exact g_iret rfl C hr rfl dX6_done_6
def f_X6_refuses (X : Nat → Nat → Int32) (v1 v2 v3 : Int32) : Int32 × (Nat → Nat → Int32) := (zlet (zU X 0 8 v1) fun X_1 => (zlet (zU X_1 0 9 v2) fun X_3 => (zlet (f_X6_fails X_3 v3) fun q_5 => (q_5.1, q_5.2))))
set_option maxRecDepth 100000 in
set_option maxHeartbeats 4000000 in
theorem c_X6_refuses (l : Launch) (D : va_G) (cy : Nat → ClassId) (ad : Nat → Nat) (E : va_W) (X : Nat → Nat → Int32) (v1 v2 v3 : Int32) : zMi l yX6_refuses cX6_refuses 4 (some .int) (zrm 2) D (zTy cy) (zW cy ad shM E X) [.ref (ad 0), .int v1, .int v2, .int v3] ((f_X6_refuses X v1 v2 v3).1) (zW cy ad shM E (f_X6_refuses X v1 v2 v3).2) := by
  refine zMi.of (by decide) (Nat.le_of_ble_eq_true rfl) ?_
  intro p e s m below meth c A C hr
  generalize h : f_X6_refuses X v1 v2 v3 = res
  unfold f_X6_refuses at h
  refine zG_L (L' := [(0, .ref (ad 0)), (1, .int v1), (2, .int v2), (3, .int v3)]) rfl ?_
  refine g_aload_n (j := 0) C dX6_refuses_0 rfl rfl ?_
  refine g_iload_n (j := 1) C dX6_refuses_1 rfl rfl ?_
  refine g_puti (k := 8) (N := 27) (ty := .int) C sM_0 rfl zin_RX6 (by decide) rfl zfl_RX6_39 rfl tyX6_ok nmX6 rfl (by decide +kernel) rfl rfl dX6_refuses_2 ?_
  obtain ⟨X_1, e_2, h⟩ := zlet_ex h
  rw [← e_2]
  refine g_aload_n (j := 0) C dX6_refuses_5 rfl rfl ?_
  refine g_iload_n (j := 2) C dX6_refuses_6 rfl rfl ?_
  refine g_puti (k := 9) (N := 27) (ty := .int) C sM_0 rfl zin_RX6 (by decide) rfl zfl_RX6_42 rfl tyX6_ok nmX6 rfl (by decide +kernel) rfl rfl dX6_refuses_7 ?_
  obtain ⟨X_3, e_4, h⟩ := zlet_ex h
  rw [← e_4]
  refine g_aload_n (j := 0) C dX6_refuses_10 rfl rfl ?_
  refine g_iload_n (j := 3) C dX6_refuses_11 rfl rfl ?_
  obtain ⟨q_5, e_6, h⟩ := zlet_ex h
  refine g_vi (ws' := (zW cy ad shM E q_5.2)) (As := [.int v3]) (rest := []) (res := q_5.1) C ((by rw [e_6]; exact c_X6_fails l D cy ad E X_3 v3)) zml_RX6_45 zcv_X6_fails (zW_get X_3 sM_0) rfl rfl rfl ⟨Nat.le_of_ble_eq_true rfl, Nat.le_of_ble_eq_true rfl⟩ rfl rfl (Nat.le_of_ble_eq_true rfl) ⟨Nat.zero_le _, Nat.zero_le _⟩ dX6_refuses_12 ?_
  subst h
  exact g_iret rfl C hr rfl dX6_refuses_15
def f_X6_copy_L3 (r0 n0 : Nat) (r1 n1 : Nat) (v1 : Int32) (v3 : Int32) : Nat → (Nat → Nat → Int32) → Int32 → Option (Nat → Nat → Int32)
  | 0, _, _ => none
  | fu + 1, X, v4 => (if (nI 580) ≤ v4 then some X else (if (v1 + v4) < 0 ∨ n0 ≤ (v1 + v4).toNatClampNeg then none else (if (v3 + v4) < 0 ∨ n1 ≤ (v3 + v4).toNatClampNeg then none else (zlet (zU X r1 (v3 + v4).toNatClampNeg (X r0 (v1 + v4).toNatClampNeg)) fun X_1004 => f_X6_copy_L3 r0 n0 r1 n1 v1 v3 fu X_1004 (v4 + 1)))))
set_option maxRecDepth 100000 in
set_option maxHeartbeats 4000000 in
theorem w_X6_copy_L3 {p : Program} {e : Env} {s : State} {m : MethodId} {args : Array Value} {below : List Frame} {meth : Method} {c : Code} {A : Nat → Prop} (l : Launch) (D : va_G) (cy : Nat → ClassId) (ad : Nat → Nat) (E : va_W) (r0 n0 : Nat) (hs_r0 : shM[r0]? = some (.inl (0, n0))) (hn_r0 : n0 < 2 ^ 31) (r1 n1 : Nat) (hs_r1 : shM[r1]? = some (.inl (0, n1))) (hn_r1 : n1 < 2 ^ 31) (v1 : Int32) (v3 : Int32) {res : (Nat → Nat → Int32)} (C : zC p s m args meth c cX6_copy 5 RX6 D (zTy cy) A) (hr : meth.sig.returnType = none) : ∀ (fu : Nat) (X : Nat → Nat → Int32) (v4 : Int32) (h : f_X6_copy_L3 r0 n0 r1 n1 v1 v3 fu X v4 = some res), zG p l e (zrm 1) s m args below meth c 5 D A 0 0 (MQ below (va_Qv (fun (_ : Unit) => True) (fun _ t => zB D (zTy cy) A (zW cy ad shM E res) t) A) args s 0 0 A) (zW cy ad shM E X) 3 [(0, .ref (ad r0)), (1, .int v1), (2, .ref (ad r1)), (3, .int v3), (4, .int v4)] [] := by
  intro fu
  induction fu with
  | zero => intro X v4 h; simp [f_X6_copy_L3] at h
  | succ fu ih =>
    intro X v4 h
    rw [f_X6_copy_L3] at h
    refine g_iload (j := 4) C dX6_copy_3 rfl ?_
    refine g_sipush (v := (nI 580)) C dX6_copy_5 (by decide) ?_
    refine g_icmp_ge C dX6_copy_8 (tgt := 29) (by decide) (fun hc_1001 => ?_) (fun hc_1001 => ?_)
    · replace h := (if_pos hc_1001).symm.trans h
      obtain rfl := Option.some.inj h
      exact g_vret rfl C hr dX6_copy_29
    · replace h := (if_neg hc_1001).symm.trans h
      refine g_aload_n (j := 2) C dX6_copy_11 rfl rfl ?_
      refine g_iload_n (j := 3) C dX6_copy_12 rfl rfl ?_
      refine g_iload (j := 4) C dX6_copy_13 rfl ?_
      refine g_iadd C dX6_copy_15 ?_
      refine g_aload_n (j := 0) C dX6_copy_16 rfl rfl ?_
      refine g_iload_n (j := 1) C dX6_copy_17 rfl rfl ?_
      refine g_iload (j := 4) C dX6_copy_18 rfl ?_
      refine g_iadd C dX6_copy_20 ?_
      obtain ⟨hi_1002, h⟩ := ite_inone h
      refine g_iald C hs_r0 hi_1002 dX6_copy_21 ?_
      obtain ⟨hi_1003, h⟩ := ite_inone h
      refine g_iast C hs_r1 hi_1003 dX6_copy_22 ?_
      obtain ⟨X_1004, e_1005, h⟩ := zlet_ex h
      rw [← e_1005]
      refine g_iinc (k := 4) (L' := [(4, .int (v4 + 1)), (0, .ref (ad r0)), (1, .int v1), (2, .ref (ad r1)), (3, .int v3)]) C dX6_copy_23 rfl (z_iinc (by decide)) (by decide) rfl ?_
      refine g_goto C dX6_copy_26 (tgt := 3) (by decide) ?_
      refine zG_sub (L' := [(0, .ref (ad r0)), (1, .int v1), (2, .ref (ad r1)), (3, .int v3), (4, .int (v4 + 1))]) [1, 2, 3, 4, 0] rfl ?_
      exact ih X_1004 (v4 + 1) h
def f_X6_copy (X : Nat → Nat → Int32) (r0 n0 : Nat) (r1 n1 : Nat) (v1 v3 : Int32) : Option (Nat → Nat → Int32) := f_X6_copy_L3 r0 n0 r1 n1 v1 v3 zFuel X (nI 0)
set_option maxRecDepth 100000 in
set_option maxHeartbeats 4000000 in
theorem c_X6_copy (l : Launch) (D : va_G) (cy : Nat → ClassId) (ad : Nat → Nat) (E : va_W) (X : Nat → Nat → Int32) (r0 n0 : Nat) (r1 n1 : Nat) (hs_r0 : shM[r0]? = some (.inl (0, n0))) (hn_r0 : n0 < 2 ^ 31) (hs_r1 : shM[r1]? = some (.inl (0, n1))) (hn_r1 : n1 < 2 ^ 31) (v1 v3 : Int32) {res : (Nat → Nat → Int32)} (h : f_X6_copy X r0 n0 r1 n1 v1 v3 = some res) : zMv l yX6_copy cX6_copy 5 none (zrm 1) D (zTy cy) (zW cy ad shM E X) [.ref (ad r0), .int v1, .ref (ad r1), .int v3] (zW cy ad shM E res) := by
  refine zMv.of (by decide) (Nat.le_of_ble_eq_true rfl) ?_
  intro p e s m below meth c A C hr
  unfold f_X6_copy at h
  refine zG_L (L' := [(0, .ref (ad r0)), (1, .int v1), (2, .ref (ad r1)), (3, .int v3)]) rfl ?_
  refine g_iconst (v := (nI 0)) C dX6_copy_0 (by decide) ?_
  refine g_istore (L' := [(4, .int (nI 0)), (0, .ref (ad r0)), (1, .int v1), (2, .ref (ad r1)), (3, .int v3)]) C dX6_copy_1 (by decide) rfl ?_
  refine zG_sub (L' := [(0, .ref (ad r0)), (1, .int v1), (2, .ref (ad r1)), (3, .int v3), (4, .int (nI 0))]) [1, 2, 3, 4, 0] rfl ?_
  exact w_X6_copy_L3 l D cy ad E r0 n0 hs_r0 hn_r0 r1 n1 hs_r1 hn_r1 v1 v3 C hr zFuel X (nI 0) h
def f_X6_remembersRow_L11 (k : (Nat → Nat → Int32) → Option (Nat → Nat → Int32)) (r0 n0 : Nat) : Nat → (Nat → Nat → Int32) → Int32 → Option (Nat → Nat → Int32)
  | 0, _, _ => none
  | fu + 1, X, v2 => (if (nI 4060) ≤ v2 then k X else (if (v2 + (nI 580)) < 0 ∨ 4640 ≤ (v2 + (nI 580)).toNatClampNeg then none else (if v2 < 0 ∨ 4640 ≤ v2.toNatClampNeg then none else (zlet (zU X 2 v2.toNatClampNeg (X 2 (v2 + (nI 580)).toNatClampNeg)) fun X_1009 => f_X6_remembersRow_L11 k r0 n0 fu X_1009 (v2 + 1)))))
set_option maxRecDepth 100000 in
set_option maxHeartbeats 4000000 in
theorem w_X6_remembersRow_L11 {p : Program} {e : Env} {s : State} {m : MethodId} {args : Array Value} {below : List Frame} {meth : Method} {c : Code} {A : Nat → Prop} (l : Launch) (D : va_G) (cy : Nat → ClassId) (ad : Nat → Nat) (E : va_W) (k : (Nat → Nat → Int32) → Option (Nat → Nat → Int32)) (r0 n0 : Nat) (hs_r0 : shM[r0]? = some (.inl (0, n0))) (hn_r0 : n0 < 2 ^ 31) {res : (Nat → Nat → Int32)} (C : zC p s m args meth c cX6_remembersRow 3 RX6 D (zTy cy) A) (hr : meth.sig.returnType = none) : ∀ (fu : Nat) (X : Nat → Nat → Int32) (v2 : Int32) (h : f_X6_remembersRow_L11 k r0 n0 fu X v2 = some res) (hk : ∀ (X : Nat → Nat → Int32), k X = some res → zG p l e (zrm 2) s m args below meth c 3 D A 0 0 (MQ below (va_Qv (fun (_ : Unit) => True) (fun _ t => zB D (zTy cy) A (zW cy ad shM E res) t) A) args s 0 0 A) (zW cy ad shM E X) 40 [(0, .ref (ad 0)), (1, .ref (ad r0))] []), zG p l e (zrm 2) s m args below meth c 3 D A 0 0 (MQ below (va_Qv (fun (_ : Unit) => True) (fun _ t => zB D (zTy cy) A (zW cy ad shM E res) t) A) args s 0 0 A) (zW cy ad shM E X) 11 [(0, .ref (ad 0)), (1, .ref (ad r0)), (2, .int v2)] [] := by
  intro fu
  induction fu with
  | zero => intro X v2 h hk; simp [f_X6_remembersRow_L11] at h
  | succ fu ih =>
    intro X v2 h hk
    rw [f_X6_remembersRow_L11] at h
    refine g_iload_n (j := 2) C dX6_remembersRow_11 rfl rfl ?_
    refine g_sipush (v := (nI 4060)) C dX6_remembersRow_12 (by decide) ?_
    refine g_icmp_ge C dX6_remembersRow_15 (tgt := 40) (by decide) (fun hc_1006 => ?_) (fun hc_1006 => ?_)
    · replace h := (if_pos hc_1006).symm.trans h
      refine zG_sub (L' := [(0, .ref (ad 0)), (1, .ref (ad r0))]) [0, 1] rfl ?_
      exact hk X h
    · replace h := (if_neg hc_1006).symm.trans h
      refine g_aload_n (j := 0) C dX6_remembersRow_18 rfl rfl ?_
      refine g_getr (k := 2) (N := 27) C sM_0 rfl zin_RX6 (by decide) rfl zfl_RX6_13 rfl dX6_remembersRow_19 ?_
      refine g_iload_n (j := 2) C dX6_remembersRow_22 rfl rfl ?_
      refine g_aload_n (j := 0) C dX6_remembersRow_23 rfl rfl ?_
      refine g_getr (k := 2) (N := 27) C sM_0 rfl zin_RX6 (by decide) rfl zfl_RX6_13 rfl dX6_remembersRow_24 ?_
      refine g_iload_n (j := 2) C dX6_remembersRow_27 rfl rfl ?_
      refine g_sipush (v := (nI 580)) C dX6_remembersRow_28 (by decide) ?_
      refine g_iadd C dX6_remembersRow_31 ?_
      obtain ⟨hi_1007, h⟩ := ite_inone h
      refine g_iald C sM_2 hi_1007 dX6_remembersRow_32 ?_
      obtain ⟨hi_1008, h⟩ := ite_inone h
      refine g_iast C sM_2 hi_1008 dX6_remembersRow_33 ?_
      obtain ⟨X_1009, e_1010, h⟩ := zlet_ex h
      rw [← e_1010]
      refine g_iinc (k := 2) (L' := [(2, .int (v2 + 1)), (0, .ref (ad 0)), (1, .ref (ad r0))]) C dX6_remembersRow_34 rfl (z_iinc (by decide)) (by decide) rfl ?_
      refine g_goto C dX6_remembersRow_37 (tgt := 11) (by decide) ?_
      refine zG_sub (L' := [(0, .ref (ad 0)), (1, .ref (ad r0)), (2, .int (v2 + 1))]) [1, 2, 0] rfl ?_
      exact ih X_1009 (v2 + 1) h hk
def f_X6_remembersRow (X : Nat → Nat → Int32) (r0 n0 : Nat) : Option (Nat → Nat → Int32) := (if (X 0 3) = (nI 8) then f_X6_remembersRow_L11 (fun X_1011 => (zlet (zU X_1011 0 3 ((X_1011 0 3) - (nI 1))) fun X_1012 => ((f_X6_copy X_1012 r0 n0 2 4640 (nI 0) ((X_1012 0 3) * (nI 580))).bind fun q_1014 => (zlet (zU q_1014 0 3 ((q_1014 0 3) + (nI 1))) fun X_1016 => some X_1016)))) r0 n0 zFuel X (nI 0) else ((f_X6_copy X r0 n0 2 4640 (nI 0) ((X 0 3) * (nI 580))).bind fun q_2 => (zlet (zU q_2 0 3 ((q_2 0 3) + (nI 1))) fun X_4 => some X_4)))
set_option maxRecDepth 100000 in
set_option maxHeartbeats 4000000 in
theorem c_X6_remembersRow (l : Launch) (D : va_G) (cy : Nat → ClassId) (ad : Nat → Nat) (E : va_W) (X : Nat → Nat → Int32) (r0 n0 : Nat) (hs_r0 : shM[r0]? = some (.inl (0, n0))) (hn_r0 : n0 < 2 ^ 31) {res : (Nat → Nat → Int32)} (h : f_X6_remembersRow X r0 n0 = some res) : zMv l yX6_remembersRow cX6_remembersRow 3 none (zrm 2) D (zTy cy) (zW cy ad shM E X) [.ref (ad 0), .ref (ad r0)] (zW cy ad shM E res) := by
  refine zMv.of (by decide) (Nat.le_of_ble_eq_true rfl) ?_
  intro p e s m below meth c A C hr
  unfold f_X6_remembersRow at h
  refine zG_L (L' := [(0, .ref (ad 0)), (1, .ref (ad r0))]) rfl ?_
  refine g_aload_n (j := 0) C dX6_remembersRow_0 rfl rfl ?_
  refine g_geti (k := 3) (N := 27) C sM_0 rfl zin_RX6 (by decide) rfl zfl_RX6_49 rfl dX6_remembersRow_1 ?_
  refine g_bipush (v := (nI 8)) C dX6_remembersRow_4 (by decide) ?_
  refine g_icmp_ne C dX6_remembersRow_6 (tgt := 50) (by decide) (fun hc_1 => ?_) (fun hc_1 => ?_)
  · replace h := (if_neg hc_1).symm.trans h
    refine g_aload_n (j := 1) C dX6_remembersRow_50 rfl rfl ?_
    refine g_iconst (v := (nI 0)) C dX6_remembersRow_51 (by decide) ?_
    refine g_aload_n (j := 0) C dX6_remembersRow_52 rfl rfl ?_
    refine g_getr (k := 2) (N := 27) C sM_0 rfl zin_RX6 (by decide) rfl zfl_RX6_13 rfl dX6_remembersRow_53 ?_
    refine g_aload_n (j := 0) C dX6_remembersRow_56 rfl rfl ?_
    refine g_geti (k := 3) (N := 27) C sM_0 rfl zin_RX6 (by decide) rfl zfl_RX6_49 rfl dX6_remembersRow_57 ?_
    refine g_sipush (v := (nI 580)) C dX6_remembersRow_60 (by decide) ?_
    refine g_imul C dX6_remembersRow_63 ?_
    obtain ⟨q_2, hq_3, h⟩ := bind_isome h
    refine g_sv (ws' := (zW cy ad shM E q_2)) (As := [.ref (ad r0), .int (nI 0), .ref (ad 2), .int ((X 0 3) * (nI 580))]) (rest := []) C (c_X6_copy l D cy ad E X r0 n0 2 4640 hs_r0 hn_r0 sM_2 (by decide) (nI 0) ((X 0 3) * (nI 580)) hq_3) zml_RX6_52 zcs_X6_copy rfl rfl ⟨Nat.le_of_ble_eq_true rfl, Nat.le_of_ble_eq_true rfl⟩ rfl rfl (Nat.le_of_ble_eq_true rfl) ⟨Nat.zero_le _, Nat.zero_le _⟩ dX6_remembersRow_64 ?_
    refine g_aload_n (j := 0) C dX6_remembersRow_67 rfl rfl ?_
    refine g_dup C dX6_remembersRow_68 rfl ?_
    refine g_geti (k := 3) (N := 27) C sM_0 rfl zin_RX6 (by decide) rfl zfl_RX6_49 rfl dX6_remembersRow_69 ?_
    refine g_iconst (v := (nI 1)) C dX6_remembersRow_72 (by decide) ?_
    refine g_iadd C dX6_remembersRow_73 ?_
    refine g_puti (k := 3) (N := 27) (ty := .int) C sM_0 rfl zin_RX6 (by decide) rfl zfl_RX6_49 rfl tyX6_ok nmX6 rfl (by decide +kernel) rfl rfl dX6_remembersRow_74 ?_
    obtain ⟨X_4, e_5, h⟩ := zlet_ex h
    rw [← e_5]
    obtain rfl := Option.some.inj h
    exact g_vret rfl C hr dX6_remembersRow_77
  · replace h := (if_pos hc_1).symm.trans h
    refine g_iconst (v := (nI 0)) C dX6_remembersRow_9 (by decide) ?_
    refine g_istore_n (L' := [(2, .int (nI 0)), (0, .ref (ad 0)), (1, .ref (ad r0))]) C dX6_remembersRow_10 rfl (by decide) rfl ?_
    refine zG_sub (L' := [(0, .ref (ad 0)), (1, .ref (ad r0)), (2, .int (nI 0))]) [1, 2, 0] rfl ?_
    refine w_X6_remembersRow_L11 l D cy ad E _ r0 n0 hs_r0 hn_r0 C hr zFuel X (nI 0) h ?_
    intro X_1011 h
    refine g_aload_n (j := 0) C dX6_remembersRow_40 rfl rfl ?_
    refine g_dup C dX6_remembersRow_41 rfl ?_
    refine g_geti (k := 3) (N := 27) C sM_0 rfl zin_RX6 (by decide) rfl zfl_RX6_49 rfl dX6_remembersRow_42 ?_
    refine g_iconst (v := (nI 1)) C dX6_remembersRow_45 (by decide) ?_
    refine g_isub C dX6_remembersRow_46 ?_
    refine g_puti (k := 3) (N := 27) (ty := .int) C sM_0 rfl zin_RX6 (by decide) rfl zfl_RX6_49 rfl tyX6_ok nmX6 rfl (by decide +kernel) rfl rfl dX6_remembersRow_47 ?_
    obtain ⟨X_1012, e_1013, h⟩ := zlet_ex h
    rw [← e_1013]
    refine g_aload_n (j := 1) C dX6_remembersRow_50 rfl rfl ?_
    refine g_iconst (v := (nI 0)) C dX6_remembersRow_51 (by decide) ?_
    refine g_aload_n (j := 0) C dX6_remembersRow_52 rfl rfl ?_
    refine g_getr (k := 2) (N := 27) C sM_0 rfl zin_RX6 (by decide) rfl zfl_RX6_13 rfl dX6_remembersRow_53 ?_
    refine g_aload_n (j := 0) C dX6_remembersRow_56 rfl rfl ?_
    refine g_geti (k := 3) (N := 27) C sM_0 rfl zin_RX6 (by decide) rfl zfl_RX6_49 rfl dX6_remembersRow_57 ?_
    refine g_sipush (v := (nI 580)) C dX6_remembersRow_60 (by decide) ?_
    refine g_imul C dX6_remembersRow_63 ?_
    obtain ⟨q_1014, hq_1015, h⟩ := bind_isome h
    refine g_sv (ws' := (zW cy ad shM E q_1014)) (As := [.ref (ad r0), .int (nI 0), .ref (ad 2), .int ((X_1012 0 3) * (nI 580))]) (rest := []) C (c_X6_copy l D cy ad E X_1012 r0 n0 2 4640 hs_r0 hn_r0 sM_2 (by decide) (nI 0) ((X_1012 0 3) * (nI 580)) hq_1015) zml_RX6_52 zcs_X6_copy rfl rfl ⟨Nat.le_of_ble_eq_true rfl, Nat.le_of_ble_eq_true rfl⟩ rfl rfl (Nat.le_of_ble_eq_true rfl) ⟨Nat.zero_le _, Nat.zero_le _⟩ dX6_remembersRow_64 ?_
    refine g_aload_n (j := 0) C dX6_remembersRow_67 rfl rfl ?_
    refine g_dup C dX6_remembersRow_68 rfl ?_
    refine g_geti (k := 3) (N := 27) C sM_0 rfl zin_RX6 (by decide) rfl zfl_RX6_49 rfl dX6_remembersRow_69 ?_
    refine g_iconst (v := (nI 1)) C dX6_remembersRow_72 (by decide) ?_
    refine g_iadd C dX6_remembersRow_73 ?_
    refine g_puti (k := 3) (N := 27) (ty := .int) C sM_0 rfl zin_RX6 (by decide) rfl zfl_RX6_49 rfl tyX6_ok nmX6 rfl (by decide +kernel) rfl rfl dX6_remembersRow_74 ?_
    obtain ⟨X_1016, e_1017, h⟩ := zlet_ex h
    rw [← e_1017]
    obtain rfl := Option.some.inj h
    exact g_vret rfl C hr dX6_remembersRow_77
def f_X6_remembers (X : Nat → Nat → Int32) : Option (Nat → Nat → Int32) := (if (X 0 7) = 0 then ((f_X6_remembersRow X 1 580).bind fun q_2 => some q_2) else some X)
set_option maxRecDepth 100000 in
set_option maxHeartbeats 4000000 in
theorem c_X6_remembers (l : Launch) (D : va_G) (cy : Nat → ClassId) (ad : Nat → Nat) (E : va_W) (X : Nat → Nat → Int32) {res : (Nat → Nat → Int32)} (h : f_X6_remembers X = some res) : zMv l yX6_remembers cX6_remembers 1 none (zrm 3) D (zTy cy) (zW cy ad shM E X) [.ref (ad 0)] (zW cy ad shM E res) := by
  refine zMv.of (by decide) (Nat.le_of_ble_eq_true rfl) ?_
  intro p e s m below meth c A C hr
  unfold f_X6_remembers at h
  refine zG_L (L' := [(0, .ref (ad 0))]) rfl ?_
  refine g_aload_n (j := 0) C dX6_remembers_0 rfl rfl ?_
  refine g_geti (k := 7) (N := 27) C sM_0 rfl zin_RX6 (by decide) rfl zfl_RX6_56 rfl dX6_remembers_1 ?_
  refine g_if_ne C dX6_remembers_4 (tgt := 15) (by decide) (fun hc_1 => ?_) (fun hc_1 => ?_)
  · replace h := (if_neg hc_1).symm.trans h
    obtain rfl := Option.some.inj h
    exact g_vret rfl C hr dX6_remembers_15
  · replace h := (if_pos hc_1).symm.trans h
    refine g_aload_n (j := 0) C dX6_remembers_7 rfl rfl ?_
    refine g_aload_n (j := 0) C dX6_remembers_8 rfl rfl ?_
    refine g_getr (k := 1) (N := 27) C sM_0 rfl zin_RX6 (by decide) rfl zfl_RX6_9 rfl dX6_remembers_9 ?_
    obtain ⟨q_2, hq_3, h⟩ := bind_isome h
    refine g_vv (ws' := (zW cy ad shM E q_2)) (As := [.ref (ad 1)]) (rest := []) C (c_X6_remembersRow l D cy ad E X 1 580 sM_1 (by decide) hq_3) zml_RX6_60 zcv_X6_remembersRow (zW_get X sM_0) rfl rfl rfl ⟨Nat.le_of_ble_eq_true rfl, Nat.le_of_ble_eq_true rfl⟩ rfl rfl (Nat.le_of_ble_eq_true rfl) ⟨Nat.zero_le _, Nat.zero_le _⟩ dX6_remembers_12 ?_
    obtain rfl := Option.some.inj h
    exact g_vret rfl C hr dX6_remembers_15
def f_X6_hallAt (X : Nat → Nat → Int32) (v1 v2 : Int32) : Option Int32 := (if (((nI 30) + ((nI 4) * v1)) + v2) < 0 ∨ 580 ≤ (((nI 30) + ((nI 4) * v1)) + v2).toNatClampNeg then none else some (X 1 (((nI 30) + ((nI 4) * v1)) + v2).toNatClampNeg))
set_option maxRecDepth 100000 in
set_option maxHeartbeats 4000000 in
theorem c_X6_hallAt (l : Launch) (D : va_G) (cy : Nat → ClassId) (ad : Nat → Nat) (E : va_W) (X : Nat → Nat → Int32) (v1 v2 : Int32) {res : Int32} (h : f_X6_hallAt X v1 v2 = some res) : zMi l yX6_hallAt cX6_hallAt 3 (some .int) (zrm 1) D (zTy cy) (zW cy ad shM E X) [.ref (ad 0), .int v1, .int v2] res (zW cy ad shM E X) := by
  refine zMi.of (by decide) (Nat.le_of_ble_eq_true rfl) ?_
  intro p e s m below meth c A C hr
  unfold f_X6_hallAt at h
  refine zG_L (L' := [(0, .ref (ad 0)), (1, .int v1), (2, .int v2)]) rfl ?_
  refine g_aload_n (j := 0) C dX6_hallAt_0 rfl rfl ?_
  refine g_getr (k := 1) (N := 27) C sM_0 rfl zin_RX6 (by decide) rfl zfl_RX6_9 rfl dX6_hallAt_1 ?_
  refine g_bipush (v := (nI 30)) C dX6_hallAt_4 (by decide) ?_
  refine g_iconst (v := (nI 4)) C dX6_hallAt_6 (by decide) ?_
  refine g_iload_n (j := 1) C dX6_hallAt_7 rfl rfl ?_
  refine g_imul C dX6_hallAt_8 ?_
  refine g_iadd C dX6_hallAt_9 ?_
  refine g_iload_n (j := 2) C dX6_hallAt_10 rfl rfl ?_
  refine g_iadd C dX6_hallAt_11 ?_
  obtain ⟨hi_1, h⟩ := ite_inone h
  refine g_iald C sM_1 hi_1 dX6_hallAt_12 ?_
  obtain rfl := Option.some.inj h
  exact g_iret rfl C hr rfl dX6_hallAt_13
def f_X6_filmAt (X : Nat → Nat → Int32) (v1 v2 : Int32) : Option Int32 := (if (((nI 54) + ((nI 8) * v1)) + v2) < 0 ∨ 580 ≤ (((nI 54) + ((nI 8) * v1)) + v2).toNatClampNeg then none else some (X 1 (((nI 54) + ((nI 8) * v1)) + v2).toNatClampNeg))
set_option maxRecDepth 100000 in
set_option maxHeartbeats 4000000 in
theorem c_X6_filmAt (l : Launch) (D : va_G) (cy : Nat → ClassId) (ad : Nat → Nat) (E : va_W) (X : Nat → Nat → Int32) (v1 v2 : Int32) {res : Int32} (h : f_X6_filmAt X v1 v2 = some res) : zMi l yX6_filmAt cX6_filmAt 3 (some .int) (zrm 1) D (zTy cy) (zW cy ad shM E X) [.ref (ad 0), .int v1, .int v2] res (zW cy ad shM E X) := by
  refine zMi.of (by decide) (Nat.le_of_ble_eq_true rfl) ?_
  intro p e s m below meth c A C hr
  unfold f_X6_filmAt at h
  refine zG_L (L' := [(0, .ref (ad 0)), (1, .int v1), (2, .int v2)]) rfl ?_
  refine g_aload_n (j := 0) C dX6_filmAt_0 rfl rfl ?_
  refine g_getr (k := 1) (N := 27) C sM_0 rfl zin_RX6 (by decide) rfl zfl_RX6_9 rfl dX6_filmAt_1 ?_
  refine g_bipush (v := (nI 54)) C dX6_filmAt_4 (by decide) ?_
  refine g_bipush (v := (nI 8)) C dX6_filmAt_6 (by decide) ?_
  refine g_iload_n (j := 1) C dX6_filmAt_8 rfl rfl ?_
  refine g_imul C dX6_filmAt_9 ?_
  refine g_iadd C dX6_filmAt_10 ?_
  refine g_iload_n (j := 2) C dX6_filmAt_11 rfl rfl ?_
  refine g_iadd C dX6_filmAt_12 ?_
  obtain ⟨hi_1, h⟩ := ite_inone h
  refine g_iald C sM_1 hi_1 dX6_filmAt_13 ?_
  obtain rfl := Option.some.inj h
  exact g_iret rfl C hr rfl dX6_filmAt_14
def f_X6_trailerAt (X : Nat → Nat → Int32) (v1 v2 : Int32) : Option Int32 := (if (((nI 118) + ((nI 4) * v1)) + v2) < 0 ∨ 580 ≤ (((nI 118) + ((nI 4) * v1)) + v2).toNatClampNeg then none else some (X 1 (((nI 118) + ((nI 4) * v1)) + v2).toNatClampNeg))
set_option maxRecDepth 100000 in
set_option maxHeartbeats 4000000 in
theorem c_X6_trailerAt (l : Launch) (D : va_G) (cy : Nat → ClassId) (ad : Nat → Nat) (E : va_W) (X : Nat → Nat → Int32) (v1 v2 : Int32) {res : Int32} (h : f_X6_trailerAt X v1 v2 = some res) : zMi l yX6_trailerAt cX6_trailerAt 3 (some .int) (zrm 1) D (zTy cy) (zW cy ad shM E X) [.ref (ad 0), .int v1, .int v2] res (zW cy ad shM E X) := by
  refine zMi.of (by decide) (Nat.le_of_ble_eq_true rfl) ?_
  intro p e s m below meth c A C hr
  unfold f_X6_trailerAt at h
  refine zG_L (L' := [(0, .ref (ad 0)), (1, .int v1), (2, .int v2)]) rfl ?_
  refine g_aload_n (j := 0) C dX6_trailerAt_0 rfl rfl ?_
  refine g_getr (k := 1) (N := 27) C sM_0 rfl zin_RX6 (by decide) rfl zfl_RX6_9 rfl dX6_trailerAt_1 ?_
  refine g_bipush (v := (nI 118)) C dX6_trailerAt_4 (by decide) ?_
  refine g_iconst (v := (nI 4)) C dX6_trailerAt_6 (by decide) ?_
  refine g_iload_n (j := 1) C dX6_trailerAt_7 rfl rfl ?_
  refine g_imul C dX6_trailerAt_8 ?_
  refine g_iadd C dX6_trailerAt_9 ?_
  refine g_iload_n (j := 2) C dX6_trailerAt_10 rfl rfl ?_
  refine g_iadd C dX6_trailerAt_11 ?_
  obtain ⟨hi_1, h⟩ := ite_inone h
  refine g_iald C sM_1 hi_1 dX6_trailerAt_12 ?_
  obtain rfl := Option.some.inj h
  exact g_iret rfl C hr rfl dX6_trailerAt_13
def f_X6_showAt (X : Nat → Nat → Int32) (v1 v2 : Int32) : Option Int32 := (if (((nI 158) + ((nI 9) * v1)) + v2) < 0 ∨ 580 ≤ (((nI 158) + ((nI 9) * v1)) + v2).toNatClampNeg then none else some (X 1 (((nI 158) + ((nI 9) * v1)) + v2).toNatClampNeg))
set_option maxRecDepth 100000 in
set_option maxHeartbeats 4000000 in
theorem c_X6_showAt (l : Launch) (D : va_G) (cy : Nat → ClassId) (ad : Nat → Nat) (E : va_W) (X : Nat → Nat → Int32) (v1 v2 : Int32) {res : Int32} (h : f_X6_showAt X v1 v2 = some res) : zMi l yX6_showAt cX6_showAt 3 (some .int) (zrm 1) D (zTy cy) (zW cy ad shM E X) [.ref (ad 0), .int v1, .int v2] res (zW cy ad shM E X) := by
  refine zMi.of (by decide) (Nat.le_of_ble_eq_true rfl) ?_
  intro p e s m below meth c A C hr
  unfold f_X6_showAt at h
  refine zG_L (L' := [(0, .ref (ad 0)), (1, .int v1), (2, .int v2)]) rfl ?_
  refine g_aload_n (j := 0) C dX6_showAt_0 rfl rfl ?_
  refine g_getr (k := 1) (N := 27) C sM_0 rfl zin_RX6 (by decide) rfl zfl_RX6_9 rfl dX6_showAt_1 ?_
  refine g_sipush (v := (nI 158)) C dX6_showAt_4 (by decide) ?_
  refine g_bipush (v := (nI 9)) C dX6_showAt_7 (by decide) ?_
  refine g_iload_n (j := 1) C dX6_showAt_9 rfl rfl ?_
  refine g_imul C dX6_showAt_10 ?_
  refine g_iadd C dX6_showAt_11 ?_
  refine g_iload_n (j := 2) C dX6_showAt_12 rfl rfl ?_
  refine g_iadd C dX6_showAt_13 ?_
  obtain ⟨hi_1, h⟩ := ite_inone h
  refine g_iald C sM_1 hi_1 dX6_showAt_14 ?_
  obtain rfl := Option.some.inj h
  exact g_iret rfl C hr rfl dX6_showAt_15
def f_X6_isHall (X : Nat → Nat → Int32) (v1 : Int32) : Int32 := (f_X6_in v1 (nI 0) ((X 1 (nI 1).toNatClampNeg) - (nI 1)))
theorem b_X6_isHall (X : Nat → Nat → Int32) (v1 : Int32) : f_X6_isHall X v1 = 0 ∨ f_X6_isHall X v1 = 1 := by
  unfold f_X6_isHall
  repeat' split
  all_goals first | exact Or.inl rfl | exact Or.inr rfl | apply b_X6_in
set_option maxRecDepth 100000 in
set_option maxHeartbeats 4000000 in
theorem c_X6_isHall (l : Launch) (D : va_G) (cy : Nat → ClassId) (ad : Nat → Nat) (E : va_W) (X : Nat → Nat → Int32) (v1 : Int32) : zMi l yX6_isHall cX6_isHall 2 (some .boolean) (zrm 2) D (zTy cy) (zW cy ad shM E X) [.ref (ad 0), .int v1] (f_X6_isHall X v1) (zW cy ad shM E X) := by
  refine zMi.of (by decide) (Nat.le_of_ble_eq_true rfl) ?_
  intro p e s m below meth c A C hr
  generalize h : f_X6_isHall X v1 = res
  unfold f_X6_isHall at h
  refine zG_L (L' := [(0, .ref (ad 0)), (1, .int v1)]) rfl ?_
  refine g_iload_n (j := 1) C dX6_isHall_0 rfl rfl ?_
  refine g_iconst (v := (nI 0)) C dX6_isHall_1 (by decide) ?_
  refine g_aload_n (j := 0) C dX6_isHall_2 rfl rfl ?_
  refine g_getr (k := 1) (N := 27) C sM_0 rfl zin_RX6 (by decide) rfl zfl_RX6_9 rfl dX6_isHall_3 ?_
  refine g_iconst (v := (nI 1)) C dX6_isHall_6 (by decide) ?_
  refine g_iald C sM_1 (by decide) dX6_isHall_7 ?_
  refine g_iconst (v := (nI 1)) C dX6_isHall_8 (by decide) ?_
  refine g_isub C dX6_isHall_9 ?_
  refine g_si (ws' := (zW cy ad shM E X)) (As := [.int v1, .int (nI 0), .int ((X 1 (nI 1).toNatClampNeg) - (nI 1))]) (rest := []) (res := (f_X6_in v1 (nI 0) ((X 1 (nI 1).toNatClampNeg) - (nI 1)))) C (c_X6_in l D cy (zW cy ad shM E X) v1 (nI 0) ((X 1 (nI 1).toNatClampNeg) - (nI 1))) zml_RX6_64 zcs_X6_in rfl rfl ⟨Nat.le_of_ble_eq_true rfl, Nat.le_of_ble_eq_true rfl⟩ rfl rfl (Nat.le_of_ble_eq_true rfl) ⟨Nat.zero_le _, Nat.zero_le _⟩ dX6_isHall_10 ?_
  subst h
  exact g_iret rfl C hr (z_nb (b_X6_in v1 (nI 0) ((X 1 (nI 1).toNatClampNeg) - (nI 1)))) dX6_isHall_13
def f_X6_isFilm (X : Nat → Nat → Int32) (v1 : Int32) : Int32 := (f_X6_in v1 (nI 0) ((X 1 (nI 2).toNatClampNeg) - (nI 1)))
theorem b_X6_isFilm (X : Nat → Nat → Int32) (v1 : Int32) : f_X6_isFilm X v1 = 0 ∨ f_X6_isFilm X v1 = 1 := by
  unfold f_X6_isFilm
  repeat' split
  all_goals first | exact Or.inl rfl | exact Or.inr rfl | apply b_X6_in
set_option maxRecDepth 100000 in
set_option maxHeartbeats 4000000 in
theorem c_X6_isFilm (l : Launch) (D : va_G) (cy : Nat → ClassId) (ad : Nat → Nat) (E : va_W) (X : Nat → Nat → Int32) (v1 : Int32) : zMi l yX6_isFilm cX6_isFilm 2 (some .boolean) (zrm 2) D (zTy cy) (zW cy ad shM E X) [.ref (ad 0), .int v1] (f_X6_isFilm X v1) (zW cy ad shM E X) := by
  refine zMi.of (by decide) (Nat.le_of_ble_eq_true rfl) ?_
  intro p e s m below meth c A C hr
  generalize h : f_X6_isFilm X v1 = res
  unfold f_X6_isFilm at h
  refine zG_L (L' := [(0, .ref (ad 0)), (1, .int v1)]) rfl ?_
  refine g_iload_n (j := 1) C dX6_isFilm_0 rfl rfl ?_
  refine g_iconst (v := (nI 0)) C dX6_isFilm_1 (by decide) ?_
  refine g_aload_n (j := 0) C dX6_isFilm_2 rfl rfl ?_
  refine g_getr (k := 1) (N := 27) C sM_0 rfl zin_RX6 (by decide) rfl zfl_RX6_9 rfl dX6_isFilm_3 ?_
  refine g_iconst (v := (nI 2)) C dX6_isFilm_6 (by decide) ?_
  refine g_iald C sM_1 (by decide) dX6_isFilm_7 ?_
  refine g_iconst (v := (nI 1)) C dX6_isFilm_8 (by decide) ?_
  refine g_isub C dX6_isFilm_9 ?_
  refine g_si (ws' := (zW cy ad shM E X)) (As := [.int v1, .int (nI 0), .int ((X 1 (nI 2).toNatClampNeg) - (nI 1))]) (rest := []) (res := (f_X6_in v1 (nI 0) ((X 1 (nI 2).toNatClampNeg) - (nI 1)))) C (c_X6_in l D cy (zW cy ad shM E X) v1 (nI 0) ((X 1 (nI 2).toNatClampNeg) - (nI 1))) zml_RX6_64 zcs_X6_in rfl rfl ⟨Nat.le_of_ble_eq_true rfl, Nat.le_of_ble_eq_true rfl⟩ rfl rfl (Nat.le_of_ble_eq_true rfl) ⟨Nat.zero_le _, Nat.zero_le _⟩ dX6_isFilm_10 ?_
  subst h
  exact g_iret rfl C hr (z_nb (b_X6_in v1 (nI 0) ((X 1 (nI 2).toNatClampNeg) - (nI 1)))) dX6_isFilm_13
def f_X6_isShow (X : Nat → Nat → Int32) (v1 : Int32) : Int32 := (f_X6_in v1 (nI 0) ((X 1 (nI 4).toNatClampNeg) - (nI 1)))
theorem b_X6_isShow (X : Nat → Nat → Int32) (v1 : Int32) : f_X6_isShow X v1 = 0 ∨ f_X6_isShow X v1 = 1 := by
  unfold f_X6_isShow
  repeat' split
  all_goals first | exact Or.inl rfl | exact Or.inr rfl | apply b_X6_in
set_option maxRecDepth 100000 in
set_option maxHeartbeats 4000000 in
theorem c_X6_isShow (l : Launch) (D : va_G) (cy : Nat → ClassId) (ad : Nat → Nat) (E : va_W) (X : Nat → Nat → Int32) (v1 : Int32) : zMi l yX6_isShow cX6_isShow 2 (some .boolean) (zrm 2) D (zTy cy) (zW cy ad shM E X) [.ref (ad 0), .int v1] (f_X6_isShow X v1) (zW cy ad shM E X) := by
  refine zMi.of (by decide) (Nat.le_of_ble_eq_true rfl) ?_
  intro p e s m below meth c A C hr
  generalize h : f_X6_isShow X v1 = res
  unfold f_X6_isShow at h
  refine zG_L (L' := [(0, .ref (ad 0)), (1, .int v1)]) rfl ?_
  refine g_iload_n (j := 1) C dX6_isShow_0 rfl rfl ?_
  refine g_iconst (v := (nI 0)) C dX6_isShow_1 (by decide) ?_
  refine g_aload_n (j := 0) C dX6_isShow_2 rfl rfl ?_
  refine g_getr (k := 1) (N := 27) C sM_0 rfl zin_RX6 (by decide) rfl zfl_RX6_9 rfl dX6_isShow_3 ?_
  refine g_iconst (v := (nI 4)) C dX6_isShow_6 (by decide) ?_
  refine g_iald C sM_1 (by decide) dX6_isShow_7 ?_
  refine g_iconst (v := (nI 1)) C dX6_isShow_8 (by decide) ?_
  refine g_isub C dX6_isShow_9 ?_
  refine g_si (ws' := (zW cy ad shM E X)) (As := [.int v1, .int (nI 0), .int ((X 1 (nI 4).toNatClampNeg) - (nI 1))]) (rest := []) (res := (f_X6_in v1 (nI 0) ((X 1 (nI 4).toNatClampNeg) - (nI 1)))) C (c_X6_in l D cy (zW cy ad shM E X) v1 (nI 0) ((X 1 (nI 4).toNatClampNeg) - (nI 1))) zml_RX6_64 zcs_X6_in rfl rfl ⟨Nat.le_of_ble_eq_true rfl, Nat.le_of_ble_eq_true rfl⟩ rfl rfl (Nat.le_of_ble_eq_true rfl) ⟨Nat.zero_le _, Nat.zero_le _⟩ dX6_isShow_10 ?_
  subst h
  exact g_iret rfl C hr (z_nb (b_X6_in v1 (nI 0) ((X 1 (nI 4).toNatClampNeg) - (nI 1)))) dX6_isShow_13
def f_X6_isDay (v0 : Int32) : Int32 := (f_X6_in v0 (nI 0) (nI 59))
theorem b_X6_isDay (v0 : Int32) : f_X6_isDay v0 = 0 ∨ f_X6_isDay v0 = 1 := by
  unfold f_X6_isDay
  repeat' split
  all_goals first | exact Or.inl rfl | exact Or.inr rfl | apply b_X6_in
set_option maxRecDepth 100000 in
set_option maxHeartbeats 4000000 in
theorem c_X6_isDay (l : Launch) (D : va_G) (cy : Nat → ClassId) (ws : va_W) (v0 : Int32) : zMi l yX6_isDay cX6_isDay 1 (some .boolean) (zrm 2) D (zTy cy) ws [.int v0] (f_X6_isDay v0) ws := by
  refine zMi.of (by decide) (Nat.le_of_ble_eq_true rfl) ?_
  intro p e s m below meth c A C hr
  generalize h : f_X6_isDay v0 = res
  unfold f_X6_isDay at h
  refine zG_L (L' := [(0, .int v0)]) rfl ?_
  refine g_iload_n (j := 0) C dX6_isDay_0 rfl rfl ?_
  refine g_iconst (v := (nI 0)) C dX6_isDay_1 (by decide) ?_
  refine g_bipush (v := (nI 59)) C dX6_isDay_2 (by decide) ?_
  refine g_si (ws' := ws) (As := [.int v0, .int (nI 0), .int (nI 59)]) (rest := []) (res := (f_X6_in v0 (nI 0) (nI 59))) C (c_X6_in l D cy ws v0 (nI 0) (nI 59)) zml_RX6_64 zcs_X6_in rfl rfl ⟨Nat.le_of_ble_eq_true rfl, Nat.le_of_ble_eq_true rfl⟩ rfl rfl (Nat.le_of_ble_eq_true rfl) ⟨Nat.zero_le _, Nat.zero_le _⟩ dX6_isDay_4 ?_
  subst h
  exact g_iret rfl C hr (z_nb (b_X6_in v0 (nI 0) (nI 59))) dX6_isDay_7
def f_X6_addHall (X : Nat → Nat → Int32) (v1 v2 v3 : Int32) : Option (Int32 × (Nat → Nat → Int32)) := (if (f_X6_in v1 (nI 1) (nI 400)) = 0 then (zlet (f_X6_fails X (nI 1)) fun q_2 => some (q_2.1, q_2.2)) else (if (f_X6_in v2 (nI 0) (nI 40)) = 0 then (zlet (f_X6_fails X (nI 1)) fun q_5 => some (q_5.1, q_5.2)) else (if (f_X6_in v3 (nI 0) (nI 2)) = 0 then (zlet (f_X6_fails X (nI 1)) fun q_29 => some (q_29.1, q_29.2)) else (if (X 1 (nI 1).toNatClampNeg) = (nI 6) then (zlet (f_X6_fails X (nI 2)) fun q_27 => some (q_27.1, q_27.2)) else ((f_X6_remembers X).bind fun q_9 => (if ((nI 30) + ((nI 4) * (q_9 1 (nI 1).toNatClampNeg))) < 0 ∨ 580 ≤ ((nI 30) + ((nI 4) * (q_9 1 (nI 1).toNatClampNeg))).toNatClampNeg then none else (zlet (zU q_9 1 ((nI 30) + ((nI 4) * (q_9 1 (nI 1).toNatClampNeg))).toNatClampNeg v1) fun X_12 => (if (((nI 30) + ((nI 4) * (q_9 1 (nI 1).toNatClampNeg))) + (nI 1)) < 0 ∨ 580 ≤ (((nI 30) + ((nI 4) * (q_9 1 (nI 1).toNatClampNeg))) + (nI 1)).toNatClampNeg then none else (zlet (zU X_12 1 (((nI 30) + ((nI 4) * (q_9 1 (nI 1).toNatClampNeg))) + (nI 1)).toNatClampNeg v2) fun X_15 => (if (((nI 30) + ((nI 4) * (q_9 1 (nI 1).toNatClampNeg))) + (nI 2)) < 0 ∨ 580 ≤ (((nI 30) + ((nI 4) * (q_9 1 (nI 1).toNatClampNeg))) + (nI 2)).toNatClampNeg then none else (zlet (zU X_15 1 (((nI 30) + ((nI 4) * (q_9 1 (nI 1).toNatClampNeg))) + (nI 2)).toNatClampNeg v3) fun X_18 => (if (((nI 30) + ((nI 4) * (q_9 1 (nI 1).toNatClampNeg))) + (nI 3)) < 0 ∨ 580 ≤ (((nI 30) + ((nI 4) * (q_9 1 (nI 1).toNatClampNeg))) + (nI 3)).toNatClampNeg then none else (zlet (zU X_18 1 (((nI 30) + ((nI 4) * (q_9 1 (nI 1).toNatClampNeg))) + (nI 3)).toNatClampNeg (-1 : Int32)) fun X_21 => (zlet (zU X_21 1 (nI 1).toNatClampNeg ((X_21 1 (nI 1).toNatClampNeg) + (nI 1))) fun X_23 => (zlet (f_X6_done X_23 ((X_23 1 (nI 1).toNatClampNeg) - (nI 1))) fun q_25 => some (q_25.1, q_25.2))))))))))))))))
set_option maxRecDepth 100000 in
set_option maxHeartbeats 4000000 in
theorem c_X6_addHall (l : Launch) (D : va_G) (cy : Nat → ClassId) (ad : Nat → Nat) (E : va_W) (X : Nat → Nat → Int32) (v1 v2 v3 : Int32) {res : Int32 × (Nat → Nat → Int32)} (h : f_X6_addHall X v1 v2 v3 = some res) : zMi l yX6_addHall cX6_addHall 5 (some .int) (zrm 4) D (zTy cy) (zW cy ad shM E X) [.ref (ad 0), .int v1, .int v2, .int v3] res.1 (zW cy ad shM E res.2) := by
  refine zMi.of (by decide) (Nat.le_of_ble_eq_true rfl) ?_
  intro p e s m below meth c A C hr
  unfold f_X6_addHall at h
  refine zG_L (L' := [(0, .ref (ad 0)), (1, .int v1), (2, .int v2), (3, .int v3)]) rfl ?_
  refine g_iload_n (j := 1) C dX6_addHall_0 rfl rfl ?_
  refine g_iconst (v := (nI 1)) C dX6_addHall_1 (by decide) ?_
  refine g_sipush (v := (nI 400)) C dX6_addHall_2 (by decide) ?_
  refine g_si (ws' := (zW cy ad shM E X)) (As := [.int v1, .int (nI 1), .int (nI 400)]) (rest := []) (res := (f_X6_in v1 (nI 1) (nI 400))) C (c_X6_in l D cy (zW cy ad shM E X) v1 (nI 1) (nI 400)) zml_RX6_64 zcs_X6_in rfl rfl ⟨Nat.le_of_ble_eq_true rfl, Nat.le_of_ble_eq_true rfl⟩ rfl rfl (Nat.le_of_ble_eq_true rfl) ⟨Nat.zero_le _, Nat.zero_le _⟩ dX6_addHall_5 ?_
  refine g_if_eq C dX6_addHall_8 (tgt := 30) (by decide) (fun hc_1 => ?_) (fun hc_1 => ?_)
  · replace h := (if_pos hc_1).symm.trans h
    refine g_aload_n (j := 0) C dX6_addHall_30 rfl rfl ?_
    refine g_iconst (v := (nI 1)) C dX6_addHall_31 (by decide) ?_
    obtain ⟨q_2, e_3, h⟩ := zlet_ex h
    refine g_vi (ws' := (zW cy ad shM E q_2.2)) (As := [.int (nI 1)]) (rest := []) (res := q_2.1) C ((by rw [e_3]; exact c_X6_fails l D cy ad E X (nI 1))) zml_RX6_45 zcv_X6_fails (zW_get X sM_0) rfl rfl rfl ⟨Nat.le_of_ble_eq_true rfl, Nat.le_of_ble_eq_true rfl⟩ rfl rfl (Nat.le_of_ble_eq_true rfl) ⟨Nat.zero_le _, Nat.zero_le _⟩ dX6_addHall_32 ?_
    obtain rfl := Option.some.inj h
    exact g_iret rfl C hr rfl dX6_addHall_35
  · replace h := (if_neg hc_1).symm.trans h
    refine g_iload_n (j := 2) C dX6_addHall_11 rfl rfl ?_
    refine g_iconst (v := (nI 0)) C dX6_addHall_12 (by decide) ?_
    refine g_bipush (v := (nI 40)) C dX6_addHall_13 (by decide) ?_
    refine g_si (ws' := (zW cy ad shM E X)) (As := [.int v2, .int (nI 0), .int (nI 40)]) (rest := []) (res := (f_X6_in v2 (nI 0) (nI 40))) C (c_X6_in l D cy (zW cy ad shM E X) v2 (nI 0) (nI 40)) zml_RX6_64 zcs_X6_in rfl rfl ⟨Nat.le_of_ble_eq_true rfl, Nat.le_of_ble_eq_true rfl⟩ rfl rfl (Nat.le_of_ble_eq_true rfl) ⟨Nat.zero_le _, Nat.zero_le _⟩ dX6_addHall_15 ?_
    refine g_if_eq C dX6_addHall_18 (tgt := 30) (by decide) (fun hc_4 => ?_) (fun hc_4 => ?_)
    · replace h := (if_pos hc_4).symm.trans h
      refine g_aload_n (j := 0) C dX6_addHall_30 rfl rfl ?_
      refine g_iconst (v := (nI 1)) C dX6_addHall_31 (by decide) ?_
      obtain ⟨q_5, e_6, h⟩ := zlet_ex h
      refine g_vi (ws' := (zW cy ad shM E q_5.2)) (As := [.int (nI 1)]) (rest := []) (res := q_5.1) C ((by rw [e_6]; exact c_X6_fails l D cy ad E X (nI 1))) zml_RX6_45 zcv_X6_fails (zW_get X sM_0) rfl rfl rfl ⟨Nat.le_of_ble_eq_true rfl, Nat.le_of_ble_eq_true rfl⟩ rfl rfl (Nat.le_of_ble_eq_true rfl) ⟨Nat.zero_le _, Nat.zero_le _⟩ dX6_addHall_32 ?_
      obtain rfl := Option.some.inj h
      exact g_iret rfl C hr rfl dX6_addHall_35
    · replace h := (if_neg hc_4).symm.trans h
      refine g_iload_n (j := 3) C dX6_addHall_21 rfl rfl ?_
      refine g_iconst (v := (nI 0)) C dX6_addHall_22 (by decide) ?_
      refine g_iconst (v := (nI 2)) C dX6_addHall_23 (by decide) ?_
      refine g_si (ws' := (zW cy ad shM E X)) (As := [.int v3, .int (nI 0), .int (nI 2)]) (rest := []) (res := (f_X6_in v3 (nI 0) (nI 2))) C (c_X6_in l D cy (zW cy ad shM E X) v3 (nI 0) (nI 2)) zml_RX6_64 zcs_X6_in rfl rfl ⟨Nat.le_of_ble_eq_true rfl, Nat.le_of_ble_eq_true rfl⟩ rfl rfl (Nat.le_of_ble_eq_true rfl) ⟨Nat.zero_le _, Nat.zero_le _⟩ dX6_addHall_24 ?_
      refine g_if_ne C dX6_addHall_27 (tgt := 36) (by decide) (fun hc_7 => ?_) (fun hc_7 => ?_)
      · replace h := (if_neg hc_7).symm.trans h
        refine g_aload_n (j := 0) C dX6_addHall_36 rfl rfl ?_
        refine g_getr (k := 1) (N := 27) C sM_0 rfl zin_RX6 (by decide) rfl zfl_RX6_9 rfl dX6_addHall_37 ?_
        refine g_iconst (v := (nI 1)) C dX6_addHall_40 (by decide) ?_
        refine g_iald C sM_1 (by decide) dX6_addHall_41 ?_
        refine g_bipush (v := (nI 6)) C dX6_addHall_42 (by decide) ?_
        refine g_icmp_ne C dX6_addHall_44 (tgt := 53) (by decide) (fun hc_8 => ?_) (fun hc_8 => ?_)
        · replace h := (if_neg hc_8).symm.trans h
          refine g_aload_n (j := 0) C dX6_addHall_53 rfl rfl ?_
          obtain ⟨q_9, hq_10, h⟩ := bind_isome h
          refine g_vv (ws' := (zW cy ad shM E q_9)) (As := []) (rest := []) C (c_X6_remembers l D cy ad E X hq_10) zml_RX6_68 zcv_X6_remembers (zW_get X sM_0) rfl rfl rfl ⟨Nat.le_of_ble_eq_true rfl, Nat.le_of_ble_eq_true rfl⟩ rfl rfl (Nat.le_of_ble_eq_true rfl) ⟨Nat.zero_le _, Nat.zero_le _⟩ dX6_addHall_54 ?_
          refine g_bipush (v := (nI 30)) C dX6_addHall_57 (by decide) ?_
          refine g_iconst (v := (nI 4)) C dX6_addHall_59 (by decide) ?_
          refine g_aload_n (j := 0) C dX6_addHall_60 rfl rfl ?_
          refine g_getr (k := 1) (N := 27) C sM_0 rfl zin_RX6 (by decide) rfl zfl_RX6_9 rfl dX6_addHall_61 ?_
          refine g_iconst (v := (nI 1)) C dX6_addHall_64 (by decide) ?_
          refine g_iald C sM_1 (by decide) dX6_addHall_65 ?_
          refine g_imul C dX6_addHall_66 ?_
          refine g_iadd C dX6_addHall_67 ?_
          refine g_istore (L' := [(4, .int ((nI 30) + ((nI 4) * (q_9 1 (nI 1).toNatClampNeg)))), (0, .ref (ad 0)), (1, .int v1), (2, .int v2), (3, .int v3)]) C dX6_addHall_68 (by decide) rfl ?_
          refine g_aload_n (j := 1) C dX6_addHall_70 rfl rfl ?_
          refine g_getr (k := 1) (N := 27) C sM_0 rfl zin_RX6 (by decide) rfl zfl_RX6_9 rfl dX6_addHall_71 ?_
          refine g_iload (j := 0) C dX6_addHall_74 rfl ?_
          refine g_iload_n (j := 2) C dX6_addHall_76 rfl rfl ?_
          obtain ⟨hi_11, h⟩ := ite_inone h
          refine g_iast C sM_1 hi_11 dX6_addHall_77 ?_
          obtain ⟨X_12, e_13, h⟩ := zlet_ex h
          rw [← e_13]
          refine g_aload_n (j := 1) C dX6_addHall_78 rfl rfl ?_
          refine g_getr (k := 1) (N := 27) C sM_0 rfl zin_RX6 (by decide) rfl zfl_RX6_9 rfl dX6_addHall_79 ?_
          refine g_iload (j := 0) C dX6_addHall_82 rfl ?_
          refine g_iconst (v := (nI 1)) C dX6_addHall_84 (by decide) ?_
          refine g_iadd C dX6_addHall_85 ?_
          refine g_iload_n (j := 3) C dX6_addHall_86 rfl rfl ?_
          obtain ⟨hi_14, h⟩ := ite_inone h
          refine g_iast C sM_1 hi_14 dX6_addHall_87 ?_
          obtain ⟨X_15, e_16, h⟩ := zlet_ex h
          rw [← e_16]
          refine g_aload_n (j := 1) C dX6_addHall_88 rfl rfl ?_
          refine g_getr (k := 1) (N := 27) C sM_0 rfl zin_RX6 (by decide) rfl zfl_RX6_9 rfl dX6_addHall_89 ?_
          refine g_iload (j := 0) C dX6_addHall_92 rfl ?_
          refine g_iconst (v := (nI 2)) C dX6_addHall_94 (by decide) ?_
          refine g_iadd C dX6_addHall_95 ?_
          refine g_iload_n (j := 4) C dX6_addHall_96 rfl rfl ?_
          obtain ⟨hi_17, h⟩ := ite_inone h
          refine g_iast C sM_1 hi_17 dX6_addHall_97 ?_
          obtain ⟨X_18, e_19, h⟩ := zlet_ex h
          rw [← e_19]
          refine g_aload_n (j := 1) C dX6_addHall_98 rfl rfl ?_
          refine g_getr (k := 1) (N := 27) C sM_0 rfl zin_RX6 (by decide) rfl zfl_RX6_9 rfl dX6_addHall_99 ?_
          refine g_iload (j := 0) C dX6_addHall_102 rfl ?_
          refine g_iconst (v := (nI 3)) C dX6_addHall_104 (by decide) ?_
          refine g_iadd C dX6_addHall_105 ?_
          refine g_iconst (v := (-1 : Int32)) C dX6_addHall_106 (by decide) ?_
          obtain ⟨hi_20, h⟩ := ite_inone h
          refine g_iast C sM_1 hi_20 dX6_addHall_107 ?_
          obtain ⟨X_21, e_22, h⟩ := zlet_ex h
          rw [← e_22]
          refine g_aload_n (j := 1) C dX6_addHall_108 rfl rfl ?_
          refine g_getr (k := 1) (N := 27) C sM_0 rfl zin_RX6 (by decide) rfl zfl_RX6_9 rfl dX6_addHall_109 ?_
          refine g_iconst (v := (nI 1)) C dX6_addHall_112 (by decide) ?_
          refine g_dup2 C dX6_addHall_113 rfl rfl ?_
          refine g_iald C sM_1 (by decide) dX6_addHall_114 ?_
          refine g_iconst (v := (nI 1)) C dX6_addHall_115 (by decide) ?_
          refine g_iadd C dX6_addHall_116 ?_
          refine g_iast C sM_1 (by decide) dX6_addHall_117 ?_
          obtain ⟨X_23, e_24, h⟩ := zlet_ex h
          rw [← e_24]
          refine g_aload_n (j := 1) C dX6_addHall_118 rfl rfl ?_
          refine g_aload_n (j := 1) C dX6_addHall_119 rfl rfl ?_
          refine g_getr (k := 1) (N := 27) C sM_0 rfl zin_RX6 (by decide) rfl zfl_RX6_9 rfl dX6_addHall_120 ?_
          refine g_iconst (v := (nI 1)) C dX6_addHall_123 (by decide) ?_
          refine g_iald C sM_1 (by decide) dX6_addHall_124 ?_
          refine g_iconst (v := (nI 1)) C dX6_addHall_125 (by decide) ?_
          refine g_isub C dX6_addHall_126 ?_
          obtain ⟨q_25, e_26, h⟩ := zlet_ex h
          refine g_vi (ws' := (zW cy ad shM E q_25.2)) (As := [.int ((X_23 1 (nI 1).toNatClampNeg) - (nI 1))]) (rest := []) (res := q_25.1) C ((by rw [e_26]; exact c_X6_done l D cy ad E X_23 ((X_23 1 (nI 1).toNatClampNeg) - (nI 1)))) zml_RX6_71 zcv_X6_done (zW_get X_23 sM_0) rfl rfl rfl ⟨Nat.le_of_ble_eq_true rfl, Nat.le_of_ble_eq_true rfl⟩ rfl rfl (Nat.le_of_ble_eq_true rfl) ⟨Nat.zero_le _, Nat.zero_le _⟩ dX6_addHall_127 ?_
          obtain rfl := Option.some.inj h
          exact g_iret rfl C hr rfl dX6_addHall_130
        · replace h := (if_pos hc_8).symm.trans h
          refine g_aload_n (j := 0) C dX6_addHall_47 rfl rfl ?_
          refine g_iconst (v := (nI 2)) C dX6_addHall_48 (by decide) ?_
          obtain ⟨q_27, e_28, h⟩ := zlet_ex h
          refine g_vi (ws' := (zW cy ad shM E q_27.2)) (As := [.int (nI 2)]) (rest := []) (res := q_27.1) C ((by rw [e_28]; exact c_X6_fails l D cy ad E X (nI 2))) zml_RX6_45 zcv_X6_fails (zW_get X sM_0) rfl rfl rfl ⟨Nat.le_of_ble_eq_true rfl, Nat.le_of_ble_eq_true rfl⟩ rfl rfl (Nat.le_of_ble_eq_true rfl) ⟨Nat.zero_le _, Nat.zero_le _⟩ dX6_addHall_49 ?_
          obtain rfl := Option.some.inj h
          exact g_iret rfl C hr rfl dX6_addHall_52
      · replace h := (if_pos hc_7).symm.trans h
        refine g_aload_n (j := 0) C dX6_addHall_30 rfl rfl ?_
        refine g_iconst (v := (nI 1)) C dX6_addHall_31 (by decide) ?_
        obtain ⟨q_29, e_30, h⟩ := zlet_ex h
        refine g_vi (ws' := (zW cy ad shM E q_29.2)) (As := [.int (nI 1)]) (rest := []) (res := q_29.1) C ((by rw [e_30]; exact c_X6_fails l D cy ad E X (nI 1))) zml_RX6_45 zcv_X6_fails (zW_get X sM_0) rfl rfl rfl ⟨Nat.le_of_ble_eq_true rfl, Nat.le_of_ble_eq_true rfl⟩ rfl rfl (Nat.le_of_ble_eq_true rfl) ⟨Nat.zero_le _, Nat.zero_le _⟩ dX6_addHall_32 ?_
        obtain rfl := Option.some.inj h
        exact g_iret rfl C hr rfl dX6_addHall_35
def f_X6_addFilm (X : Nat → Nat → Int32) (v1 v2 v3 v4 v5 : Int32) : Option (Int32 × (Nat → Nat → Int32)) := (if (f_X6_in v1 (nI 30) (nI 240)) = 0 then (zlet (f_X6_fails X (nI 1)) fun q_2 => some (q_2.1, q_2.2)) else (if (f_X6_in v2 (nI 0) (nI 3)) = 0 then (zlet (f_X6_fails X (nI 1)) fun q_5 => some (q_5.1, q_5.2)) else (if (f_X6_in v3 (nI 1) (nI 63)) = 0 then (zlet (f_X6_fails X (nI 1)) fun q_8 => some (q_8.1, q_8.2)) else (if (f_X6_in v4 (nI 1) (nI 3)) = 0 then (zlet (f_X6_fails X (nI 1)) fun q_11 => some (q_11.1, q_11.2)) else (if (f_X6_isDay v5) = 0 then (zlet (f_X6_fails X (nI 1)) fun q_47 => some (q_47.1, q_47.2)) else (if (X 1 (nI 2).toNatClampNeg) = (nI 8) then (zlet (f_X6_fails X (nI 2)) fun q_45 => some (q_45.1, q_45.2)) else ((f_X6_remembers X).bind fun q_15 => (if ((nI 54) + ((nI 8) * (q_15 1 (nI 2).toNatClampNeg))) < 0 ∨ 580 ≤ ((nI 54) + ((nI 8) * (q_15 1 (nI 2).toNatClampNeg))).toNatClampNeg then none else (zlet (zU q_15 1 ((nI 54) + ((nI 8) * (q_15 1 (nI 2).toNatClampNeg))).toNatClampNeg v1) fun X_18 => (if (((nI 54) + ((nI 8) * (q_15 1 (nI 2).toNatClampNeg))) + (nI 1)) < 0 ∨ 580 ≤ (((nI 54) + ((nI 8) * (q_15 1 (nI 2).toNatClampNeg))) + (nI 1)).toNatClampNeg then none else (zlet (zU X_18 1 (((nI 54) + ((nI 8) * (q_15 1 (nI 2).toNatClampNeg))) + (nI 1)).toNatClampNeg v2) fun X_21 => (if (((nI 54) + ((nI 8) * (q_15 1 (nI 2).toNatClampNeg))) + (nI 2)) < 0 ∨ 580 ≤ (((nI 54) + ((nI 8) * (q_15 1 (nI 2).toNatClampNeg))) + (nI 2)).toNatClampNeg then none else (zlet (zU X_21 1 (((nI 54) + ((nI 8) * (q_15 1 (nI 2).toNatClampNeg))) + (nI 2)).toNatClampNeg v3) fun X_24 => (if (((nI 54) + ((nI 8) * (q_15 1 (nI 2).toNatClampNeg))) + (nI 3)) < 0 ∨ 580 ≤ (((nI 54) + ((nI 8) * (q_15 1 (nI 2).toNatClampNeg))) + (nI 3)).toNatClampNeg then none else (zlet (zU X_24 1 (((nI 54) + ((nI 8) * (q_15 1 (nI 2).toNatClampNeg))) + (nI 3)).toNatClampNeg v4) fun X_27 => (if (((nI 54) + ((nI 8) * (q_15 1 (nI 2).toNatClampNeg))) + (nI 4)) < 0 ∨ 580 ≤ (((nI 54) + ((nI 8) * (q_15 1 (nI 2).toNatClampNeg))) + (nI 4)).toNatClampNeg then none else (zlet (zU X_27 1 (((nI 54) + ((nI 8) * (q_15 1 (nI 2).toNatClampNeg))) + (nI 4)).toNatClampNeg v5) fun X_30 => (if (((nI 54) + ((nI 8) * (q_15 1 (nI 2).toNatClampNeg))) + (nI 5)) < 0 ∨ 580 ≤ (((nI 54) + ((nI 8) * (q_15 1 (nI 2).toNatClampNeg))) + (nI 5)).toNatClampNeg then none else (zlet (zU X_30 1 (((nI 54) + ((nI 8) * (q_15 1 (nI 2).toNatClampNeg))) + (nI 5)).toNatClampNeg (nI 60)) fun X_33 => (if (((nI 54) + ((nI 8) * (q_15 1 (nI 2).toNatClampNeg))) + (nI 6)) < 0 ∨ 580 ≤ (((nI 54) + ((nI 8) * (q_15 1 (nI 2).toNatClampNeg))) + (nI 6)).toNatClampNeg then none else (zlet (zU X_33 1 (((nI 54) + ((nI 8) * (q_15 1 (nI 2).toNatClampNeg))) + (nI 6)).toNatClampNeg (nI 10)) fun X_36 => (if (((nI 54) + ((nI 8) * (q_15 1 (nI 2).toNatClampNeg))) + (nI 7)) < 0 ∨ 580 ≤ (((nI 54) + ((nI 8) * (q_15 1 (nI 2).toNatClampNeg))) + (nI 7)).toNatClampNeg then none else (zlet (zU X_36 1 (((nI 54) + ((nI 8) * (q_15 1 (nI 2).toNatClampNeg))) + (nI 7)).toNatClampNeg (nI 20)) fun X_39 => (zlet (zU X_39 1 (nI 2).toNatClampNeg ((X_39 1 (nI 2).toNatClampNeg) + (nI 1))) fun X_41 => (zlet (f_X6_done X_41 ((X_41 1 (nI 2).toNatClampNeg) - (nI 1))) fun q_43 => some (q_43.1, q_43.2))))))))))))))))))))))))))
set_option maxRecDepth 100000 in
set_option maxHeartbeats 4000000 in
theorem c_X6_addFilm (l : Launch) (D : va_G) (cy : Nat → ClassId) (ad : Nat → Nat) (E : va_W) (X : Nat → Nat → Int32) (v1 v2 v3 v4 v5 : Int32) {res : Int32 × (Nat → Nat → Int32)} (h : f_X6_addFilm X v1 v2 v3 v4 v5 = some res) : zMi l yX6_addFilm cX6_addFilm 7 (some .int) (zrm 4) D (zTy cy) (zW cy ad shM E X) [.ref (ad 0), .int v1, .int v2, .int v3, .int v4, .int v5] res.1 (zW cy ad shM E res.2) := by
  refine zMi.of (by decide) (Nat.le_of_ble_eq_true rfl) ?_
  intro p e s m below meth c A C hr
  unfold f_X6_addFilm at h
  refine zG_L (L' := [(0, .ref (ad 0)), (1, .int v1), (2, .int v2), (3, .int v3), (4, .int v4), (5, .int v5)]) rfl ?_
  refine g_iload_n (j := 1) C dX6_addFilm_0 rfl rfl ?_
  refine g_bipush (v := (nI 30)) C dX6_addFilm_1 (by decide) ?_
  refine g_sipush (v := (nI 240)) C dX6_addFilm_3 (by decide) ?_
  refine g_si (ws' := (zW cy ad shM E X)) (As := [.int v1, .int (nI 30), .int (nI 240)]) (rest := []) (res := (f_X6_in v1 (nI 30) (nI 240))) C (c_X6_in l D cy (zW cy ad shM E X) v1 (nI 30) (nI 240)) zml_RX6_64 zcs_X6_in rfl rfl ⟨Nat.le_of_ble_eq_true rfl, Nat.le_of_ble_eq_true rfl⟩ rfl rfl (Nat.le_of_ble_eq_true rfl) ⟨Nat.zero_le _, Nat.zero_le _⟩ dX6_addFilm_6 ?_
  refine g_if_eq C dX6_addFilm_9 (tgt := 49) (by decide) (fun hc_1 => ?_) (fun hc_1 => ?_)
  · replace h := (if_pos hc_1).symm.trans h
    refine g_aload_n (j := 0) C dX6_addFilm_49 rfl rfl ?_
    refine g_iconst (v := (nI 1)) C dX6_addFilm_50 (by decide) ?_
    obtain ⟨q_2, e_3, h⟩ := zlet_ex h
    refine g_vi (ws' := (zW cy ad shM E q_2.2)) (As := [.int (nI 1)]) (rest := []) (res := q_2.1) C ((by rw [e_3]; exact c_X6_fails l D cy ad E X (nI 1))) zml_RX6_45 zcv_X6_fails (zW_get X sM_0) rfl rfl rfl ⟨Nat.le_of_ble_eq_true rfl, Nat.le_of_ble_eq_true rfl⟩ rfl rfl (Nat.le_of_ble_eq_true rfl) ⟨Nat.zero_le _, Nat.zero_le _⟩ dX6_addFilm_51 ?_
    obtain rfl := Option.some.inj h
    exact g_iret rfl C hr rfl dX6_addFilm_54
  · replace h := (if_neg hc_1).symm.trans h
    refine g_iload_n (j := 2) C dX6_addFilm_12 rfl rfl ?_
    refine g_iconst (v := (nI 0)) C dX6_addFilm_13 (by decide) ?_
    refine g_iconst (v := (nI 3)) C dX6_addFilm_14 (by decide) ?_
    refine g_si (ws' := (zW cy ad shM E X)) (As := [.int v2, .int (nI 0), .int (nI 3)]) (rest := []) (res := (f_X6_in v2 (nI 0) (nI 3))) C (c_X6_in l D cy (zW cy ad shM E X) v2 (nI 0) (nI 3)) zml_RX6_64 zcs_X6_in rfl rfl ⟨Nat.le_of_ble_eq_true rfl, Nat.le_of_ble_eq_true rfl⟩ rfl rfl (Nat.le_of_ble_eq_true rfl) ⟨Nat.zero_le _, Nat.zero_le _⟩ dX6_addFilm_15 ?_
    refine g_if_eq C dX6_addFilm_18 (tgt := 49) (by decide) (fun hc_4 => ?_) (fun hc_4 => ?_)
    · replace h := (if_pos hc_4).symm.trans h
      refine g_aload_n (j := 0) C dX6_addFilm_49 rfl rfl ?_
      refine g_iconst (v := (nI 1)) C dX6_addFilm_50 (by decide) ?_
      obtain ⟨q_5, e_6, h⟩ := zlet_ex h
      refine g_vi (ws' := (zW cy ad shM E q_5.2)) (As := [.int (nI 1)]) (rest := []) (res := q_5.1) C ((by rw [e_6]; exact c_X6_fails l D cy ad E X (nI 1))) zml_RX6_45 zcv_X6_fails (zW_get X sM_0) rfl rfl rfl ⟨Nat.le_of_ble_eq_true rfl, Nat.le_of_ble_eq_true rfl⟩ rfl rfl (Nat.le_of_ble_eq_true rfl) ⟨Nat.zero_le _, Nat.zero_le _⟩ dX6_addFilm_51 ?_
      obtain rfl := Option.some.inj h
      exact g_iret rfl C hr rfl dX6_addFilm_54
    · replace h := (if_neg hc_4).symm.trans h
      refine g_iload_n (j := 3) C dX6_addFilm_21 rfl rfl ?_
      refine g_iconst (v := (nI 1)) C dX6_addFilm_22 (by decide) ?_
      refine g_bipush (v := (nI 63)) C dX6_addFilm_23 (by decide) ?_
      refine g_si (ws' := (zW cy ad shM E X)) (As := [.int v3, .int (nI 1), .int (nI 63)]) (rest := []) (res := (f_X6_in v3 (nI 1) (nI 63))) C (c_X6_in l D cy (zW cy ad shM E X) v3 (nI 1) (nI 63)) zml_RX6_64 zcs_X6_in rfl rfl ⟨Nat.le_of_ble_eq_true rfl, Nat.le_of_ble_eq_true rfl⟩ rfl rfl (Nat.le_of_ble_eq_true rfl) ⟨Nat.zero_le _, Nat.zero_le _⟩ dX6_addFilm_25 ?_
      refine g_if_eq C dX6_addFilm_28 (tgt := 49) (by decide) (fun hc_7 => ?_) (fun hc_7 => ?_)
      · replace h := (if_pos hc_7).symm.trans h
        refine g_aload_n (j := 0) C dX6_addFilm_49 rfl rfl ?_
        refine g_iconst (v := (nI 1)) C dX6_addFilm_50 (by decide) ?_
        obtain ⟨q_8, e_9, h⟩ := zlet_ex h
        refine g_vi (ws' := (zW cy ad shM E q_8.2)) (As := [.int (nI 1)]) (rest := []) (res := q_8.1) C ((by rw [e_9]; exact c_X6_fails l D cy ad E X (nI 1))) zml_RX6_45 zcv_X6_fails (zW_get X sM_0) rfl rfl rfl ⟨Nat.le_of_ble_eq_true rfl, Nat.le_of_ble_eq_true rfl⟩ rfl rfl (Nat.le_of_ble_eq_true rfl) ⟨Nat.zero_le _, Nat.zero_le _⟩ dX6_addFilm_51 ?_
        obtain rfl := Option.some.inj h
        exact g_iret rfl C hr rfl dX6_addFilm_54
      · replace h := (if_neg hc_7).symm.trans h
        refine g_iload (j := 4) C dX6_addFilm_31 rfl ?_
        refine g_iconst (v := (nI 1)) C dX6_addFilm_33 (by decide) ?_
        refine g_iconst (v := (nI 3)) C dX6_addFilm_34 (by decide) ?_
        refine g_si (ws' := (zW cy ad shM E X)) (As := [.int v4, .int (nI 1), .int (nI 3)]) (rest := []) (res := (f_X6_in v4 (nI 1) (nI 3))) C (c_X6_in l D cy (zW cy ad shM E X) v4 (nI 1) (nI 3)) zml_RX6_64 zcs_X6_in rfl rfl ⟨Nat.le_of_ble_eq_true rfl, Nat.le_of_ble_eq_true rfl⟩ rfl rfl (Nat.le_of_ble_eq_true rfl) ⟨Nat.zero_le _, Nat.zero_le _⟩ dX6_addFilm_35 ?_
        refine g_if_eq C dX6_addFilm_38 (tgt := 49) (by decide) (fun hc_10 => ?_) (fun hc_10 => ?_)
        · replace h := (if_pos hc_10).symm.trans h
          refine g_aload_n (j := 0) C dX6_addFilm_49 rfl rfl ?_
          refine g_iconst (v := (nI 1)) C dX6_addFilm_50 (by decide) ?_
          obtain ⟨q_11, e_12, h⟩ := zlet_ex h
          refine g_vi (ws' := (zW cy ad shM E q_11.2)) (As := [.int (nI 1)]) (rest := []) (res := q_11.1) C ((by rw [e_12]; exact c_X6_fails l D cy ad E X (nI 1))) zml_RX6_45 zcv_X6_fails (zW_get X sM_0) rfl rfl rfl ⟨Nat.le_of_ble_eq_true rfl, Nat.le_of_ble_eq_true rfl⟩ rfl rfl (Nat.le_of_ble_eq_true rfl) ⟨Nat.zero_le _, Nat.zero_le _⟩ dX6_addFilm_51 ?_
          obtain rfl := Option.some.inj h
          exact g_iret rfl C hr rfl dX6_addFilm_54
        · replace h := (if_neg hc_10).symm.trans h
          refine g_iload (j := 5) C dX6_addFilm_41 rfl ?_
          refine g_si (ws' := (zW cy ad shM E X)) (As := [.int v5]) (rest := []) (res := (f_X6_isDay v5)) C (c_X6_isDay l D cy (zW cy ad shM E X) v5) zml_RX6_74 zcs_X6_isDay rfl rfl ⟨Nat.le_of_ble_eq_true rfl, Nat.le_of_ble_eq_true rfl⟩ rfl rfl (Nat.le_of_ble_eq_true rfl) ⟨Nat.zero_le _, Nat.zero_le _⟩ dX6_addFilm_43 ?_
          refine g_if_ne C dX6_addFilm_46 (tgt := 55) (by decide) (fun hc_13 => ?_) (fun hc_13 => ?_)
          · replace h := (if_neg hc_13).symm.trans h
            refine g_aload_n (j := 0) C dX6_addFilm_55 rfl rfl ?_
            refine g_getr (k := 1) (N := 27) C sM_0 rfl zin_RX6 (by decide) rfl zfl_RX6_9 rfl dX6_addFilm_56 ?_
            refine g_iconst (v := (nI 2)) C dX6_addFilm_59 (by decide) ?_
            refine g_iald C sM_1 (by decide) dX6_addFilm_60 ?_
            refine g_bipush (v := (nI 8)) C dX6_addFilm_61 (by decide) ?_
            refine g_icmp_ne C dX6_addFilm_63 (tgt := 72) (by decide) (fun hc_14 => ?_) (fun hc_14 => ?_)
            · replace h := (if_neg hc_14).symm.trans h
              refine g_aload_n (j := 0) C dX6_addFilm_72 rfl rfl ?_
              obtain ⟨q_15, hq_16, h⟩ := bind_isome h
              refine g_vv (ws' := (zW cy ad shM E q_15)) (As := []) (rest := []) C (c_X6_remembers l D cy ad E X hq_16) zml_RX6_68 zcv_X6_remembers (zW_get X sM_0) rfl rfl rfl ⟨Nat.le_of_ble_eq_true rfl, Nat.le_of_ble_eq_true rfl⟩ rfl rfl (Nat.le_of_ble_eq_true rfl) ⟨Nat.zero_le _, Nat.zero_le _⟩ dX6_addFilm_73 ?_
              refine g_bipush (v := (nI 54)) C dX6_addFilm_76 (by decide) ?_
              refine g_bipush (v := (nI 8)) C dX6_addFilm_78 (by decide) ?_
              refine g_aload_n (j := 0) C dX6_addFilm_80 rfl rfl ?_
              refine g_getr (k := 1) (N := 27) C sM_0 rfl zin_RX6 (by decide) rfl zfl_RX6_9 rfl dX6_addFilm_81 ?_
              refine g_iconst (v := (nI 2)) C dX6_addFilm_84 (by decide) ?_
              refine g_iald C sM_1 (by decide) dX6_addFilm_85 ?_
              refine g_imul C dX6_addFilm_86 ?_
              refine g_iadd C dX6_addFilm_87 ?_
              refine g_istore (L' := [(6, .int ((nI 54) + ((nI 8) * (q_15 1 (nI 2).toNatClampNeg)))), (0, .ref (ad 0)), (1, .int v1), (2, .int v2), (3, .int v3), (4, .int v4), (5, .int v5)]) C dX6_addFilm_88 (by decide) rfl ?_
              refine g_aload_n (j := 1) C dX6_addFilm_90 rfl rfl ?_
              refine g_getr (k := 1) (N := 27) C sM_0 rfl zin_RX6 (by decide) rfl zfl_RX6_9 rfl dX6_addFilm_91 ?_
              refine g_iload (j := 0) C dX6_addFilm_94 rfl ?_
              refine g_iload_n (j := 2) C dX6_addFilm_96 rfl rfl ?_
              obtain ⟨hi_17, h⟩ := ite_inone h
              refine g_iast C sM_1 hi_17 dX6_addFilm_97 ?_
              obtain ⟨X_18, e_19, h⟩ := zlet_ex h
              rw [← e_19]
              refine g_aload_n (j := 1) C dX6_addFilm_98 rfl rfl ?_
              refine g_getr (k := 1) (N := 27) C sM_0 rfl zin_RX6 (by decide) rfl zfl_RX6_9 rfl dX6_addFilm_99 ?_
              refine g_iload (j := 0) C dX6_addFilm_102 rfl ?_
              refine g_iconst (v := (nI 1)) C dX6_addFilm_104 (by decide) ?_
              refine g_iadd C dX6_addFilm_105 ?_
              refine g_iload_n (j := 3) C dX6_addFilm_106 rfl rfl ?_
              obtain ⟨hi_20, h⟩ := ite_inone h
              refine g_iast C sM_1 hi_20 dX6_addFilm_107 ?_
              obtain ⟨X_21, e_22, h⟩ := zlet_ex h
              rw [← e_22]
              refine g_aload_n (j := 1) C dX6_addFilm_108 rfl rfl ?_
              refine g_getr (k := 1) (N := 27) C sM_0 rfl zin_RX6 (by decide) rfl zfl_RX6_9 rfl dX6_addFilm_109 ?_
              refine g_iload (j := 0) C dX6_addFilm_112 rfl ?_
              refine g_iconst (v := (nI 2)) C dX6_addFilm_114 (by decide) ?_
              refine g_iadd C dX6_addFilm_115 ?_
              refine g_iload_n (j := 4) C dX6_addFilm_116 rfl rfl ?_
              obtain ⟨hi_23, h⟩ := ite_inone h
              refine g_iast C sM_1 hi_23 dX6_addFilm_117 ?_
              obtain ⟨X_24, e_25, h⟩ := zlet_ex h
              rw [← e_25]
              refine g_aload_n (j := 1) C dX6_addFilm_118 rfl rfl ?_
              refine g_getr (k := 1) (N := 27) C sM_0 rfl zin_RX6 (by decide) rfl zfl_RX6_9 rfl dX6_addFilm_119 ?_
              refine g_iload (j := 0) C dX6_addFilm_122 rfl ?_
              refine g_iconst (v := (nI 3)) C dX6_addFilm_124 (by decide) ?_
              refine g_iadd C dX6_addFilm_125 ?_
              refine g_iload (j := 5) C dX6_addFilm_126 rfl ?_
              obtain ⟨hi_26, h⟩ := ite_inone h
              refine g_iast C sM_1 hi_26 dX6_addFilm_128 ?_
              obtain ⟨X_27, e_28, h⟩ := zlet_ex h
              rw [← e_28]
              refine g_aload_n (j := 1) C dX6_addFilm_129 rfl rfl ?_
              refine g_getr (k := 1) (N := 27) C sM_0 rfl zin_RX6 (by decide) rfl zfl_RX6_9 rfl dX6_addFilm_130 ?_
              refine g_iload (j := 0) C dX6_addFilm_133 rfl ?_
              refine g_iconst (v := (nI 4)) C dX6_addFilm_135 (by decide) ?_
              refine g_iadd C dX6_addFilm_136 ?_
              refine g_iload (j := 6) C dX6_addFilm_137 rfl ?_
              obtain ⟨hi_29, h⟩ := ite_inone h
              refine g_iast C sM_1 hi_29 dX6_addFilm_139 ?_
              obtain ⟨X_30, e_31, h⟩ := zlet_ex h
              rw [← e_31]
              refine g_aload_n (j := 1) C dX6_addFilm_140 rfl rfl ?_
              refine g_getr (k := 1) (N := 27) C sM_0 rfl zin_RX6 (by decide) rfl zfl_RX6_9 rfl dX6_addFilm_141 ?_
              refine g_iload (j := 0) C dX6_addFilm_144 rfl ?_
              refine g_iconst (v := (nI 5)) C dX6_addFilm_146 (by decide) ?_
              refine g_iadd C dX6_addFilm_147 ?_
              refine g_bipush (v := (nI 60)) C dX6_addFilm_148 (by decide) ?_
              obtain ⟨hi_32, h⟩ := ite_inone h
              refine g_iast C sM_1 hi_32 dX6_addFilm_150 ?_
              obtain ⟨X_33, e_34, h⟩ := zlet_ex h
              rw [← e_34]
              refine g_aload_n (j := 1) C dX6_addFilm_151 rfl rfl ?_
              refine g_getr (k := 1) (N := 27) C sM_0 rfl zin_RX6 (by decide) rfl zfl_RX6_9 rfl dX6_addFilm_152 ?_
              refine g_iload (j := 0) C dX6_addFilm_155 rfl ?_
              refine g_bipush (v := (nI 6)) C dX6_addFilm_157 (by decide) ?_
              refine g_iadd C dX6_addFilm_159 ?_
              refine g_bipush (v := (nI 10)) C dX6_addFilm_160 (by decide) ?_
              obtain ⟨hi_35, h⟩ := ite_inone h
              refine g_iast C sM_1 hi_35 dX6_addFilm_162 ?_
              obtain ⟨X_36, e_37, h⟩ := zlet_ex h
              rw [← e_37]
              refine g_aload_n (j := 1) C dX6_addFilm_163 rfl rfl ?_
              refine g_getr (k := 1) (N := 27) C sM_0 rfl zin_RX6 (by decide) rfl zfl_RX6_9 rfl dX6_addFilm_164 ?_
              refine g_iload (j := 0) C dX6_addFilm_167 rfl ?_
              refine g_bipush (v := (nI 7)) C dX6_addFilm_169 (by decide) ?_
              refine g_iadd C dX6_addFilm_171 ?_
              refine g_bipush (v := (nI 20)) C dX6_addFilm_172 (by decide) ?_
              obtain ⟨hi_38, h⟩ := ite_inone h
              refine g_iast C sM_1 hi_38 dX6_addFilm_174 ?_
              obtain ⟨X_39, e_40, h⟩ := zlet_ex h
              rw [← e_40]
              refine g_aload_n (j := 1) C dX6_addFilm_175 rfl rfl ?_
              refine g_getr (k := 1) (N := 27) C sM_0 rfl zin_RX6 (by decide) rfl zfl_RX6_9 rfl dX6_addFilm_176 ?_
              refine g_iconst (v := (nI 2)) C dX6_addFilm_179 (by decide) ?_
              refine g_dup2 C dX6_addFilm_180 rfl rfl ?_
              refine g_iald C sM_1 (by decide) dX6_addFilm_181 ?_
              refine g_iconst (v := (nI 1)) C dX6_addFilm_182 (by decide) ?_
              refine g_iadd C dX6_addFilm_183 ?_
              refine g_iast C sM_1 (by decide) dX6_addFilm_184 ?_
              obtain ⟨X_41, e_42, h⟩ := zlet_ex h
              rw [← e_42]
              refine g_aload_n (j := 1) C dX6_addFilm_185 rfl rfl ?_
              refine g_aload_n (j := 1) C dX6_addFilm_186 rfl rfl ?_
              refine g_getr (k := 1) (N := 27) C sM_0 rfl zin_RX6 (by decide) rfl zfl_RX6_9 rfl dX6_addFilm_187 ?_
              refine g_iconst (v := (nI 2)) C dX6_addFilm_190 (by decide) ?_
              refine g_iald C sM_1 (by decide) dX6_addFilm_191 ?_
              refine g_iconst (v := (nI 1)) C dX6_addFilm_192 (by decide) ?_
              refine g_isub C dX6_addFilm_193 ?_
              obtain ⟨q_43, e_44, h⟩ := zlet_ex h
              refine g_vi (ws' := (zW cy ad shM E q_43.2)) (As := [.int ((X_41 1 (nI 2).toNatClampNeg) - (nI 1))]) (rest := []) (res := q_43.1) C ((by rw [e_44]; exact c_X6_done l D cy ad E X_41 ((X_41 1 (nI 2).toNatClampNeg) - (nI 1)))) zml_RX6_71 zcv_X6_done (zW_get X_41 sM_0) rfl rfl rfl ⟨Nat.le_of_ble_eq_true rfl, Nat.le_of_ble_eq_true rfl⟩ rfl rfl (Nat.le_of_ble_eq_true rfl) ⟨Nat.zero_le _, Nat.zero_le _⟩ dX6_addFilm_194 ?_
              obtain rfl := Option.some.inj h
              exact g_iret rfl C hr rfl dX6_addFilm_197
            · replace h := (if_pos hc_14).symm.trans h
              refine g_aload_n (j := 0) C dX6_addFilm_66 rfl rfl ?_
              refine g_iconst (v := (nI 2)) C dX6_addFilm_67 (by decide) ?_
              obtain ⟨q_45, e_46, h⟩ := zlet_ex h
              refine g_vi (ws' := (zW cy ad shM E q_45.2)) (As := [.int (nI 2)]) (rest := []) (res := q_45.1) C ((by rw [e_46]; exact c_X6_fails l D cy ad E X (nI 2))) zml_RX6_45 zcv_X6_fails (zW_get X sM_0) rfl rfl rfl ⟨Nat.le_of_ble_eq_true rfl, Nat.le_of_ble_eq_true rfl⟩ rfl rfl (Nat.le_of_ble_eq_true rfl) ⟨Nat.zero_le _, Nat.zero_le _⟩ dX6_addFilm_68 ?_
              obtain rfl := Option.some.inj h
              exact g_iret rfl C hr rfl dX6_addFilm_71
          · replace h := (if_pos hc_13).symm.trans h
            refine g_aload_n (j := 0) C dX6_addFilm_49 rfl rfl ?_
            refine g_iconst (v := (nI 1)) C dX6_addFilm_50 (by decide) ?_
            obtain ⟨q_47, e_48, h⟩ := zlet_ex h
            refine g_vi (ws' := (zW cy ad shM E q_47.2)) (As := [.int (nI 1)]) (rest := []) (res := q_47.1) C ((by rw [e_48]; exact c_X6_fails l D cy ad E X (nI 1))) zml_RX6_45 zcv_X6_fails (zW_get X sM_0) rfl rfl rfl ⟨Nat.le_of_ble_eq_true rfl, Nat.le_of_ble_eq_true rfl⟩ rfl rfl (Nat.le_of_ble_eq_true rfl) ⟨Nat.zero_le _, Nat.zero_le _⟩ dX6_addFilm_51 ?_
            obtain rfl := Option.some.inj h
            exact g_iret rfl C hr rfl dX6_addFilm_54
def f_X6_setShares (X : Nat → Nat → Int32) (v1 v2 v3 v4 : Int32) : Option (Int32 × (Nat → Nat → Int32)) := (if (f_X6_isFilm X v1) = 0 then (zlet (f_X6_fails X (nI 1)) fun q_26 => some (q_26.1, q_26.2)) else (if (f_X6_in v2 (nI 0) (nI 100)) = 0 then (zlet (f_X6_fails X (nI 2)) fun q_3 => some (q_3.1, q_3.2)) else (if (f_X6_in v3 (nI 0) (nI 50)) = 0 then (zlet (f_X6_fails X (nI 2)) fun q_6 => some (q_6.1, q_6.2)) else (if (f_X6_in v4 (nI 0) v2) = 0 then (zlet (f_X6_fails X (nI 2)) fun q_24 => some (q_24.1, q_24.2)) else ((f_X6_remembers X).bind fun q_9 => ((f_X6_filmAt q_9 v1 (nI 5)).bind fun q_11 => (if (((nI 54) + ((nI 8) * v1)) + (nI 5)) < 0 ∨ 580 ≤ (((nI 54) + ((nI 8) * v1)) + (nI 5)).toNatClampNeg then none else (zlet (zU q_9 1 (((nI 54) + ((nI 8) * v1)) + (nI 5)).toNatClampNeg v2) fun X_14 => (if (((nI 54) + ((nI 8) * v1)) + (nI 6)) < 0 ∨ 580 ≤ (((nI 54) + ((nI 8) * v1)) + (nI 6)).toNatClampNeg then none else (zlet (zU X_14 1 (((nI 54) + ((nI 8) * v1)) + (nI 6)).toNatClampNeg v3) fun X_17 => (if (((nI 54) + ((nI 8) * v1)) + (nI 7)) < 0 ∨ 580 ≤ (((nI 54) + ((nI 8) * v1)) + (nI 7)).toNatClampNeg then none else (zlet (zU X_17 1 (((nI 54) + ((nI 8) * v1)) + (nI 7)).toNatClampNeg v4) fun X_20 => (zlet (f_X6_done X_20 q_11) fun q_22 => some (q_22.1, q_22.2))))))))))))))
set_option maxRecDepth 100000 in
set_option maxHeartbeats 4000000 in
theorem c_X6_setShares (l : Launch) (D : va_G) (cy : Nat → ClassId) (ad : Nat → Nat) (E : va_W) (X : Nat → Nat → Int32) (v1 v2 v3 v4 : Int32) {res : Int32 × (Nat → Nat → Int32)} (h : f_X6_setShares X v1 v2 v3 v4 = some res) : zMi l yX6_setShares cX6_setShares 6 (some .int) (zrm 4) D (zTy cy) (zW cy ad shM E X) [.ref (ad 0), .int v1, .int v2, .int v3, .int v4] res.1 (zW cy ad shM E res.2) := by
  refine zMi.of (by decide) (Nat.le_of_ble_eq_true rfl) ?_
  intro p e s m below meth c A C hr
  unfold f_X6_setShares at h
  refine zG_L (L' := [(0, .ref (ad 0)), (1, .int v1), (2, .int v2), (3, .int v3), (4, .int v4)]) rfl ?_
  refine g_aload_n (j := 0) C dX6_setShares_0 rfl rfl ?_
  refine g_iload_n (j := 1) C dX6_setShares_1 rfl rfl ?_
  refine g_vi (ws' := (zW cy ad shM E X)) (As := [.int v1]) (rest := []) (res := (f_X6_isFilm X v1)) C (c_X6_isFilm l D cy ad E X v1) zml_RX6_78 zcv_X6_isFilm (zW_get X sM_0) rfl rfl rfl ⟨Nat.le_of_ble_eq_true rfl, Nat.le_of_ble_eq_true rfl⟩ rfl rfl (Nat.le_of_ble_eq_true rfl) ⟨Nat.zero_le _, Nat.zero_le _⟩ dX6_setShares_2 ?_
  refine g_if_ne C dX6_setShares_5 (tgt := 14) (by decide) (fun hc_1 => ?_) (fun hc_1 => ?_)
  · replace h := (if_neg hc_1).symm.trans h
    refine g_iload_n (j := 2) C dX6_setShares_14 rfl rfl ?_
    refine g_iconst (v := (nI 0)) C dX6_setShares_15 (by decide) ?_
    refine g_bipush (v := (nI 100)) C dX6_setShares_16 (by decide) ?_
    refine g_si (ws' := (zW cy ad shM E X)) (As := [.int v2, .int (nI 0), .int (nI 100)]) (rest := []) (res := (f_X6_in v2 (nI 0) (nI 100))) C (c_X6_in l D cy (zW cy ad shM E X) v2 (nI 0) (nI 100)) zml_RX6_64 zcs_X6_in rfl rfl ⟨Nat.le_of_ble_eq_true rfl, Nat.le_of_ble_eq_true rfl⟩ rfl rfl (Nat.le_of_ble_eq_true rfl) ⟨Nat.zero_le _, Nat.zero_le _⟩ dX6_setShares_18 ?_
    refine g_if_eq C dX6_setShares_21 (tgt := 44) (by decide) (fun hc_2 => ?_) (fun hc_2 => ?_)
    · replace h := (if_pos hc_2).symm.trans h
      refine g_aload_n (j := 0) C dX6_setShares_44 rfl rfl ?_
      refine g_iconst (v := (nI 2)) C dX6_setShares_45 (by decide) ?_
      obtain ⟨q_3, e_4, h⟩ := zlet_ex h
      refine g_vi (ws' := (zW cy ad shM E q_3.2)) (As := [.int (nI 2)]) (rest := []) (res := q_3.1) C ((by rw [e_4]; exact c_X6_fails l D cy ad E X (nI 2))) zml_RX6_45 zcv_X6_fails (zW_get X sM_0) rfl rfl rfl ⟨Nat.le_of_ble_eq_true rfl, Nat.le_of_ble_eq_true rfl⟩ rfl rfl (Nat.le_of_ble_eq_true rfl) ⟨Nat.zero_le _, Nat.zero_le _⟩ dX6_setShares_46 ?_
      obtain rfl := Option.some.inj h
      exact g_iret rfl C hr rfl dX6_setShares_49
    · replace h := (if_neg hc_2).symm.trans h
      refine g_iload_n (j := 3) C dX6_setShares_24 rfl rfl ?_
      refine g_iconst (v := (nI 0)) C dX6_setShares_25 (by decide) ?_
      refine g_bipush (v := (nI 50)) C dX6_setShares_26 (by decide) ?_
      refine g_si (ws' := (zW cy ad shM E X)) (As := [.int v3, .int (nI 0), .int (nI 50)]) (rest := []) (res := (f_X6_in v3 (nI 0) (nI 50))) C (c_X6_in l D cy (zW cy ad shM E X) v3 (nI 0) (nI 50)) zml_RX6_64 zcs_X6_in rfl rfl ⟨Nat.le_of_ble_eq_true rfl, Nat.le_of_ble_eq_true rfl⟩ rfl rfl (Nat.le_of_ble_eq_true rfl) ⟨Nat.zero_le _, Nat.zero_le _⟩ dX6_setShares_28 ?_
      refine g_if_eq C dX6_setShares_31 (tgt := 44) (by decide) (fun hc_5 => ?_) (fun hc_5 => ?_)
      · replace h := (if_pos hc_5).symm.trans h
        refine g_aload_n (j := 0) C dX6_setShares_44 rfl rfl ?_
        refine g_iconst (v := (nI 2)) C dX6_setShares_45 (by decide) ?_
        obtain ⟨q_6, e_7, h⟩ := zlet_ex h
        refine g_vi (ws' := (zW cy ad shM E q_6.2)) (As := [.int (nI 2)]) (rest := []) (res := q_6.1) C ((by rw [e_7]; exact c_X6_fails l D cy ad E X (nI 2))) zml_RX6_45 zcv_X6_fails (zW_get X sM_0) rfl rfl rfl ⟨Nat.le_of_ble_eq_true rfl, Nat.le_of_ble_eq_true rfl⟩ rfl rfl (Nat.le_of_ble_eq_true rfl) ⟨Nat.zero_le _, Nat.zero_le _⟩ dX6_setShares_46 ?_
        obtain rfl := Option.some.inj h
        exact g_iret rfl C hr rfl dX6_setShares_49
      · replace h := (if_neg hc_5).symm.trans h
        refine g_iload (j := 4) C dX6_setShares_34 rfl ?_
        refine g_iconst (v := (nI 0)) C dX6_setShares_36 (by decide) ?_
        refine g_iload_n (j := 2) C dX6_setShares_37 rfl rfl ?_
        refine g_si (ws' := (zW cy ad shM E X)) (As := [.int v4, .int (nI 0), .int v2]) (rest := []) (res := (f_X6_in v4 (nI 0) v2)) C (c_X6_in l D cy (zW cy ad shM E X) v4 (nI 0) v2) zml_RX6_64 zcs_X6_in rfl rfl ⟨Nat.le_of_ble_eq_true rfl, Nat.le_of_ble_eq_true rfl⟩ rfl rfl (Nat.le_of_ble_eq_true rfl) ⟨Nat.zero_le _, Nat.zero_le _⟩ dX6_setShares_38 ?_
        refine g_if_ne C dX6_setShares_41 (tgt := 50) (by decide) (fun hc_8 => ?_) (fun hc_8 => ?_)
        · replace h := (if_neg hc_8).symm.trans h
          refine g_aload_n (j := 0) C dX6_setShares_50 rfl rfl ?_
          obtain ⟨q_9, hq_10, h⟩ := bind_isome h
          refine g_vv (ws' := (zW cy ad shM E q_9)) (As := []) (rest := []) C (c_X6_remembers l D cy ad E X hq_10) zml_RX6_68 zcv_X6_remembers (zW_get X sM_0) rfl rfl rfl ⟨Nat.le_of_ble_eq_true rfl, Nat.le_of_ble_eq_true rfl⟩ rfl rfl (Nat.le_of_ble_eq_true rfl) ⟨Nat.zero_le _, Nat.zero_le _⟩ dX6_setShares_51 ?_
          refine g_aload_n (j := 0) C dX6_setShares_54 rfl rfl ?_
          refine g_iload_n (j := 1) C dX6_setShares_55 rfl rfl ?_
          refine g_iconst (v := (nI 5)) C dX6_setShares_56 (by decide) ?_
          obtain ⟨q_11, hq_12, h⟩ := bind_isome h
          refine g_vi (ws' := (zW cy ad shM E q_9)) (As := [.int v1, .int (nI 5)]) (rest := []) (res := q_11) C (c_X6_filmAt l D cy ad E q_9 v1 (nI 5) hq_12) zml_RX6_81 zcv_X6_filmAt (zW_get q_9 sM_0) rfl rfl rfl ⟨Nat.le_of_ble_eq_true rfl, Nat.le_of_ble_eq_true rfl⟩ rfl rfl (Nat.le_of_ble_eq_true rfl) ⟨Nat.zero_le _, Nat.zero_le _⟩ dX6_setShares_57 ?_
          refine g_istore (L' := [(5, .int q_11), (0, .ref (ad 0)), (1, .int v1), (2, .int v2), (3, .int v3), (4, .int v4)]) C dX6_setShares_60 (by decide) rfl ?_
          refine g_aload_n (j := 1) C dX6_setShares_62 rfl rfl ?_
          refine g_getr (k := 1) (N := 27) C sM_0 rfl zin_RX6 (by decide) rfl zfl_RX6_9 rfl dX6_setShares_63 ?_
          refine g_bipush (v := (nI 54)) C dX6_setShares_66 (by decide) ?_
          refine g_bipush (v := (nI 8)) C dX6_setShares_68 (by decide) ?_
          refine g_iload_n (j := 2) C dX6_setShares_70 rfl rfl ?_
          refine g_imul C dX6_setShares_71 ?_
          refine g_iadd C dX6_setShares_72 ?_
          refine g_iconst (v := (nI 5)) C dX6_setShares_73 (by decide) ?_
          refine g_iadd C dX6_setShares_74 ?_
          refine g_iload_n (j := 3) C dX6_setShares_75 rfl rfl ?_
          obtain ⟨hi_13, h⟩ := ite_inone h
          refine g_iast C sM_1 hi_13 dX6_setShares_76 ?_
          obtain ⟨X_14, e_15, h⟩ := zlet_ex h
          rw [← e_15]
          refine g_aload_n (j := 1) C dX6_setShares_77 rfl rfl ?_
          refine g_getr (k := 1) (N := 27) C sM_0 rfl zin_RX6 (by decide) rfl zfl_RX6_9 rfl dX6_setShares_78 ?_
          refine g_bipush (v := (nI 54)) C dX6_setShares_81 (by decide) ?_
          refine g_bipush (v := (nI 8)) C dX6_setShares_83 (by decide) ?_
          refine g_iload_n (j := 2) C dX6_setShares_85 rfl rfl ?_
          refine g_imul C dX6_setShares_86 ?_
          refine g_iadd C dX6_setShares_87 ?_
          refine g_bipush (v := (nI 6)) C dX6_setShares_88 (by decide) ?_
          refine g_iadd C dX6_setShares_90 ?_
          refine g_iload_n (j := 4) C dX6_setShares_91 rfl rfl ?_
          obtain ⟨hi_16, h⟩ := ite_inone h
          refine g_iast C sM_1 hi_16 dX6_setShares_92 ?_
          obtain ⟨X_17, e_18, h⟩ := zlet_ex h
          rw [← e_18]
          refine g_aload_n (j := 1) C dX6_setShares_93 rfl rfl ?_
          refine g_getr (k := 1) (N := 27) C sM_0 rfl zin_RX6 (by decide) rfl zfl_RX6_9 rfl dX6_setShares_94 ?_
          refine g_bipush (v := (nI 54)) C dX6_setShares_97 (by decide) ?_
          refine g_bipush (v := (nI 8)) C dX6_setShares_99 (by decide) ?_
          refine g_iload_n (j := 2) C dX6_setShares_101 rfl rfl ?_
          refine g_imul C dX6_setShares_102 ?_
          refine g_iadd C dX6_setShares_103 ?_
          refine g_bipush (v := (nI 7)) C dX6_setShares_104 (by decide) ?_
          refine g_iadd C dX6_setShares_106 ?_
          refine g_iload (j := 5) C dX6_setShares_107 rfl ?_
          obtain ⟨hi_19, h⟩ := ite_inone h
          refine g_iast C sM_1 hi_19 dX6_setShares_109 ?_
          obtain ⟨X_20, e_21, h⟩ := zlet_ex h
          rw [← e_21]
          refine g_aload_n (j := 1) C dX6_setShares_110 rfl rfl ?_
          refine g_iload (j := 0) C dX6_setShares_111 rfl ?_
          obtain ⟨q_22, e_23, h⟩ := zlet_ex h
          refine g_vi (ws' := (zW cy ad shM E q_22.2)) (As := [.int q_11]) (rest := []) (res := q_22.1) C ((by rw [e_23]; exact c_X6_done l D cy ad E X_20 q_11)) zml_RX6_71 zcv_X6_done (zW_get X_20 sM_0) rfl rfl rfl ⟨Nat.le_of_ble_eq_true rfl, Nat.le_of_ble_eq_true rfl⟩ rfl rfl (Nat.le_of_ble_eq_true rfl) ⟨Nat.zero_le _, Nat.zero_le _⟩ dX6_setShares_113 ?_
          obtain rfl := Option.some.inj h
          exact g_iret rfl C hr rfl dX6_setShares_116
        · replace h := (if_pos hc_8).symm.trans h
          refine g_aload_n (j := 0) C dX6_setShares_44 rfl rfl ?_
          refine g_iconst (v := (nI 2)) C dX6_setShares_45 (by decide) ?_
          obtain ⟨q_24, e_25, h⟩ := zlet_ex h
          refine g_vi (ws' := (zW cy ad shM E q_24.2)) (As := [.int (nI 2)]) (rest := []) (res := q_24.1) C ((by rw [e_25]; exact c_X6_fails l D cy ad E X (nI 2))) zml_RX6_45 zcv_X6_fails (zW_get X sM_0) rfl rfl rfl ⟨Nat.le_of_ble_eq_true rfl, Nat.le_of_ble_eq_true rfl⟩ rfl rfl (Nat.le_of_ble_eq_true rfl) ⟨Nat.zero_le _, Nat.zero_le _⟩ dX6_setShares_46 ?_
          obtain rfl := Option.some.inj h
          exact g_iret rfl C hr rfl dX6_setShares_49
  · replace h := (if_pos hc_1).symm.trans h
    refine g_aload_n (j := 0) C dX6_setShares_8 rfl rfl ?_
    refine g_iconst (v := (nI 1)) C dX6_setShares_9 (by decide) ?_
    obtain ⟨q_26, e_27, h⟩ := zlet_ex h
    refine g_vi (ws' := (zW cy ad shM E q_26.2)) (As := [.int (nI 1)]) (rest := []) (res := q_26.1) C ((by rw [e_27]; exact c_X6_fails l D cy ad E X (nI 1))) zml_RX6_45 zcv_X6_fails (zW_get X sM_0) rfl rfl rfl ⟨Nat.le_of_ble_eq_true rfl, Nat.le_of_ble_eq_true rfl⟩ rfl rfl (Nat.le_of_ble_eq_true rfl) ⟨Nat.zero_le _, Nat.zero_le _⟩ dX6_setShares_10 ?_
    obtain rfl := Option.some.inj h
    exact g_iret rfl C hr rfl dX6_setShares_13
def f_X6_addTrailer (X : Nat → Nat → Int32) (v1 v2 v3 v4 : Int32) : Option (Int32 × (Nat → Nat → Int32)) := (if (f_X6_isFilm X v1) = 0 then (zlet (f_X6_fails X (nI 1)) fun q_32 => some (q_32.1, q_32.2)) else (if (f_X6_in v2 (nI 1) (nI 6)) = 0 then (zlet (f_X6_fails X (nI 2)) fun q_3 => some (q_3.1, q_3.2)) else (if (f_X6_in v3 (nI 0) (nI 3)) = 0 then (zlet (f_X6_fails X (nI 2)) fun q_6 => some (q_6.1, q_6.2)) else (if (f_X6_in v4 (nI 1) (nI 63)) = 0 then (zlet (f_X6_fails X (nI 2)) fun q_30 => some (q_30.1, q_30.2)) else (if (X 1 (nI 3).toNatClampNeg) = (nI 10) then (zlet (f_X6_fails X (nI 3)) fun q_28 => some (q_28.1, q_28.2)) else ((f_X6_remembers X).bind fun q_10 => (if ((nI 118) + ((nI 4) * (q_10 1 (nI 3).toNatClampNeg))) < 0 ∨ 580 ≤ ((nI 118) + ((nI 4) * (q_10 1 (nI 3).toNatClampNeg))).toNatClampNeg then none else (zlet (zU q_10 1 ((nI 118) + ((nI 4) * (q_10 1 (nI 3).toNatClampNeg))).toNatClampNeg v1) fun X_13 => (if (((nI 118) + ((nI 4) * (q_10 1 (nI 3).toNatClampNeg))) + (nI 1)) < 0 ∨ 580 ≤ (((nI 118) + ((nI 4) * (q_10 1 (nI 3).toNatClampNeg))) + (nI 1)).toNatClampNeg then none else (zlet (zU X_13 1 (((nI 118) + ((nI 4) * (q_10 1 (nI 3).toNatClampNeg))) + (nI 1)).toNatClampNeg v2) fun X_16 => (if (((nI 118) + ((nI 4) * (q_10 1 (nI 3).toNatClampNeg))) + (nI 2)) < 0 ∨ 580 ≤ (((nI 118) + ((nI 4) * (q_10 1 (nI 3).toNatClampNeg))) + (nI 2)).toNatClampNeg then none else (zlet (zU X_16 1 (((nI 118) + ((nI 4) * (q_10 1 (nI 3).toNatClampNeg))) + (nI 2)).toNatClampNeg v3) fun X_19 => (if (((nI 118) + ((nI 4) * (q_10 1 (nI 3).toNatClampNeg))) + (nI 3)) < 0 ∨ 580 ≤ (((nI 118) + ((nI 4) * (q_10 1 (nI 3).toNatClampNeg))) + (nI 3)).toNatClampNeg then none else (zlet (zU X_19 1 (((nI 118) + ((nI 4) * (q_10 1 (nI 3).toNatClampNeg))) + (nI 3)).toNatClampNeg v4) fun X_22 => (zlet (zU X_22 1 (nI 3).toNatClampNeg ((X_22 1 (nI 3).toNatClampNeg) + (nI 1))) fun X_24 => (zlet (f_X6_done X_24 ((X_24 1 (nI 3).toNatClampNeg) - (nI 1))) fun q_26 => some (q_26.1, q_26.2)))))))))))))))))
set_option maxRecDepth 100000 in
set_option maxHeartbeats 4000000 in
theorem c_X6_addTrailer (l : Launch) (D : va_G) (cy : Nat → ClassId) (ad : Nat → Nat) (E : va_W) (X : Nat → Nat → Int32) (v1 v2 v3 v4 : Int32) {res : Int32 × (Nat → Nat → Int32)} (h : f_X6_addTrailer X v1 v2 v3 v4 = some res) : zMi l yX6_addTrailer cX6_addTrailer 6 (some .int) (zrm 4) D (zTy cy) (zW cy ad shM E X) [.ref (ad 0), .int v1, .int v2, .int v3, .int v4] res.1 (zW cy ad shM E res.2) := by
  refine zMi.of (by decide) (Nat.le_of_ble_eq_true rfl) ?_
  intro p e s m below meth c A C hr
  unfold f_X6_addTrailer at h
  refine zG_L (L' := [(0, .ref (ad 0)), (1, .int v1), (2, .int v2), (3, .int v3), (4, .int v4)]) rfl ?_
  refine g_aload_n (j := 0) C dX6_addTrailer_0 rfl rfl ?_
  refine g_iload_n (j := 1) C dX6_addTrailer_1 rfl rfl ?_
  refine g_vi (ws' := (zW cy ad shM E X)) (As := [.int v1]) (rest := []) (res := (f_X6_isFilm X v1)) C (c_X6_isFilm l D cy ad E X v1) zml_RX6_78 zcv_X6_isFilm (zW_get X sM_0) rfl rfl rfl ⟨Nat.le_of_ble_eq_true rfl, Nat.le_of_ble_eq_true rfl⟩ rfl rfl (Nat.le_of_ble_eq_true rfl) ⟨Nat.zero_le _, Nat.zero_le _⟩ dX6_addTrailer_2 ?_
  refine g_if_ne C dX6_addTrailer_5 (tgt := 14) (by decide) (fun hc_1 => ?_) (fun hc_1 => ?_)
  · replace h := (if_neg hc_1).symm.trans h
    refine g_iload_n (j := 2) C dX6_addTrailer_14 rfl rfl ?_
    refine g_iconst (v := (nI 1)) C dX6_addTrailer_15 (by decide) ?_
    refine g_bipush (v := (nI 6)) C dX6_addTrailer_16 (by decide) ?_
    refine g_si (ws' := (zW cy ad shM E X)) (As := [.int v2, .int (nI 1), .int (nI 6)]) (rest := []) (res := (f_X6_in v2 (nI 1) (nI 6))) C (c_X6_in l D cy (zW cy ad shM E X) v2 (nI 1) (nI 6)) zml_RX6_64 zcs_X6_in rfl rfl ⟨Nat.le_of_ble_eq_true rfl, Nat.le_of_ble_eq_true rfl⟩ rfl rfl (Nat.le_of_ble_eq_true rfl) ⟨Nat.zero_le _, Nat.zero_le _⟩ dX6_addTrailer_18 ?_
    refine g_if_eq C dX6_addTrailer_21 (tgt := 44) (by decide) (fun hc_2 => ?_) (fun hc_2 => ?_)
    · replace h := (if_pos hc_2).symm.trans h
      refine g_aload_n (j := 0) C dX6_addTrailer_44 rfl rfl ?_
      refine g_iconst (v := (nI 2)) C dX6_addTrailer_45 (by decide) ?_
      obtain ⟨q_3, e_4, h⟩ := zlet_ex h
      refine g_vi (ws' := (zW cy ad shM E q_3.2)) (As := [.int (nI 2)]) (rest := []) (res := q_3.1) C ((by rw [e_4]; exact c_X6_fails l D cy ad E X (nI 2))) zml_RX6_45 zcv_X6_fails (zW_get X sM_0) rfl rfl rfl ⟨Nat.le_of_ble_eq_true rfl, Nat.le_of_ble_eq_true rfl⟩ rfl rfl (Nat.le_of_ble_eq_true rfl) ⟨Nat.zero_le _, Nat.zero_le _⟩ dX6_addTrailer_46 ?_
      obtain rfl := Option.some.inj h
      exact g_iret rfl C hr rfl dX6_addTrailer_49
    · replace h := (if_neg hc_2).symm.trans h
      refine g_iload_n (j := 3) C dX6_addTrailer_24 rfl rfl ?_
      refine g_iconst (v := (nI 0)) C dX6_addTrailer_25 (by decide) ?_
      refine g_iconst (v := (nI 3)) C dX6_addTrailer_26 (by decide) ?_
      refine g_si (ws' := (zW cy ad shM E X)) (As := [.int v3, .int (nI 0), .int (nI 3)]) (rest := []) (res := (f_X6_in v3 (nI 0) (nI 3))) C (c_X6_in l D cy (zW cy ad shM E X) v3 (nI 0) (nI 3)) zml_RX6_64 zcs_X6_in rfl rfl ⟨Nat.le_of_ble_eq_true rfl, Nat.le_of_ble_eq_true rfl⟩ rfl rfl (Nat.le_of_ble_eq_true rfl) ⟨Nat.zero_le _, Nat.zero_le _⟩ dX6_addTrailer_27 ?_
      refine g_if_eq C dX6_addTrailer_30 (tgt := 44) (by decide) (fun hc_5 => ?_) (fun hc_5 => ?_)
      · replace h := (if_pos hc_5).symm.trans h
        refine g_aload_n (j := 0) C dX6_addTrailer_44 rfl rfl ?_
        refine g_iconst (v := (nI 2)) C dX6_addTrailer_45 (by decide) ?_
        obtain ⟨q_6, e_7, h⟩ := zlet_ex h
        refine g_vi (ws' := (zW cy ad shM E q_6.2)) (As := [.int (nI 2)]) (rest := []) (res := q_6.1) C ((by rw [e_7]; exact c_X6_fails l D cy ad E X (nI 2))) zml_RX6_45 zcv_X6_fails (zW_get X sM_0) rfl rfl rfl ⟨Nat.le_of_ble_eq_true rfl, Nat.le_of_ble_eq_true rfl⟩ rfl rfl (Nat.le_of_ble_eq_true rfl) ⟨Nat.zero_le _, Nat.zero_le _⟩ dX6_addTrailer_46 ?_
        obtain rfl := Option.some.inj h
        exact g_iret rfl C hr rfl dX6_addTrailer_49
      · replace h := (if_neg hc_5).symm.trans h
        refine g_iload (j := 4) C dX6_addTrailer_33 rfl ?_
        refine g_iconst (v := (nI 1)) C dX6_addTrailer_35 (by decide) ?_
        refine g_bipush (v := (nI 63)) C dX6_addTrailer_36 (by decide) ?_
        refine g_si (ws' := (zW cy ad shM E X)) (As := [.int v4, .int (nI 1), .int (nI 63)]) (rest := []) (res := (f_X6_in v4 (nI 1) (nI 63))) C (c_X6_in l D cy (zW cy ad shM E X) v4 (nI 1) (nI 63)) zml_RX6_64 zcs_X6_in rfl rfl ⟨Nat.le_of_ble_eq_true rfl, Nat.le_of_ble_eq_true rfl⟩ rfl rfl (Nat.le_of_ble_eq_true rfl) ⟨Nat.zero_le _, Nat.zero_le _⟩ dX6_addTrailer_38 ?_
        refine g_if_ne C dX6_addTrailer_41 (tgt := 50) (by decide) (fun hc_8 => ?_) (fun hc_8 => ?_)
        · replace h := (if_neg hc_8).symm.trans h
          refine g_aload_n (j := 0) C dX6_addTrailer_50 rfl rfl ?_
          refine g_getr (k := 1) (N := 27) C sM_0 rfl zin_RX6 (by decide) rfl zfl_RX6_9 rfl dX6_addTrailer_51 ?_
          refine g_iconst (v := (nI 3)) C dX6_addTrailer_54 (by decide) ?_
          refine g_iald C sM_1 (by decide) dX6_addTrailer_55 ?_
          refine g_bipush (v := (nI 10)) C dX6_addTrailer_56 (by decide) ?_
          refine g_icmp_ne C dX6_addTrailer_58 (tgt := 67) (by decide) (fun hc_9 => ?_) (fun hc_9 => ?_)
          · replace h := (if_neg hc_9).symm.trans h
            refine g_aload_n (j := 0) C dX6_addTrailer_67 rfl rfl ?_
            obtain ⟨q_10, hq_11, h⟩ := bind_isome h
            refine g_vv (ws' := (zW cy ad shM E q_10)) (As := []) (rest := []) C (c_X6_remembers l D cy ad E X hq_11) zml_RX6_68 zcv_X6_remembers (zW_get X sM_0) rfl rfl rfl ⟨Nat.le_of_ble_eq_true rfl, Nat.le_of_ble_eq_true rfl⟩ rfl rfl (Nat.le_of_ble_eq_true rfl) ⟨Nat.zero_le _, Nat.zero_le _⟩ dX6_addTrailer_68 ?_
            refine g_bipush (v := (nI 118)) C dX6_addTrailer_71 (by decide) ?_
            refine g_iconst (v := (nI 4)) C dX6_addTrailer_73 (by decide) ?_
            refine g_aload_n (j := 0) C dX6_addTrailer_74 rfl rfl ?_
            refine g_getr (k := 1) (N := 27) C sM_0 rfl zin_RX6 (by decide) rfl zfl_RX6_9 rfl dX6_addTrailer_75 ?_
            refine g_iconst (v := (nI 3)) C dX6_addTrailer_78 (by decide) ?_
            refine g_iald C sM_1 (by decide) dX6_addTrailer_79 ?_
            refine g_imul C dX6_addTrailer_80 ?_
            refine g_iadd C dX6_addTrailer_81 ?_
            refine g_istore (L' := [(5, .int ((nI 118) + ((nI 4) * (q_10 1 (nI 3).toNatClampNeg)))), (0, .ref (ad 0)), (1, .int v1), (2, .int v2), (3, .int v3), (4, .int v4)]) C dX6_addTrailer_82 (by decide) rfl ?_
            refine g_aload_n (j := 1) C dX6_addTrailer_84 rfl rfl ?_
            refine g_getr (k := 1) (N := 27) C sM_0 rfl zin_RX6 (by decide) rfl zfl_RX6_9 rfl dX6_addTrailer_85 ?_
            refine g_iload (j := 0) C dX6_addTrailer_88 rfl ?_
            refine g_iload_n (j := 2) C dX6_addTrailer_90 rfl rfl ?_
            obtain ⟨hi_12, h⟩ := ite_inone h
            refine g_iast C sM_1 hi_12 dX6_addTrailer_91 ?_
            obtain ⟨X_13, e_14, h⟩ := zlet_ex h
            rw [← e_14]
            refine g_aload_n (j := 1) C dX6_addTrailer_92 rfl rfl ?_
            refine g_getr (k := 1) (N := 27) C sM_0 rfl zin_RX6 (by decide) rfl zfl_RX6_9 rfl dX6_addTrailer_93 ?_
            refine g_iload (j := 0) C dX6_addTrailer_96 rfl ?_
            refine g_iconst (v := (nI 1)) C dX6_addTrailer_98 (by decide) ?_
            refine g_iadd C dX6_addTrailer_99 ?_
            refine g_iload_n (j := 3) C dX6_addTrailer_100 rfl rfl ?_
            obtain ⟨hi_15, h⟩ := ite_inone h
            refine g_iast C sM_1 hi_15 dX6_addTrailer_101 ?_
            obtain ⟨X_16, e_17, h⟩ := zlet_ex h
            rw [← e_17]
            refine g_aload_n (j := 1) C dX6_addTrailer_102 rfl rfl ?_
            refine g_getr (k := 1) (N := 27) C sM_0 rfl zin_RX6 (by decide) rfl zfl_RX6_9 rfl dX6_addTrailer_103 ?_
            refine g_iload (j := 0) C dX6_addTrailer_106 rfl ?_
            refine g_iconst (v := (nI 2)) C dX6_addTrailer_108 (by decide) ?_
            refine g_iadd C dX6_addTrailer_109 ?_
            refine g_iload_n (j := 4) C dX6_addTrailer_110 rfl rfl ?_
            obtain ⟨hi_18, h⟩ := ite_inone h
            refine g_iast C sM_1 hi_18 dX6_addTrailer_111 ?_
            obtain ⟨X_19, e_20, h⟩ := zlet_ex h
            rw [← e_20]
            refine g_aload_n (j := 1) C dX6_addTrailer_112 rfl rfl ?_
            refine g_getr (k := 1) (N := 27) C sM_0 rfl zin_RX6 (by decide) rfl zfl_RX6_9 rfl dX6_addTrailer_113 ?_
            refine g_iload (j := 0) C dX6_addTrailer_116 rfl ?_
            refine g_iconst (v := (nI 3)) C dX6_addTrailer_118 (by decide) ?_
            refine g_iadd C dX6_addTrailer_119 ?_
            refine g_iload (j := 5) C dX6_addTrailer_120 rfl ?_
            obtain ⟨hi_21, h⟩ := ite_inone h
            refine g_iast C sM_1 hi_21 dX6_addTrailer_122 ?_
            obtain ⟨X_22, e_23, h⟩ := zlet_ex h
            rw [← e_23]
            refine g_aload_n (j := 1) C dX6_addTrailer_123 rfl rfl ?_
            refine g_getr (k := 1) (N := 27) C sM_0 rfl zin_RX6 (by decide) rfl zfl_RX6_9 rfl dX6_addTrailer_124 ?_
            refine g_iconst (v := (nI 3)) C dX6_addTrailer_127 (by decide) ?_
            refine g_dup2 C dX6_addTrailer_128 rfl rfl ?_
            refine g_iald C sM_1 (by decide) dX6_addTrailer_129 ?_
            refine g_iconst (v := (nI 1)) C dX6_addTrailer_130 (by decide) ?_
            refine g_iadd C dX6_addTrailer_131 ?_
            refine g_iast C sM_1 (by decide) dX6_addTrailer_132 ?_
            obtain ⟨X_24, e_25, h⟩ := zlet_ex h
            rw [← e_25]
            refine g_aload_n (j := 1) C dX6_addTrailer_133 rfl rfl ?_
            refine g_aload_n (j := 1) C dX6_addTrailer_134 rfl rfl ?_
            refine g_getr (k := 1) (N := 27) C sM_0 rfl zin_RX6 (by decide) rfl zfl_RX6_9 rfl dX6_addTrailer_135 ?_
            refine g_iconst (v := (nI 3)) C dX6_addTrailer_138 (by decide) ?_
            refine g_iald C sM_1 (by decide) dX6_addTrailer_139 ?_
            refine g_iconst (v := (nI 1)) C dX6_addTrailer_140 (by decide) ?_
            refine g_isub C dX6_addTrailer_141 ?_
            obtain ⟨q_26, e_27, h⟩ := zlet_ex h
            refine g_vi (ws' := (zW cy ad shM E q_26.2)) (As := [.int ((X_24 1 (nI 3).toNatClampNeg) - (nI 1))]) (rest := []) (res := q_26.1) C ((by rw [e_27]; exact c_X6_done l D cy ad E X_24 ((X_24 1 (nI 3).toNatClampNeg) - (nI 1)))) zml_RX6_71 zcv_X6_done (zW_get X_24 sM_0) rfl rfl rfl ⟨Nat.le_of_ble_eq_true rfl, Nat.le_of_ble_eq_true rfl⟩ rfl rfl (Nat.le_of_ble_eq_true rfl) ⟨Nat.zero_le _, Nat.zero_le _⟩ dX6_addTrailer_142 ?_
            obtain rfl := Option.some.inj h
            exact g_iret rfl C hr rfl dX6_addTrailer_145
          · replace h := (if_pos hc_9).symm.trans h
            refine g_aload_n (j := 0) C dX6_addTrailer_61 rfl rfl ?_
            refine g_iconst (v := (nI 3)) C dX6_addTrailer_62 (by decide) ?_
            obtain ⟨q_28, e_29, h⟩ := zlet_ex h
            refine g_vi (ws' := (zW cy ad shM E q_28.2)) (As := [.int (nI 3)]) (rest := []) (res := q_28.1) C ((by rw [e_29]; exact c_X6_fails l D cy ad E X (nI 3))) zml_RX6_45 zcv_X6_fails (zW_get X sM_0) rfl rfl rfl ⟨Nat.le_of_ble_eq_true rfl, Nat.le_of_ble_eq_true rfl⟩ rfl rfl (Nat.le_of_ble_eq_true rfl) ⟨Nat.zero_le _, Nat.zero_le _⟩ dX6_addTrailer_63 ?_
            obtain rfl := Option.some.inj h
            exact g_iret rfl C hr rfl dX6_addTrailer_66
        · replace h := (if_pos hc_8).symm.trans h
          refine g_aload_n (j := 0) C dX6_addTrailer_44 rfl rfl ?_
          refine g_iconst (v := (nI 2)) C dX6_addTrailer_45 (by decide) ?_
          obtain ⟨q_30, e_31, h⟩ := zlet_ex h
          refine g_vi (ws' := (zW cy ad shM E q_30.2)) (As := [.int (nI 2)]) (rest := []) (res := q_30.1) C ((by rw [e_31]; exact c_X6_fails l D cy ad E X (nI 2))) zml_RX6_45 zcv_X6_fails (zW_get X sM_0) rfl rfl rfl ⟨Nat.le_of_ble_eq_true rfl, Nat.le_of_ble_eq_true rfl⟩ rfl rfl (Nat.le_of_ble_eq_true rfl) ⟨Nat.zero_le _, Nat.zero_le _⟩ dX6_addTrailer_46 ?_
          obtain rfl := Option.some.inj h
          exact g_iret rfl C hr rfl dX6_addTrailer_49
  · replace h := (if_pos hc_1).symm.trans h
    refine g_aload_n (j := 0) C dX6_addTrailer_8 rfl rfl ?_
    refine g_iconst (v := (nI 1)) C dX6_addTrailer_9 (by decide) ?_
    obtain ⟨q_32, e_33, h⟩ := zlet_ex h
    refine g_vi (ws' := (zW cy ad shM E q_32.2)) (As := [.int (nI 1)]) (rest := []) (res := q_32.1) C ((by rw [e_33]; exact c_X6_fails l D cy ad E X (nI 1))) zml_RX6_45 zcv_X6_fails (zW_get X sM_0) rfl rfl rfl ⟨Nat.le_of_ble_eq_true rfl, Nat.le_of_ble_eq_true rfl⟩ rfl rfl (Nat.le_of_ble_eq_true rfl) ⟨Nat.zero_le _, Nat.zero_le _⟩ dX6_addTrailer_10 ?_
    obtain rfl := Option.some.inj h
    exact g_iret rfl C hr rfl dX6_addTrailer_13
def f_X6_isValue (v0 v1 : Int32) : Int32 := (if v0 = (nI 0) then (f_X6_in v1 (nI 0) (nI 30)) else (if v0 = (nI 1) then (f_X6_in v1 (nI 1) (nI 3)) else (if v0 = (nI 2) then (f_X6_in v1 (nI 0) (nI 60)) else (if v0 = (nI 3) then (f_X6_in v1 (nI 0) (nI 20)) else (if v0 = (nI 4) then (f_X6_in v1 (nI 0) (nI 120)) else (f_X6_in v1 (nI 1) (nI 99)))))))
theorem b_X6_isValue (v0 v1 : Int32) : f_X6_isValue v0 v1 = 0 ∨ f_X6_isValue v0 v1 = 1 := by
  unfold f_X6_isValue
  repeat' split
  all_goals first | exact Or.inl rfl | exact Or.inr rfl | apply b_X6_in
set_option maxRecDepth 100000 in
set_option maxHeartbeats 4000000 in
theorem c_X6_isValue (l : Launch) (D : va_G) (cy : Nat → ClassId) (ws : va_W) (v0 v1 : Int32) : zMi l yX6_isValue cX6_isValue 2 (some .boolean) (zrm 2) D (zTy cy) ws [.int v0, .int v1] (f_X6_isValue v0 v1) ws := by
  refine zMi.of (by decide) (Nat.le_of_ble_eq_true rfl) ?_
  intro p e s m below meth c A C hr
  generalize h : f_X6_isValue v0 v1 = res
  unfold f_X6_isValue at h
  refine zG_L (L' := [(0, .int v0), (1, .int v1)]) rfl ?_
  refine g_iload_n (j := 0) C dX6_isValue_0 rfl rfl ?_
  by_cases hc_1 : v0 = (nI 0)
  · replace h := (if_pos hc_1).symm.trans h
    refine g_tabEq C dX6_isValue_1 hc_1 (by decide) (by decide) rfl (tgt := 36) (by decide) ?_
    refine g_iload_n (j := 1) C dX6_isValue_36 rfl rfl ?_
    refine g_iconst (v := (nI 0)) C dX6_isValue_37 (by decide) ?_
    refine g_bipush (v := (nI 30)) C dX6_isValue_38 (by decide) ?_
    refine g_si (ws' := ws) (As := [.int v1, .int (nI 0), .int (nI 30)]) (rest := []) (res := (f_X6_in v1 (nI 0) (nI 30))) C (c_X6_in l D cy ws v1 (nI 0) (nI 30)) zml_RX6_64 zcs_X6_in rfl rfl ⟨Nat.le_of_ble_eq_true rfl, Nat.le_of_ble_eq_true rfl⟩ rfl rfl (Nat.le_of_ble_eq_true rfl) ⟨Nat.zero_le _, Nat.zero_le _⟩ dX6_isValue_40 ?_
    subst h
    exact g_iret rfl C hr (z_nb (b_X6_in v1 (nI 0) (nI 30))) dX6_isValue_43
  replace h := (if_neg hc_1).symm.trans h
  by_cases hc_2 : v0 = (nI 1)
  · replace h := (if_pos hc_2).symm.trans h
    refine g_tabEq C dX6_isValue_1 hc_2 (by decide) (by decide) rfl (tgt := 44) (by decide) ?_
    refine g_iload_n (j := 1) C dX6_isValue_44 rfl rfl ?_
    refine g_iconst (v := (nI 1)) C dX6_isValue_45 (by decide) ?_
    refine g_iconst (v := (nI 3)) C dX6_isValue_46 (by decide) ?_
    refine g_si (ws' := ws) (As := [.int v1, .int (nI 1), .int (nI 3)]) (rest := []) (res := (f_X6_in v1 (nI 1) (nI 3))) C (c_X6_in l D cy ws v1 (nI 1) (nI 3)) zml_RX6_64 zcs_X6_in rfl rfl ⟨Nat.le_of_ble_eq_true rfl, Nat.le_of_ble_eq_true rfl⟩ rfl rfl (Nat.le_of_ble_eq_true rfl) ⟨Nat.zero_le _, Nat.zero_le _⟩ dX6_isValue_47 ?_
    subst h
    exact g_iret rfl C hr (z_nb (b_X6_in v1 (nI 1) (nI 3))) dX6_isValue_50
  replace h := (if_neg hc_2).symm.trans h
  by_cases hc_3 : v0 = (nI 2)
  · replace h := (if_pos hc_3).symm.trans h
    refine g_tabEq C dX6_isValue_1 hc_3 (by decide) (by decide) rfl (tgt := 51) (by decide) ?_
    refine g_iload_n (j := 1) C dX6_isValue_51 rfl rfl ?_
    refine g_iconst (v := (nI 0)) C dX6_isValue_52 (by decide) ?_
    refine g_bipush (v := (nI 60)) C dX6_isValue_53 (by decide) ?_
    refine g_si (ws' := ws) (As := [.int v1, .int (nI 0), .int (nI 60)]) (rest := []) (res := (f_X6_in v1 (nI 0) (nI 60))) C (c_X6_in l D cy ws v1 (nI 0) (nI 60)) zml_RX6_64 zcs_X6_in rfl rfl ⟨Nat.le_of_ble_eq_true rfl, Nat.le_of_ble_eq_true rfl⟩ rfl rfl (Nat.le_of_ble_eq_true rfl) ⟨Nat.zero_le _, Nat.zero_le _⟩ dX6_isValue_55 ?_
    subst h
    exact g_iret rfl C hr (z_nb (b_X6_in v1 (nI 0) (nI 60))) dX6_isValue_58
  replace h := (if_neg hc_3).symm.trans h
  by_cases hc_4 : v0 = (nI 3)
  · replace h := (if_pos hc_4).symm.trans h
    refine g_tabEq C dX6_isValue_1 hc_4 (by decide) (by decide) rfl (tgt := 59) (by decide) ?_
    refine g_iload_n (j := 1) C dX6_isValue_59 rfl rfl ?_
    refine g_iconst (v := (nI 0)) C dX6_isValue_60 (by decide) ?_
    refine g_bipush (v := (nI 20)) C dX6_isValue_61 (by decide) ?_
    refine g_si (ws' := ws) (As := [.int v1, .int (nI 0), .int (nI 20)]) (rest := []) (res := (f_X6_in v1 (nI 0) (nI 20))) C (c_X6_in l D cy ws v1 (nI 0) (nI 20)) zml_RX6_64 zcs_X6_in rfl rfl ⟨Nat.le_of_ble_eq_true rfl, Nat.le_of_ble_eq_true rfl⟩ rfl rfl (Nat.le_of_ble_eq_true rfl) ⟨Nat.zero_le _, Nat.zero_le _⟩ dX6_isValue_63 ?_
    subst h
    exact g_iret rfl C hr (z_nb (b_X6_in v1 (nI 0) (nI 20))) dX6_isValue_66
  replace h := (if_neg hc_4).symm.trans h
  by_cases hc_5 : v0 = (nI 4)
  · replace h := (if_pos hc_5).symm.trans h
    refine g_tabEq C dX6_isValue_1 hc_5 (by decide) (by decide) rfl (tgt := 67) (by decide) ?_
    refine g_iload_n (j := 1) C dX6_isValue_67 rfl rfl ?_
    refine g_iconst (v := (nI 0)) C dX6_isValue_68 (by decide) ?_
    refine g_bipush (v := (nI 120)) C dX6_isValue_69 (by decide) ?_
    refine g_si (ws' := ws) (As := [.int v1, .int (nI 0), .int (nI 120)]) (rest := []) (res := (f_X6_in v1 (nI 0) (nI 120))) C (c_X6_in l D cy ws v1 (nI 0) (nI 120)) zml_RX6_64 zcs_X6_in rfl rfl ⟨Nat.le_of_ble_eq_true rfl, Nat.le_of_ble_eq_true rfl⟩ rfl rfl (Nat.le_of_ble_eq_true rfl) ⟨Nat.zero_le _, Nat.zero_le _⟩ dX6_isValue_71 ?_
    subst h
    exact g_iret rfl C hr (z_nb (b_X6_in v1 (nI 0) (nI 120))) dX6_isValue_74
  replace h := (if_neg hc_5).symm.trans h
  refine g_tabOut C dX6_isValue_1 (z_tabout_5 (lo := 0) (hi := 4) hc_1 hc_2 hc_3 hc_4 hc_5 (by decide)) (tgt := 75) (by decide) ?_
  refine g_iload_n (j := 1) C dX6_isValue_75 rfl rfl ?_
  refine g_iconst (v := (nI 1)) C dX6_isValue_76 (by decide) ?_
  refine g_bipush (v := (nI 99)) C dX6_isValue_77 (by decide) ?_
  refine g_si (ws' := ws) (As := [.int v1, .int (nI 1), .int (nI 99)]) (rest := []) (res := (f_X6_in v1 (nI 1) (nI 99))) C (c_X6_in l D cy ws v1 (nI 1) (nI 99)) zml_RX6_64 zcs_X6_in rfl rfl ⟨Nat.le_of_ble_eq_true rfl, Nat.le_of_ble_eq_true rfl⟩ rfl rfl (Nat.le_of_ble_eq_true rfl) ⟨Nat.zero_le _, Nat.zero_le _⟩ dX6_isValue_79 ?_
  subst h
  exact g_iret rfl C hr (z_nb (b_X6_in v1 (nI 1) (nI 99))) dX6_isValue_82
def f_X6_set (X : Nat → Nat → Int32) (v1 v2 : Int32) : Option (Int32 × (Nat → Nat → Int32)) := (if (f_X6_in v1 (nI 0) (nI 5)) = 0 then (zlet (f_X6_fails X (nI 1)) fun q_13 => some (q_13.1, q_13.2)) else (if (f_X6_isValue v1 v2) = 0 then (zlet (f_X6_fails X (nI 2)) fun q_11 => some (q_11.1, q_11.2)) else ((f_X6_remembers X).bind fun q_3 => (if ((nI 8) + v1) < 0 ∨ 580 ≤ ((nI 8) + v1).toNatClampNeg then none else (if ((nI 8) + v1) < 0 ∨ 580 ≤ ((nI 8) + v1).toNatClampNeg then none else (zlet (zU q_3 1 ((nI 8) + v1).toNatClampNeg v2) fun X_7 => (zlet (f_X6_done X_7 (q_3 1 ((nI 8) + v1).toNatClampNeg)) fun q_9 => some (q_9.1, q_9.2))))))))
set_option maxRecDepth 100000 in
set_option maxHeartbeats 4000000 in
theorem c_X6_set (l : Launch) (D : va_G) (cy : Nat → ClassId) (ad : Nat → Nat) (E : va_W) (X : Nat → Nat → Int32) (v1 v2 : Int32) {res : Int32 × (Nat → Nat → Int32)} (h : f_X6_set X v1 v2 = some res) : zMi l yX6_set cX6_set 4 (some .int) (zrm 4) D (zTy cy) (zW cy ad shM E X) [.ref (ad 0), .int v1, .int v2] res.1 (zW cy ad shM E res.2) := by
  refine zMi.of (by decide) (Nat.le_of_ble_eq_true rfl) ?_
  intro p e s m below meth c A C hr
  unfold f_X6_set at h
  refine zG_L (L' := [(0, .ref (ad 0)), (1, .int v1), (2, .int v2)]) rfl ?_
  refine g_iload_n (j := 1) C dX6_set_0 rfl rfl ?_
  refine g_iconst (v := (nI 0)) C dX6_set_1 (by decide) ?_
  refine g_iconst (v := (nI 5)) C dX6_set_2 (by decide) ?_
  refine g_si (ws' := (zW cy ad shM E X)) (As := [.int v1, .int (nI 0), .int (nI 5)]) (rest := []) (res := (f_X6_in v1 (nI 0) (nI 5))) C (c_X6_in l D cy (zW cy ad shM E X) v1 (nI 0) (nI 5)) zml_RX6_64 zcs_X6_in rfl rfl ⟨Nat.le_of_ble_eq_true rfl, Nat.le_of_ble_eq_true rfl⟩ rfl rfl (Nat.le_of_ble_eq_true rfl) ⟨Nat.zero_le _, Nat.zero_le _⟩ dX6_set_3 ?_
  refine g_if_ne C dX6_set_6 (tgt := 15) (by decide) (fun hc_1 => ?_) (fun hc_1 => ?_)
  · replace h := (if_neg hc_1).symm.trans h
    refine g_iload_n (j := 1) C dX6_set_15 rfl rfl ?_
    refine g_iload_n (j := 2) C dX6_set_16 rfl rfl ?_
    refine g_si (ws' := (zW cy ad shM E X)) (As := [.int v1, .int v2]) (rest := []) (res := (f_X6_isValue v1 v2)) C (c_X6_isValue l D cy (zW cy ad shM E X) v1 v2) zml_RX6_85 zcs_X6_isValue rfl rfl ⟨Nat.le_of_ble_eq_true rfl, Nat.le_of_ble_eq_true rfl⟩ rfl rfl (Nat.le_of_ble_eq_true rfl) ⟨Nat.zero_le _, Nat.zero_le _⟩ dX6_set_17 ?_
    refine g_if_ne C dX6_set_20 (tgt := 29) (by decide) (fun hc_2 => ?_) (fun hc_2 => ?_)
    · replace h := (if_neg hc_2).symm.trans h
      refine g_aload_n (j := 0) C dX6_set_29 rfl rfl ?_
      obtain ⟨q_3, hq_4, h⟩ := bind_isome h
      refine g_vv (ws' := (zW cy ad shM E q_3)) (As := []) (rest := []) C (c_X6_remembers l D cy ad E X hq_4) zml_RX6_68 zcv_X6_remembers (zW_get X sM_0) rfl rfl rfl ⟨Nat.le_of_ble_eq_true rfl, Nat.le_of_ble_eq_true rfl⟩ rfl rfl (Nat.le_of_ble_eq_true rfl) ⟨Nat.zero_le _, Nat.zero_le _⟩ dX6_set_30 ?_
      refine g_aload_n (j := 0) C dX6_set_33 rfl rfl ?_
      refine g_getr (k := 1) (N := 27) C sM_0 rfl zin_RX6 (by decide) rfl zfl_RX6_9 rfl dX6_set_34 ?_
      refine g_bipush (v := (nI 8)) C dX6_set_37 (by decide) ?_
      refine g_iload_n (j := 1) C dX6_set_39 rfl rfl ?_
      refine g_iadd C dX6_set_40 ?_
      obtain ⟨hi_5, h⟩ := ite_inone h
      refine g_iald C sM_1 hi_5 dX6_set_41 ?_
      refine g_istore_n (L' := [(3, .int (q_3 1 ((nI 8) + v1).toNatClampNeg)), (0, .ref (ad 0)), (1, .int v1), (2, .int v2)]) C dX6_set_42 rfl (by decide) rfl ?_
      refine g_aload_n (j := 1) C dX6_set_43 rfl rfl ?_
      refine g_getr (k := 1) (N := 27) C sM_0 rfl zin_RX6 (by decide) rfl zfl_RX6_9 rfl dX6_set_44 ?_
      refine g_bipush (v := (nI 8)) C dX6_set_47 (by decide) ?_
      refine g_iload_n (j := 2) C dX6_set_49 rfl rfl ?_
      refine g_iadd C dX6_set_50 ?_
      refine g_iload_n (j := 3) C dX6_set_51 rfl rfl ?_
      obtain ⟨hi_6, h⟩ := ite_inone h
      refine g_iast C sM_1 hi_6 dX6_set_52 ?_
      obtain ⟨X_7, e_8, h⟩ := zlet_ex h
      rw [← e_8]
      refine g_aload_n (j := 1) C dX6_set_53 rfl rfl ?_
      refine g_iload_n (j := 0) C dX6_set_54 rfl rfl ?_
      obtain ⟨q_9, e_10, h⟩ := zlet_ex h
      refine g_vi (ws' := (zW cy ad shM E q_9.2)) (As := [.int (q_3 1 ((nI 8) + v1).toNatClampNeg)]) (rest := []) (res := q_9.1) C ((by rw [e_10]; exact c_X6_done l D cy ad E X_7 (q_3 1 ((nI 8) + v1).toNatClampNeg))) zml_RX6_71 zcv_X6_done (zW_get X_7 sM_0) rfl rfl rfl ⟨Nat.le_of_ble_eq_true rfl, Nat.le_of_ble_eq_true rfl⟩ rfl rfl (Nat.le_of_ble_eq_true rfl) ⟨Nat.zero_le _, Nat.zero_le _⟩ dX6_set_55 ?_
      obtain rfl := Option.some.inj h
      exact g_iret rfl C hr rfl dX6_set_58
    · replace h := (if_pos hc_2).symm.trans h
      refine g_aload_n (j := 0) C dX6_set_23 rfl rfl ?_
      refine g_iconst (v := (nI 2)) C dX6_set_24 (by decide) ?_
      obtain ⟨q_11, e_12, h⟩ := zlet_ex h
      refine g_vi (ws' := (zW cy ad shM E q_11.2)) (As := [.int (nI 2)]) (rest := []) (res := q_11.1) C ((by rw [e_12]; exact c_X6_fails l D cy ad E X (nI 2))) zml_RX6_45 zcv_X6_fails (zW_get X sM_0) rfl rfl rfl ⟨Nat.le_of_ble_eq_true rfl, Nat.le_of_ble_eq_true rfl⟩ rfl rfl (Nat.le_of_ble_eq_true rfl) ⟨Nat.zero_le _, Nat.zero_le _⟩ dX6_set_25 ?_
      obtain rfl := Option.some.inj h
      exact g_iret rfl C hr rfl dX6_set_28
  · replace h := (if_pos hc_1).symm.trans h
    refine g_aload_n (j := 0) C dX6_set_9 rfl rfl ?_
    refine g_iconst (v := (nI 1)) C dX6_set_10 (by decide) ?_
    obtain ⟨q_13, e_14, h⟩ := zlet_ex h
    refine g_vi (ws' := (zW cy ad shM E q_13.2)) (As := [.int (nI 1)]) (rest := []) (res := q_13.1) C ((by rw [e_14]; exact c_X6_fails l D cy ad E X (nI 1))) zml_RX6_45 zcv_X6_fails (zW_get X sM_0) rfl rfl rfl ⟨Nat.le_of_ble_eq_true rfl, Nat.le_of_ble_eq_true rfl⟩ rfl rfl (Nat.le_of_ble_eq_true rfl) ⟨Nat.zero_le _, Nat.zero_le _⟩ dX6_set_11 ?_
    obtain rfl := Option.some.inj h
    exact g_iret rfl C hr rfl dX6_set_14
def f_X6_setLimit (X : Nat → Nat → Int32) (v1 v2 : Int32) : Option (Int32 × (Nat → Nat → Int32)) := (if (f_X6_in v1 (nI 0) (nI 15)) = 0 then (zlet (f_X6_fails X (nI 1)) fun q_13 => some (q_13.1, q_13.2)) else (if (f_X6_in v2 (nI 0) (nI 3)) = 0 then (zlet (f_X6_fails X (nI 2)) fun q_11 => some (q_11.1, q_11.2)) else ((f_X6_remembers X).bind fun q_3 => (if ((nI 14) + v1) < 0 ∨ 580 ≤ ((nI 14) + v1).toNatClampNeg then none else (if ((nI 14) + v1) < 0 ∨ 580 ≤ ((nI 14) + v1).toNatClampNeg then none else (zlet (zU q_3 1 ((nI 14) + v1).toNatClampNeg v2) fun X_7 => (zlet (f_X6_done X_7 (q_3 1 ((nI 14) + v1).toNatClampNeg)) fun q_9 => some (q_9.1, q_9.2))))))))
set_option maxRecDepth 100000 in
set_option maxHeartbeats 4000000 in
theorem c_X6_setLimit (l : Launch) (D : va_G) (cy : Nat → ClassId) (ad : Nat → Nat) (E : va_W) (X : Nat → Nat → Int32) (v1 v2 : Int32) {res : Int32 × (Nat → Nat → Int32)} (h : f_X6_setLimit X v1 v2 = some res) : zMi l yX6_setLimit cX6_setLimit 4 (some .int) (zrm 4) D (zTy cy) (zW cy ad shM E X) [.ref (ad 0), .int v1, .int v2] res.1 (zW cy ad shM E res.2) := by
  refine zMi.of (by decide) (Nat.le_of_ble_eq_true rfl) ?_
  intro p e s m below meth c A C hr
  unfold f_X6_setLimit at h
  refine zG_L (L' := [(0, .ref (ad 0)), (1, .int v1), (2, .int v2)]) rfl ?_
  refine g_iload_n (j := 1) C dX6_setLimit_0 rfl rfl ?_
  refine g_iconst (v := (nI 0)) C dX6_setLimit_1 (by decide) ?_
  refine g_bipush (v := (nI 15)) C dX6_setLimit_2 (by decide) ?_
  refine g_si (ws' := (zW cy ad shM E X)) (As := [.int v1, .int (nI 0), .int (nI 15)]) (rest := []) (res := (f_X6_in v1 (nI 0) (nI 15))) C (c_X6_in l D cy (zW cy ad shM E X) v1 (nI 0) (nI 15)) zml_RX6_64 zcs_X6_in rfl rfl ⟨Nat.le_of_ble_eq_true rfl, Nat.le_of_ble_eq_true rfl⟩ rfl rfl (Nat.le_of_ble_eq_true rfl) ⟨Nat.zero_le _, Nat.zero_le _⟩ dX6_setLimit_4 ?_
  refine g_if_ne C dX6_setLimit_7 (tgt := 16) (by decide) (fun hc_1 => ?_) (fun hc_1 => ?_)
  · replace h := (if_neg hc_1).symm.trans h
    refine g_iload_n (j := 2) C dX6_setLimit_16 rfl rfl ?_
    refine g_iconst (v := (nI 0)) C dX6_setLimit_17 (by decide) ?_
    refine g_iconst (v := (nI 3)) C dX6_setLimit_18 (by decide) ?_
    refine g_si (ws' := (zW cy ad shM E X)) (As := [.int v2, .int (nI 0), .int (nI 3)]) (rest := []) (res := (f_X6_in v2 (nI 0) (nI 3))) C (c_X6_in l D cy (zW cy ad shM E X) v2 (nI 0) (nI 3)) zml_RX6_64 zcs_X6_in rfl rfl ⟨Nat.le_of_ble_eq_true rfl, Nat.le_of_ble_eq_true rfl⟩ rfl rfl (Nat.le_of_ble_eq_true rfl) ⟨Nat.zero_le _, Nat.zero_le _⟩ dX6_setLimit_19 ?_
    refine g_if_ne C dX6_setLimit_22 (tgt := 31) (by decide) (fun hc_2 => ?_) (fun hc_2 => ?_)
    · replace h := (if_neg hc_2).symm.trans h
      refine g_aload_n (j := 0) C dX6_setLimit_31 rfl rfl ?_
      obtain ⟨q_3, hq_4, h⟩ := bind_isome h
      refine g_vv (ws' := (zW cy ad shM E q_3)) (As := []) (rest := []) C (c_X6_remembers l D cy ad E X hq_4) zml_RX6_68 zcv_X6_remembers (zW_get X sM_0) rfl rfl rfl ⟨Nat.le_of_ble_eq_true rfl, Nat.le_of_ble_eq_true rfl⟩ rfl rfl (Nat.le_of_ble_eq_true rfl) ⟨Nat.zero_le _, Nat.zero_le _⟩ dX6_setLimit_32 ?_
      refine g_aload_n (j := 0) C dX6_setLimit_35 rfl rfl ?_
      refine g_getr (k := 1) (N := 27) C sM_0 rfl zin_RX6 (by decide) rfl zfl_RX6_9 rfl dX6_setLimit_36 ?_
      refine g_bipush (v := (nI 14)) C dX6_setLimit_39 (by decide) ?_
      refine g_iload_n (j := 1) C dX6_setLimit_41 rfl rfl ?_
      refine g_iadd C dX6_setLimit_42 ?_
      obtain ⟨hi_5, h⟩ := ite_inone h
      refine g_iald C sM_1 hi_5 dX6_setLimit_43 ?_
      refine g_istore_n (L' := [(3, .int (q_3 1 ((nI 14) + v1).toNatClampNeg)), (0, .ref (ad 0)), (1, .int v1), (2, .int v2)]) C dX6_setLimit_44 rfl (by decide) rfl ?_
      refine g_aload_n (j := 1) C dX6_setLimit_45 rfl rfl ?_
      refine g_getr (k := 1) (N := 27) C sM_0 rfl zin_RX6 (by decide) rfl zfl_RX6_9 rfl dX6_setLimit_46 ?_
      refine g_bipush (v := (nI 14)) C dX6_setLimit_49 (by decide) ?_
      refine g_iload_n (j := 2) C dX6_setLimit_51 rfl rfl ?_
      refine g_iadd C dX6_setLimit_52 ?_
      refine g_iload_n (j := 3) C dX6_setLimit_53 rfl rfl ?_
      obtain ⟨hi_6, h⟩ := ite_inone h
      refine g_iast C sM_1 hi_6 dX6_setLimit_54 ?_
      obtain ⟨X_7, e_8, h⟩ := zlet_ex h
      rw [← e_8]
      refine g_aload_n (j := 1) C dX6_setLimit_55 rfl rfl ?_
      refine g_iload_n (j := 0) C dX6_setLimit_56 rfl rfl ?_
      obtain ⟨q_9, e_10, h⟩ := zlet_ex h
      refine g_vi (ws' := (zW cy ad shM E q_9.2)) (As := [.int (q_3 1 ((nI 14) + v1).toNatClampNeg)]) (rest := []) (res := q_9.1) C ((by rw [e_10]; exact c_X6_done l D cy ad E X_7 (q_3 1 ((nI 14) + v1).toNatClampNeg))) zml_RX6_71 zcv_X6_done (zW_get X_7 sM_0) rfl rfl rfl ⟨Nat.le_of_ble_eq_true rfl, Nat.le_of_ble_eq_true rfl⟩ rfl rfl (Nat.le_of_ble_eq_true rfl) ⟨Nat.zero_le _, Nat.zero_le _⟩ dX6_setLimit_57 ?_
      obtain rfl := Option.some.inj h
      exact g_iret rfl C hr rfl dX6_setLimit_60
    · replace h := (if_pos hc_2).symm.trans h
      refine g_aload_n (j := 0) C dX6_setLimit_25 rfl rfl ?_
      refine g_iconst (v := (nI 2)) C dX6_setLimit_26 (by decide) ?_
      obtain ⟨q_11, e_12, h⟩ := zlet_ex h
      refine g_vi (ws' := (zW cy ad shM E q_11.2)) (As := [.int (nI 2)]) (rest := []) (res := q_11.1) C ((by rw [e_12]; exact c_X6_fails l D cy ad E X (nI 2))) zml_RX6_45 zcv_X6_fails (zW_get X sM_0) rfl rfl rfl ⟨Nat.le_of_ble_eq_true rfl, Nat.le_of_ble_eq_true rfl⟩ rfl rfl (Nat.le_of_ble_eq_true rfl) ⟨Nat.zero_le _, Nat.zero_le _⟩ dX6_setLimit_27 ?_
      obtain rfl := Option.some.inj h
      exact g_iret rfl C hr rfl dX6_setLimit_30
  · replace h := (if_pos hc_1).symm.trans h
    refine g_aload_n (j := 0) C dX6_setLimit_10 rfl rfl ?_
    refine g_iconst (v := (nI 1)) C dX6_setLimit_11 (by decide) ?_
    obtain ⟨q_13, e_14, h⟩ := zlet_ex h
    refine g_vi (ws' := (zW cy ad shM E q_13.2)) (As := [.int (nI 1)]) (rest := []) (res := q_13.1) C ((by rw [e_14]; exact c_X6_fails l D cy ad E X (nI 1))) zml_RX6_45 zcv_X6_fails (zW_get X sM_0) rfl rfl rfl ⟨Nat.le_of_ble_eq_true rfl, Nat.le_of_ble_eq_true rfl⟩ rfl rfl (Nat.le_of_ble_eq_true rfl) ⟨Nat.zero_le _, Nat.zero_le _⟩ dX6_setLimit_12 ?_
    obtain rfl := Option.some.inj h
    exact g_iret rfl C hr rfl dX6_setLimit_15
def f_X6_setting (X : Nat → Nat → Int32) (v1 : Int32) : Option (Int32 × (Nat → Nat → Int32)) := (if (f_X6_in v1 (nI 0) (nI 5)) = 0 then (if (f_X6_in v1 (nI 10) (nI 25)) = 0 then (zlet (f_X6_fails X (nI 1)) fun q_3 => some (q_3.1, q_3.2)) else (if (((nI 14) + v1) - (nI 10)) < 0 ∨ 580 ≤ (((nI 14) + v1) - (nI 10)).toNatClampNeg then none else (zlet (f_X6_done X (X 1 (((nI 14) + v1) - (nI 10)).toNatClampNeg)) fun q_6 => some (q_6.1, q_6.2)))) else (if ((nI 8) + v1) < 0 ∨ 580 ≤ ((nI 8) + v1).toNatClampNeg then none else (zlet (f_X6_done X (X 1 ((nI 8) + v1).toNatClampNeg)) fun q_9 => some (q_9.1, q_9.2))))
set_option maxRecDepth 100000 in
set_option maxHeartbeats 4000000 in
theorem c_X6_setting (l : Launch) (D : va_G) (cy : Nat → ClassId) (ad : Nat → Nat) (E : va_W) (X : Nat → Nat → Int32) (v1 : Int32) {res : Int32 × (Nat → Nat → Int32)} (h : f_X6_setting X v1 = some res) : zMi l yX6_setting cX6_setting 2 (some .int) (zrm 2) D (zTy cy) (zW cy ad shM E X) [.ref (ad 0), .int v1] res.1 (zW cy ad shM E res.2) := by
  refine zMi.of (by decide) (Nat.le_of_ble_eq_true rfl) ?_
  intro p e s m below meth c A C hr
  unfold f_X6_setting at h
  refine zG_L (L' := [(0, .ref (ad 0)), (1, .int v1)]) rfl ?_
  refine g_iload_n (j := 1) C dX6_setting_0 rfl rfl ?_
  refine g_iconst (v := (nI 0)) C dX6_setting_1 (by decide) ?_
  refine g_iconst (v := (nI 5)) C dX6_setting_2 (by decide) ?_
  refine g_si (ws' := (zW cy ad shM E X)) (As := [.int v1, .int (nI 0), .int (nI 5)]) (rest := []) (res := (f_X6_in v1 (nI 0) (nI 5))) C (c_X6_in l D cy (zW cy ad shM E X) v1 (nI 0) (nI 5)) zml_RX6_64 zcs_X6_in rfl rfl ⟨Nat.le_of_ble_eq_true rfl, Nat.le_of_ble_eq_true rfl⟩ rfl rfl (Nat.le_of_ble_eq_true rfl) ⟨Nat.zero_le _, Nat.zero_le _⟩ dX6_setting_3 ?_
  refine g_if_eq C dX6_setting_6 (tgt := 25) (by decide) (fun hc_1 => ?_) (fun hc_1 => ?_)
  · replace h := (if_pos hc_1).symm.trans h
    refine g_iload_n (j := 1) C dX6_setting_25 rfl rfl ?_
    refine g_bipush (v := (nI 10)) C dX6_setting_26 (by decide) ?_
    refine g_bipush (v := (nI 25)) C dX6_setting_28 (by decide) ?_
    refine g_si (ws' := (zW cy ad shM E X)) (As := [.int v1, .int (nI 10), .int (nI 25)]) (rest := []) (res := (f_X6_in v1 (nI 10) (nI 25))) C (c_X6_in l D cy (zW cy ad shM E X) v1 (nI 10) (nI 25)) zml_RX6_64 zcs_X6_in rfl rfl ⟨Nat.le_of_ble_eq_true rfl, Nat.le_of_ble_eq_true rfl⟩ rfl rfl (Nat.le_of_ble_eq_true rfl) ⟨Nat.zero_le _, Nat.zero_le _⟩ dX6_setting_30 ?_
    refine g_if_eq C dX6_setting_33 (tgt := 55) (by decide) (fun hc_2 => ?_) (fun hc_2 => ?_)
    · replace h := (if_pos hc_2).symm.trans h
      refine g_aload_n (j := 0) C dX6_setting_55 rfl rfl ?_
      refine g_iconst (v := (nI 1)) C dX6_setting_56 (by decide) ?_
      obtain ⟨q_3, e_4, h⟩ := zlet_ex h
      refine g_vi (ws' := (zW cy ad shM E q_3.2)) (As := [.int (nI 1)]) (rest := []) (res := q_3.1) C ((by rw [e_4]; exact c_X6_fails l D cy ad E X (nI 1))) zml_RX6_45 zcv_X6_fails (zW_get X sM_0) rfl rfl rfl ⟨Nat.le_of_ble_eq_true rfl, Nat.le_of_ble_eq_true rfl⟩ rfl rfl (Nat.le_of_ble_eq_true rfl) ⟨Nat.zero_le _, Nat.zero_le _⟩ dX6_setting_57 ?_
      obtain rfl := Option.some.inj h
      exact g_iret rfl C hr rfl dX6_setting_60
    · replace h := (if_neg hc_2).symm.trans h
      refine g_aload_n (j := 0) C dX6_setting_36 rfl rfl ?_
      refine g_aload_n (j := 0) C dX6_setting_37 rfl rfl ?_
      refine g_getr (k := 1) (N := 27) C sM_0 rfl zin_RX6 (by decide) rfl zfl_RX6_9 rfl dX6_setting_38 ?_
      refine g_bipush (v := (nI 14)) C dX6_setting_41 (by decide) ?_
      refine g_iload_n (j := 1) C dX6_setting_43 rfl rfl ?_
      refine g_iadd C dX6_setting_44 ?_
      refine g_bipush (v := (nI 10)) C dX6_setting_45 (by decide) ?_
      refine g_isub C dX6_setting_47 ?_
      obtain ⟨hi_5, h⟩ := ite_inone h
      refine g_iald C sM_1 hi_5 dX6_setting_48 ?_
      obtain ⟨q_6, e_7, h⟩ := zlet_ex h
      refine g_vi (ws' := (zW cy ad shM E q_6.2)) (As := [.int (X 1 (((nI 14) + v1) - (nI 10)).toNatClampNeg)]) (rest := []) (res := q_6.1) C ((by rw [e_7]; exact c_X6_done l D cy ad E X (X 1 (((nI 14) + v1) - (nI 10)).toNatClampNeg))) zml_RX6_71 zcv_X6_done (zW_get X sM_0) rfl rfl rfl ⟨Nat.le_of_ble_eq_true rfl, Nat.le_of_ble_eq_true rfl⟩ rfl rfl (Nat.le_of_ble_eq_true rfl) ⟨Nat.zero_le _, Nat.zero_le _⟩ dX6_setting_49 ?_
      refine g_goto C dX6_setting_52 (tgt := 60) (by decide) ?_
      obtain rfl := Option.some.inj h
      exact g_iret rfl C hr rfl dX6_setting_60
  · replace h := (if_neg hc_1).symm.trans h
    refine g_aload_n (j := 0) C dX6_setting_9 rfl rfl ?_
    refine g_aload_n (j := 0) C dX6_setting_10 rfl rfl ?_
    refine g_getr (k := 1) (N := 27) C sM_0 rfl zin_RX6 (by decide) rfl zfl_RX6_9 rfl dX6_setting_11 ?_
    refine g_bipush (v := (nI 8)) C dX6_setting_14 (by decide) ?_
    refine g_iload_n (j := 1) C dX6_setting_16 rfl rfl ?_
    refine g_iadd C dX6_setting_17 ?_
    obtain ⟨hi_8, h⟩ := ite_inone h
    refine g_iald C sM_1 hi_8 dX6_setting_18 ?_
    obtain ⟨q_9, e_10, h⟩ := zlet_ex h
    refine g_vi (ws' := (zW cy ad shM E q_9.2)) (As := [.int (X 1 ((nI 8) + v1).toNatClampNeg)]) (rest := []) (res := q_9.1) C ((by rw [e_10]; exact c_X6_done l D cy ad E X (X 1 ((nI 8) + v1).toNatClampNeg))) zml_RX6_71 zcv_X6_done (zW_get X sM_0) rfl rfl rfl ⟨Nat.le_of_ble_eq_true rfl, Nat.le_of_ble_eq_true rfl⟩ rfl rfl (Nat.le_of_ble_eq_true rfl) ⟨Nat.zero_le _, Nat.zero_le _⟩ dX6_setting_19 ?_
    refine g_goto C dX6_setting_22 (tgt := 60) (by decide) ?_
    obtain rfl := Option.some.inj h
    exact g_iret rfl C hr rfl dX6_setting_60
def f_X6_minutesOf (X : Nat → Nat → Int32) (v1 : Int32) : Option Int32 := ((f_X6_showAt X v1 (nI 5)).bind fun q_1 => ((f_X6_showAt X v1 (nI 1)).bind fun q_3 => ((f_X6_filmAt X q_3 (nI 0)).bind fun q_5 => some (q_1 + q_5))))
set_option maxRecDepth 100000 in
set_option maxHeartbeats 4000000 in
theorem c_X6_minutesOf (l : Launch) (D : va_G) (cy : Nat → ClassId) (ad : Nat → Nat) (E : va_W) (X : Nat → Nat → Int32) (v1 : Int32) {res : Int32} (h : f_X6_minutesOf X v1 = some res) : zMi l yX6_minutesOf cX6_minutesOf 2 (some .int) (zrm 2) D (zTy cy) (zW cy ad shM E X) [.ref (ad 0), .int v1] res (zW cy ad shM E X) := by
  refine zMi.of (by decide) (Nat.le_of_ble_eq_true rfl) ?_
  intro p e s m below meth c A C hr
  unfold f_X6_minutesOf at h
  refine zG_L (L' := [(0, .ref (ad 0)), (1, .int v1)]) rfl ?_
  refine g_aload_n (j := 0) C dX6_minutesOf_0 rfl rfl ?_
  refine g_iload_n (j := 1) C dX6_minutesOf_1 rfl rfl ?_
  refine g_iconst (v := (nI 5)) C dX6_minutesOf_2 (by decide) ?_
  obtain ⟨q_1, hq_2, h⟩ := bind_isome h
  refine g_vi (ws' := (zW cy ad shM E X)) (As := [.int v1, .int (nI 5)]) (rest := []) (res := q_1) C (c_X6_showAt l D cy ad E X v1 (nI 5) hq_2) zml_RX6_89 zcv_X6_showAt (zW_get X sM_0) rfl rfl rfl ⟨Nat.le_of_ble_eq_true rfl, Nat.le_of_ble_eq_true rfl⟩ rfl rfl (Nat.le_of_ble_eq_true rfl) ⟨Nat.zero_le _, Nat.zero_le _⟩ dX6_minutesOf_3 ?_
  refine g_aload_n (j := 0) C dX6_minutesOf_6 rfl rfl ?_
  refine g_aload_n (j := 0) C dX6_minutesOf_7 rfl rfl ?_
  refine g_iload_n (j := 1) C dX6_minutesOf_8 rfl rfl ?_
  refine g_iconst (v := (nI 1)) C dX6_minutesOf_9 (by decide) ?_
  obtain ⟨q_3, hq_4, h⟩ := bind_isome h
  refine g_vi (ws' := (zW cy ad shM E X)) (As := [.int v1, .int (nI 1)]) (rest := [.ref (ad 0), .int q_1]) (res := q_3) C (c_X6_showAt l D cy ad E X v1 (nI 1) hq_4) zml_RX6_89 zcv_X6_showAt (zW_get X sM_0) rfl rfl rfl ⟨Nat.le_of_ble_eq_true rfl, Nat.le_of_ble_eq_true rfl⟩ rfl rfl (Nat.le_of_ble_eq_true rfl) ⟨Nat.zero_le _, Nat.zero_le _⟩ dX6_minutesOf_10 ?_
  refine g_iconst (v := (nI 0)) C dX6_minutesOf_13 (by decide) ?_
  obtain ⟨q_5, hq_6, h⟩ := bind_isome h
  refine g_vi (ws' := (zW cy ad shM E X)) (As := [.int q_3, .int (nI 0)]) (rest := [.int q_1]) (res := q_5) C (c_X6_filmAt l D cy ad E X q_3 (nI 0) hq_6) zml_RX6_81 zcv_X6_filmAt (zW_get X sM_0) rfl rfl rfl ⟨Nat.le_of_ble_eq_true rfl, Nat.le_of_ble_eq_true rfl⟩ rfl rfl (Nat.le_of_ble_eq_true rfl) ⟨Nat.zero_le _, Nat.zero_le _⟩ dX6_minutesOf_14 ?_
  refine g_iadd C dX6_minutesOf_17 ?_
  obtain rfl := Option.some.inj h
  exact g_iret rfl C hr rfl dX6_minutesOf_18
def f_X6_endOf (X : Nat → Nat → Int32) (v1 : Int32) : Option Int32 := ((f_X6_showAt X v1 (nI 3)).bind fun q_1 => ((f_X6_minutesOf X v1).bind fun q_3 => some (q_1 + q_3)))
set_option maxRecDepth 100000 in
set_option maxHeartbeats 4000000 in
theorem c_X6_endOf (l : Launch) (D : va_G) (cy : Nat → ClassId) (ad : Nat → Nat) (E : va_W) (X : Nat → Nat → Int32) (v1 : Int32) {res : Int32} (h : f_X6_endOf X v1 = some res) : zMi l yX6_endOf cX6_endOf 2 (some .int) (zrm 3) D (zTy cy) (zW cy ad shM E X) [.ref (ad 0), .int v1] res (zW cy ad shM E X) := by
  refine zMi.of (by decide) (Nat.le_of_ble_eq_true rfl) ?_
  intro p e s m below meth c A C hr
  unfold f_X6_endOf at h
  refine zG_L (L' := [(0, .ref (ad 0)), (1, .int v1)]) rfl ?_
  refine g_aload_n (j := 0) C dX6_endOf_0 rfl rfl ?_
  refine g_iload_n (j := 1) C dX6_endOf_1 rfl rfl ?_
  refine g_iconst (v := (nI 3)) C dX6_endOf_2 (by decide) ?_
  obtain ⟨q_1, hq_2, h⟩ := bind_isome h
  refine g_vi (ws' := (zW cy ad shM E X)) (As := [.int v1, .int (nI 3)]) (rest := []) (res := q_1) C (c_X6_showAt l D cy ad E X v1 (nI 3) hq_2) zml_RX6_89 zcv_X6_showAt (zW_get X sM_0) rfl rfl rfl ⟨Nat.le_of_ble_eq_true rfl, Nat.le_of_ble_eq_true rfl⟩ rfl rfl (Nat.le_of_ble_eq_true rfl) ⟨Nat.zero_le _, Nat.zero_le _⟩ dX6_endOf_3 ?_
  refine g_aload_n (j := 0) C dX6_endOf_6 rfl rfl ?_
  refine g_iload_n (j := 1) C dX6_endOf_7 rfl rfl ?_
  obtain ⟨q_3, hq_4, h⟩ := bind_isome h
  refine g_vi (ws' := (zW cy ad shM E X)) (As := [.int v1]) (rest := [.int q_1]) (res := q_3) C (c_X6_minutesOf l D cy ad E X v1 hq_4) zml_RX6_92 zcv_X6_minutesOf (zW_get X sM_0) rfl rfl rfl ⟨Nat.le_of_ble_eq_true rfl, Nat.le_of_ble_eq_true rfl⟩ rfl rfl (Nat.le_of_ble_eq_true rfl) ⟨Nat.zero_le _, Nat.zero_le _⟩ dX6_endOf_8 ?_
  refine g_iadd C dX6_endOf_11 ?_
  obtain rfl := Option.some.inj h
  exact g_iret rfl C hr rfl dX6_endOf_12
def f_X6_cleanOf (X : Nat → Nat → Int32) (v1 : Int32) : Option Int32 := ((f_X6_showAt X v1 (nI 0)).bind fun q_1 => ((f_X6_hallAt X q_1 (nI 1)).bind fun q_3 => some q_3))
set_option maxRecDepth 100000 in
set_option maxHeartbeats 4000000 in
theorem c_X6_cleanOf (l : Launch) (D : va_G) (cy : Nat → ClassId) (ad : Nat → Nat) (E : va_W) (X : Nat → Nat → Int32) (v1 : Int32) {res : Int32} (h : f_X6_cleanOf X v1 = some res) : zMi l yX6_cleanOf cX6_cleanOf 2 (some .int) (zrm 2) D (zTy cy) (zW cy ad shM E X) [.ref (ad 0), .int v1] res (zW cy ad shM E X) := by
  refine zMi.of (by decide) (Nat.le_of_ble_eq_true rfl) ?_
  intro p e s m below meth c A C hr
  unfold f_X6_cleanOf at h
  refine zG_L (L' := [(0, .ref (ad 0)), (1, .int v1)]) rfl ?_
  refine g_aload_n (j := 0) C dX6_cleanOf_0 rfl rfl ?_
  refine g_aload_n (j := 0) C dX6_cleanOf_1 rfl rfl ?_
  refine g_iload_n (j := 1) C dX6_cleanOf_2 rfl rfl ?_
  refine g_iconst (v := (nI 0)) C dX6_cleanOf_3 (by decide) ?_
  obtain ⟨q_1, hq_2, h⟩ := bind_isome h
  refine g_vi (ws' := (zW cy ad shM E X)) (As := [.int v1, .int (nI 0)]) (rest := [.ref (ad 0)]) (res := q_1) C (c_X6_showAt l D cy ad E X v1 (nI 0) hq_2) zml_RX6_89 zcv_X6_showAt (zW_get X sM_0) rfl rfl rfl ⟨Nat.le_of_ble_eq_true rfl, Nat.le_of_ble_eq_true rfl⟩ rfl rfl (Nat.le_of_ble_eq_true rfl) ⟨Nat.zero_le _, Nat.zero_le _⟩ dX6_cleanOf_4 ?_
  refine g_iconst (v := (nI 1)) C dX6_cleanOf_7 (by decide) ?_
  obtain ⟨q_3, hq_4, h⟩ := bind_isome h
  refine g_vi (ws' := (zW cy ad shM E X)) (As := [.int q_1, .int (nI 1)]) (rest := []) (res := q_3) C (c_X6_hallAt l D cy ad E X q_1 (nI 1) hq_4) zml_RX6_95 zcv_X6_hallAt (zW_get X sM_0) rfl rfl rfl ⟨Nat.le_of_ble_eq_true rfl, Nat.le_of_ble_eq_true rfl⟩ rfl rfl (Nat.le_of_ble_eq_true rfl) ⟨Nat.zero_le _, Nat.zero_le _⟩ dX6_cleanOf_8 ?_
  obtain rfl := Option.some.inj h
  exact g_iret rfl C hr rfl dX6_cleanOf_11
def f_X6_stands (X : Nat → Nat → Int32) (v1 : Int32) : Option Int32 := ((f_X6_showAt X v1 (nI 8)).bind fun q_1 => (if q_1 = 0 then some (nI 1) else some (nI 0)))
set_option maxRecDepth 100000 in
set_option maxHeartbeats 4000000 in
theorem c_X6_stands (l : Launch) (D : va_G) (cy : Nat → ClassId) (ad : Nat → Nat) (E : va_W) (X : Nat → Nat → Int32) (v1 : Int32) {res : Int32} (h : f_X6_stands X v1 = some res) : zMi l yX6_stands cX6_stands 2 (some .boolean) (zrm 2) D (zTy cy) (zW cy ad shM E X) [.ref (ad 0), .int v1] res (zW cy ad shM E X) := by
  refine zMi.of (by decide) (Nat.le_of_ble_eq_true rfl) ?_
  intro p e s m below meth c A C hr
  unfold f_X6_stands at h
  refine zG_L (L' := [(0, .ref (ad 0)), (1, .int v1)]) rfl ?_
  refine g_aload_n (j := 0) C dX6_stands_0 rfl rfl ?_
  refine g_iload_n (j := 1) C dX6_stands_1 rfl rfl ?_
  refine g_bipush (v := (nI 8)) C dX6_stands_2 (by decide) ?_
  obtain ⟨q_1, hq_2, h⟩ := bind_isome h
  refine g_vi (ws' := (zW cy ad shM E X)) (As := [.int v1, .int (nI 8)]) (rest := []) (res := q_1) C (c_X6_showAt l D cy ad E X v1 (nI 8) hq_2) zml_RX6_89 zcv_X6_showAt (zW_get X sM_0) rfl rfl rfl ⟨Nat.le_of_ble_eq_true rfl, Nat.le_of_ble_eq_true rfl⟩ rfl rfl (Nat.le_of_ble_eq_true rfl) ⟨Nat.zero_le _, Nat.zero_le _⟩ dX6_stands_4 ?_
  refine g_if_ne C dX6_stands_7 (tgt := 14) (by decide) (fun hc_3 => ?_) (fun hc_3 => ?_)
  · replace h := (if_neg hc_3).symm.trans h
    refine g_iconst (v := (nI 0)) C dX6_stands_14 (by decide) ?_
    obtain rfl := Option.some.inj h
    exact g_iret rfl C hr (z_nb (Or.inl rfl)) dX6_stands_15
  · replace h := (if_pos hc_3).symm.trans h
    refine g_iconst (v := (nI 1)) C dX6_stands_10 (by decide) ?_
    refine g_goto C dX6_stands_11 (tgt := 15) (by decide) ?_
    obtain rfl := Option.some.inj h
    exact g_iret rfl C hr (z_nb (Or.inr rfl)) dX6_stands_15
def f_X6_isOver (X : Nat → Nat → Int32) (v1 : Int32) : Option Int32 := ((f_X6_showAt X v1 (nI 2)).bind fun q_1 => (if (X 1 (nI 0).toNatClampNeg) ≤ q_1 then some (nI 0) else some (nI 1)))
set_option maxRecDepth 100000 in
set_option maxHeartbeats 4000000 in
theorem c_X6_isOver (l : Launch) (D : va_G) (cy : Nat → ClassId) (ad : Nat → Nat) (E : va_W) (X : Nat → Nat → Int32) (v1 : Int32) {res : Int32} (h : f_X6_isOver X v1 = some res) : zMi l yX6_isOver cX6_isOver 2 (some .boolean) (zrm 2) D (zTy cy) (zW cy ad shM E X) [.ref (ad 0), .int v1] res (zW cy ad shM E X) := by
  refine zMi.of (by decide) (Nat.le_of_ble_eq_true rfl) ?_
  intro p e s m below meth c A C hr
  unfold f_X6_isOver at h
  refine zG_L (L' := [(0, .ref (ad 0)), (1, .int v1)]) rfl ?_
  refine g_aload_n (j := 0) C dX6_isOver_0 rfl rfl ?_
  refine g_iload_n (j := 1) C dX6_isOver_1 rfl rfl ?_
  refine g_iconst (v := (nI 2)) C dX6_isOver_2 (by decide) ?_
  obtain ⟨q_1, hq_2, h⟩ := bind_isome h
  refine g_vi (ws' := (zW cy ad shM E X)) (As := [.int v1, .int (nI 2)]) (rest := []) (res := q_1) C (c_X6_showAt l D cy ad E X v1 (nI 2) hq_2) zml_RX6_89 zcv_X6_showAt (zW_get X sM_0) rfl rfl rfl ⟨Nat.le_of_ble_eq_true rfl, Nat.le_of_ble_eq_true rfl⟩ rfl rfl (Nat.le_of_ble_eq_true rfl) ⟨Nat.zero_le _, Nat.zero_le _⟩ dX6_isOver_3 ?_
  refine g_aload_n (j := 0) C dX6_isOver_6 rfl rfl ?_
  refine g_getr (k := 1) (N := 27) C sM_0 rfl zin_RX6 (by decide) rfl zfl_RX6_9 rfl dX6_isOver_7 ?_
  refine g_iconst (v := (nI 0)) C dX6_isOver_10 (by decide) ?_
  refine g_iald C sM_1 (by decide) dX6_isOver_11 ?_
  refine g_icmp_ge C dX6_isOver_12 (tgt := 19) (by decide) (fun hc_3 => ?_) (fun hc_3 => ?_)
  · replace h := (if_pos hc_3).symm.trans h
    refine g_iconst (v := (nI 0)) C dX6_isOver_19 (by decide) ?_
    obtain rfl := Option.some.inj h
    exact g_iret rfl C hr (z_nb (Or.inl rfl)) dX6_isOver_20
  · replace h := (if_neg hc_3).symm.trans h
    refine g_iconst (v := (nI 1)) C dX6_isOver_15 (by decide) ?_
    refine g_goto C dX6_isOver_16 (tgt := 20) (by decide) ?_
    obtain rfl := Option.some.inj h
    exact g_iret rfl C hr (z_nb (Or.inr rfl)) dX6_isOver_20
