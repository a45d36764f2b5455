/-! laid by wip/whole/mkparts.py -/
def f_X4_size (X : Nat → Nat → Int32) (r n : Nat) : Int32 := (X r 3)
set_option maxRecDepth 100000 in
set_option maxHeartbeats 4000000 in
theorem c_X4_size (l : Launch) (D : va_G) (cy : Nat → ClassId) (ad : Nat → Nat) (E : va_W) (X : Nat → Nat → Int32) (r n : Nat) (hs_r : shC[r]? = some (.inr (.inr (8, [some (r + 1), none, none, none])))) (hc_r : shC[r + 1]? = some (.inl (0, n))) (hn_r : n < 2 ^ 31) : zMi l yX4_size cX4_size 1 (some .int) (zrm 1) D (zTy cy) (zW cy ad shC E X) [.ref (ad r)] (f_X4_size X r n) (zW cy ad shC E X) := by
  refine zMi.of (by decide) (Nat.le_of_ble_eq_true rfl) ?_
  intro p e s m below meth c A C hr
  generalize h : f_X4_size X r n = res
  unfold f_X4_size at h
  refine zG_L (L' := [(0, .ref (ad r))]) rfl ?_
  refine g_aload_n (j := 0) C dX4_size_0 rfl rfl ?_
  refine g_geti (k := 3) (N := 4) C hs_r rfl zin_RX4 (by decide) rfl zfl_RX4_9 rfl dX4_size_1 ?_
  subst h
  exact g_iret rfl C hr rfl dX4_size_4
def f_X4_isRow (X : Nat → Nat → Int32) (r n : Nat) (v1 : Int32) : Int32 := (if v1 < 0 then (nI 0) else (if (X r 3) ≤ v1 then (nI 0) else (nI 1)))
theorem b_X4_isRow (X : Nat → Nat → Int32) (r n : Nat) (v1 : Int32) : f_X4_isRow X r n v1 = 0 ∨ f_X4_isRow X r n v1 = 1 := by
  unfold f_X4_isRow
  repeat' split
  all_goals first | exact Or.inl rfl | exact Or.inr rfl
set_option maxRecDepth 100000 in
set_option maxHeartbeats 4000000 in
theorem c_X4_isRow (l : Launch) (D : va_G) (cy : Nat → ClassId) (ad : Nat → Nat) (E : va_W) (X : Nat → Nat → Int32) (r n : Nat) (hs_r : shC[r]? = some (.inr (.inr (8, [some (r + 1), none, none, none])))) (hc_r : shC[r + 1]? = some (.inl (0, n))) (hn_r : n < 2 ^ 31) (v1 : Int32) : zMi l yX4_isRow cX4_isRow 2 (some .boolean) (zrm 1) D (zTy cy) (zW cy ad shC E X) [.ref (ad r), .int v1] (f_X4_isRow X r n v1) (zW cy ad shC E X) := by
  refine zMi.of (by decide) (Nat.le_of_ble_eq_true rfl) ?_
  intro p e s m below meth c A C hr
  generalize h : f_X4_isRow X r n v1 = res
  unfold f_X4_isRow at h
  refine zG_L (L' := [(0, .ref (ad r)), (1, .int v1)]) rfl ?_
  refine g_iload_n (j := 1) C dX4_isRow_0 rfl rfl ?_
  refine g_if_lt C dX4_isRow_1 (tgt := 16) (by decide) (fun hc_1 => ?_) (fun hc_1 => ?_)
  · replace h := (if_pos hc_1).symm.trans h
    refine g_iconst (v := (nI 0)) C dX4_isRow_16 (by decide) ?_
    subst h
    exact g_iret rfl C hr (z_nb (Or.inl rfl)) dX4_isRow_17
  · replace h := (if_neg hc_1).symm.trans h
    refine g_iload_n (j := 1) C dX4_isRow_4 rfl rfl ?_
    refine g_aload_n (j := 0) C dX4_isRow_5 rfl rfl ?_
    refine g_geti (k := 3) (N := 4) C hs_r rfl zin_RX4 (by decide) rfl zfl_RX4_9 rfl dX4_isRow_6 ?_
    refine g_icmp_ge C dX4_isRow_9 (tgt := 16) (by decide) (fun hc_2 => ?_) (fun hc_2 => ?_)
    · replace h := (if_pos hc_2).symm.trans h
      refine g_iconst (v := (nI 0)) C dX4_isRow_16 (by decide) ?_
      subst h
      exact g_iret rfl C hr (z_nb (Or.inl rfl)) dX4_isRow_17
    · replace h := (if_neg hc_2).symm.trans h
      refine g_iconst (v := (nI 1)) C dX4_isRow_12 (by decide) ?_
      refine g_goto C dX4_isRow_13 (tgt := 17) (by decide) ?_
      subst h
      exact g_iret rfl C hr (z_nb (Or.inr rfl)) dX4_isRow_17
def f_X4_get (X : Nat → Nat → Int32) (r n : Nat) (v1 v2 : Int32) : Int32 := (if ((v1 * (X r 1)) + v2) < 0 then (nI 0) else (if (nI n) ≤ ((v1 * (X r 1)) + v2) then (nI 0) else (X (r + 1) ((v1 * (X r 1)) + v2).toNatClampNeg)))
set_option maxRecDepth 100000 in
set_option maxHeartbeats 4000000 in
theorem c_X4_get (l : Launch) (D : va_G) (cy : Nat → ClassId) (ad : Nat → Nat) (E : va_W) (X : Nat → Nat → Int32) (r n : Nat) (hs_r : shC[r]? = some (.inr (.inr (8, [some (r + 1), none, none, none])))) (hc_r : shC[r + 1]? = some (.inl (0, n))) (hn_r : n < 2 ^ 31) (v1 v2 : Int32) : zMi l yX4_get cX4_get 4 (some .int) (zrm 1) D (zTy cy) (zW cy ad shC E X) [.ref (ad r), .int v1, .int v2] (f_X4_get X r n v1 v2) (zW cy ad shC E X) := by
  refine zMi.of (by decide) (Nat.le_of_ble_eq_true rfl) ?_
  intro p e s m below meth c A C hr
  generalize h : f_X4_get X r n v1 v2 = res
  unfold f_X4_get at h
  refine zG_L (L' := [(0, .ref (ad r)), (1, .int v1), (2, .int v2)]) rfl ?_
  refine g_iload_n (j := 1) C dX4_get_0 rfl rfl ?_
  refine g_aload_n (j := 0) C dX4_get_1 rfl rfl ?_
  refine g_geti (k := 1) (N := 4) C hs_r rfl zin_RX4 (by decide) rfl zfl_RX4_18 rfl dX4_get_2 ?_
  refine g_imul C dX4_get_5 ?_
  refine g_iload_n (j := 2) C dX4_get_6 rfl rfl ?_
  refine g_iadd C dX4_get_7 ?_
  refine g_istore_n (L' := [(3, .int ((v1 * (X r 1)) + v2)), (0, .ref (ad r)), (1, .int v1), (2, .int v2)]) C dX4_get_8 rfl (by decide) rfl ?_
  refine g_iload_n (j := 0) C dX4_get_9 rfl rfl ?_
  refine g_if_lt C dX4_get_10 (tgt := 31) (by decide) (fun hc_1 => ?_) (fun hc_1 => ?_)
  · replace h := (if_pos hc_1).symm.trans h
    refine g_iconst (v := (nI 0)) C dX4_get_31 (by decide) ?_
    subst h
    exact g_iret rfl C hr rfl dX4_get_32
  · replace h := (if_neg hc_1).symm.trans h
    refine g_iload_n (j := 0) C dX4_get_13 rfl rfl ?_
    refine g_aload_n (j := 1) C dX4_get_14 rfl rfl ?_
    refine g_getr (k := 0) (N := 4) C hs_r rfl zin_RX4 (by decide) rfl zfl_RX4_27 rfl dX4_get_15 ?_
    refine g_alen C hc_r rfl dX4_get_18 ?_
    refine g_icmp_ge C dX4_get_19 (tgt := 31) (by decide) (fun hc_2 => ?_) (fun hc_2 => ?_)
    · replace h := (if_pos hc_2).symm.trans h
      refine g_iconst (v := (nI 0)) C dX4_get_31 (by decide) ?_
      subst h
      exact g_iret rfl C hr rfl dX4_get_32
    · replace h := (if_neg hc_2).symm.trans h
      refine g_aload_n (j := 1) C dX4_get_22 rfl rfl ?_
      refine g_getr (k := 0) (N := 4) C hs_r rfl zin_RX4 (by decide) rfl zfl_RX4_27 rfl dX4_get_23 ?_
      refine g_iload_n (j := 0) C dX4_get_26 rfl rfl ?_
      refine g_iald C hc_r (z_in hn_r hc_1 hc_2) dX4_get_27 ?_
      refine g_goto C dX4_get_28 (tgt := 32) (by decide) ?_
      subst h
      exact g_iret rfl C hr rfl dX4_get_32
def f_X4_put (X : Nat → Nat → Int32) (r n : Nat) (v1 v2 v3 : Int32) : (Nat → Nat → Int32) := (if ((v1 * (X r 1)) + v2) < 0 then X else (if (nI n) ≤ ((v1 * (X r 1)) + v2) then X else (zlet (zU X (r + 1) ((v1 * (X r 1)) + v2).toNatClampNeg v3) fun X_3 => X_3)))
set_option maxRecDepth 100000 in
set_option maxHeartbeats 4000000 in
theorem c_X4_put (l : Launch) (D : va_G) (cy : Nat → ClassId) (ad : Nat → Nat) (E : va_W) (X : Nat → Nat → Int32) (r n : Nat) (hs_r : shC[r]? = some (.inr (.inr (8, [some (r + 1), none, none, none])))) (hc_r : shC[r + 1]? = some (.inl (0, n))) (hn_r : n < 2 ^ 31) (v1 v2 v3 : Int32) : zMv l yX4_put cX4_put 5 none (zrm 1) D (zTy cy) (zW cy ad shC E X) [.ref (ad r), .int v1, .int v2, .int v3] (zW cy ad shC E (f_X4_put X r n v1 v2 v3)) := by
  refine zMv.of (by decide) (Nat.le_of_ble_eq_true rfl) ?_
  intro p e s m below meth c A C hr
  generalize h : f_X4_put X r n v1 v2 v3 = res
  unfold f_X4_put at h
  refine zG_L (L' := [(0, .ref (ad r)), (1, .int v1), (2, .int v2), (3, .int v3)]) rfl ?_
  refine g_iload_n (j := 1) C dX4_put_0 rfl rfl ?_
  refine g_aload_n (j := 0) C dX4_put_1 rfl rfl ?_
  refine g_geti (k := 1) (N := 4) C hs_r rfl zin_RX4 (by decide) rfl zfl_RX4_18 rfl dX4_put_2 ?_
  refine g_imul C dX4_put_5 ?_
  refine g_iload_n (j := 2) C dX4_put_6 rfl rfl ?_
  refine g_iadd C dX4_put_7 ?_
  refine g_istore (L' := [(4, .int ((v1 * (X r 1)) + v2)), (0, .ref (ad r)), (1, .int v1), (2, .int v2), (3, .int v3)]) C dX4_put_8 (by decide) rfl ?_
  refine g_iload (j := 0) C dX4_put_10 rfl ?_
  refine g_if_lt C dX4_put_12 (tgt := 33) (by decide) (fun hc_1 => ?_) (fun hc_1 => ?_)
  · replace h := (if_pos hc_1).symm.trans h
    subst h
    exact g_vret rfl C hr dX4_put_33
  · replace h := (if_neg hc_1).symm.trans h
    refine g_iload (j := 0) C dX4_put_15 rfl ?_
    refine g_aload_n (j := 1) C dX4_put_17 rfl rfl ?_
    refine g_getr (k := 0) (N := 4) C hs_r rfl zin_RX4 (by decide) rfl zfl_RX4_27 rfl dX4_put_18 ?_
    refine g_alen C hc_r rfl dX4_put_21 ?_
    refine g_icmp_ge C dX4_put_22 (tgt := 33) (by decide) (fun hc_2 => ?_) (fun hc_2 => ?_)
    · replace h := (if_pos hc_2).symm.trans h
      subst h
      exact g_vret rfl C hr dX4_put_33
    · replace h := (if_neg hc_2).symm.trans h
      refine g_aload_n (j := 1) C dX4_put_25 rfl rfl ?_
      refine g_getr (k := 0) (N := 4) C hs_r rfl zin_RX4 (by decide) rfl zfl_RX4_27 rfl dX4_put_26 ?_
      refine g_iload (j := 0) C dX4_put_29 rfl ?_
      refine g_iload_n (j := 4) C dX4_put_31 rfl rfl ?_
      refine g_iast C hc_r (z_in hn_r hc_1 hc_2) dX4_put_32 ?_
      obtain ⟨X_3, e_4, h⟩ := zlet_ex h
      rw [← e_4]
      subst h
      exact g_vret rfl C hr dX4_put_33
def f_X4_addRow_L27 (k : (Nat → Nat → Int32) → Option (Int32 × (Nat → Nat → Int32))) (r n : Nat) (v1 : Int32) (v2 : Int32) : Nat → (Nat → Nat → Int32) → Int32 → Option (Int32 × (Nat → Nat → Int32))
  | 0, _, _ => none
  | fu + 1, X, v3 => (if v3 < 0 then k X else (if (v2 + (X r 1)) ≤ v3 then k X else (if (nI n) ≤ v3 then k X else (zlet (zU X (r + 1) v3.toNatClampNeg (nI 0)) fun X_1005 => f_X4_addRow_L27 k r n v1 v2 fu X_1005 (v3 + 1)))))
set_option maxRecDepth 100000 in
set_option maxHeartbeats 4000000 in
theorem w_X4_addRow_L27 {p : Program} {e : Env} {s : State} {m : MethodId} {args : Array Value} {below : List Frame} {meth : Method} {c : Code} {A : Nat → Prop} (l : Launch) (D : va_G) (cy : Nat → ClassId) (ad : Nat → Nat) (E : va_W) (k : (Nat → Nat → Int32) → Option (Int32 × (Nat → Nat → Int32))) (r n : Nat) (hs_r : shC[r]? = some (.inr (.inr (8, [some (r + 1), none, none, none])))) (hc_r : shC[r + 1]? = some (.inl (0, n))) (hn_r : n < 2 ^ 31) (v1 : Int32) (v2 : Int32) {res : Int32 × (Nat → Nat → Int32)} (C : zC p s m args meth c cX4_addRow 4 RX4 D (zTy cy) A) (hr : meth.sig.returnType = (some .int)) : ∀ (fu : Nat) (X : Nat → Nat → Int32) (v3 : Int32) (h : f_X4_addRow_L27 k r n v1 v2 fu X v3 = some res) (hk : ∀ (X : Nat → Nat → Int32), k X = some res → zG p l e (zrm 1) s m args below meth c 4 D A 0 0 (MQ below (va_Qi (fun (r : Int32) (_ : Unit) => r = res.1) (fun _ t => zB D (zTy cy) A (zW cy ad shC E res.2) t) A) args s 0 0 A) (zW cy ad shC E X) 63 [(0, .ref (ad r)), (1, .int v1)] []), zG p l e (zrm 1) s m args below meth c 4 D A 0 0 (MQ below (va_Qi (fun (r : Int32) (_ : Unit) => r = res.1) (fun _ t => zB D (zTy cy) A (zW cy ad shC E res.2) t) A) args s 0 0 A) (zW cy ad shC E X) 27 [(0, .ref (ad r)), (1, .int v1), (2, .int v2), (3, .int v3)] [] := by
  intro fu
  induction fu with
  | zero => intro X v3 h hk; simp [f_X4_addRow_L27] at h
  | succ fu ih =>
    intro X v3 h hk
    rw [f_X4_addRow_L27] at h
    refine g_iload_n (j := 3) C dX4_addRow_27 rfl rfl ?_
    refine g_if_lt C dX4_addRow_28 (tgt := 63) (by decide) (fun hc_1002 => ?_) (fun hc_1002 => ?_)
    · replace h := (if_pos hc_1002).symm.trans h
      refine zG_sub (L' := [(0, .ref (ad r)), (1, .int v1)]) [0, 1] rfl ?_
      exact hk X h
    · replace h := (if_neg hc_1002).symm.trans h
      refine g_iload_n (j := 3) C dX4_addRow_31 rfl rfl ?_
      refine g_iload_n (j := 2) C dX4_addRow_32 rfl rfl ?_
      refine g_aload_n (j := 0) C dX4_addRow_33 rfl rfl ?_
      refine g_geti (k := 1) (N := 4) C hs_r rfl zin_RX4 (by decide) rfl zfl_RX4_18 rfl dX4_addRow_34 ?_
      refine g_iadd C dX4_addRow_37 ?_
      refine g_icmp_ge C dX4_addRow_38 (tgt := 63) (by decide) (fun hc_1003 => ?_) (fun hc_1003 => ?_)
      · replace h := (if_pos hc_1003).symm.trans h
        refine zG_sub (L' := [(0, .ref (ad r)), (1, .int v1)]) [0, 1] rfl ?_
        exact hk X h
      · replace h := (if_neg hc_1003).symm.trans h
        refine g_iload_n (j := 3) C dX4_addRow_41 rfl rfl ?_
        refine g_aload_n (j := 0) C dX4_addRow_42 rfl rfl ?_
        refine g_getr (k := 0) (N := 4) C hs_r rfl zin_RX4 (by decide) rfl zfl_RX4_27 rfl dX4_addRow_43 ?_
        refine g_alen C hc_r rfl dX4_addRow_46 ?_
        refine g_icmp_ge C dX4_addRow_47 (tgt := 63) (by decide) (fun hc_1004 => ?_) (fun hc_1004 => ?_)
        · replace h := (if_pos hc_1004).symm.trans h
          refine zG_sub (L' := [(0, .ref (ad r)), (1, .int v1)]) [0, 1] rfl ?_
          exact hk X h
        · replace h := (if_neg hc_1004).symm.trans h
          refine g_aload_n (j := 0) C dX4_addRow_50 rfl rfl ?_
          refine g_getr (k := 0) (N := 4) C hs_r rfl zin_RX4 (by decide) rfl zfl_RX4_27 rfl dX4_addRow_51 ?_
          refine g_iload_n (j := 3) C dX4_addRow_54 rfl rfl ?_
          refine g_iconst (v := (nI 0)) C dX4_addRow_55 (by decide) ?_
          refine g_iast C hc_r (z_in hn_r hc_1002 hc_1004) dX4_addRow_56 ?_
          obtain ⟨X_1005, e_1006, h⟩ := zlet_ex h
          rw [← e_1006]
          refine g_iinc (k := 3) (L' := [(3, .int (v3 + 1)), (0, .ref (ad r)), (1, .int v1), (2, .int v2)]) C dX4_addRow_57 rfl (z_iinc (by decide)) (by decide) rfl ?_
          refine g_goto C dX4_addRow_60 (tgt := 27) (by decide) ?_
          refine zG_sub (L' := [(0, .ref (ad r)), (1, .int v1), (2, .int v2), (3, .int (v3 + 1))]) [1, 2, 3, 0] rfl ?_
          exact ih X_1005 (v3 + 1) h hk
def f_X4_addRow (X : Nat → Nat → Int32) (r n : Nat) : Option (Int32 × (Nat → Nat → Int32)) := (if (X r 3) < (X r 2) then f_X4_addRow_L27 (fun X_1007 => (zlet (zU X_1007 r 3 ((X_1007 r 3) + (nI 1))) fun X_1008 => some ((X r 3), X_1008))) r n (X r 3) ((X r 3) * (X r 1)) zFuel X ((X r 3) * (X r 1)) else some ((-1 : Int32), X))
set_option maxRecDepth 100000 in
set_option maxHeartbeats 4000000 in
theorem c_X4_addRow (l : Launch) (D : va_G) (cy : Nat → ClassId) (ad : Nat → Nat) (E : va_W) (X : Nat → Nat → Int32) (r n : Nat) (hs_r : shC[r]? = some (.inr (.inr (8, [some (r + 1), none, none, none])))) (hc_r : shC[r + 1]? = some (.inl (0, n))) (hn_r : n < 2 ^ 31) {res : Int32 × (Nat → Nat → Int32)} (h : f_X4_addRow X r n = some res) : zMi l yX4_addRow cX4_addRow 4 (some .int) (zrm 1) D (zTy cy) (zW cy ad shC E X) [.ref (ad r)] res.1 (zW cy ad shC E res.2) := by
  refine zMi.of (by decide) (Nat.le_of_ble_eq_true rfl) ?_
  intro p e s m below meth c A C hr
  unfold f_X4_addRow at h
  refine zG_L (L' := [(0, .ref (ad r))]) rfl ?_
  refine g_aload_n (j := 0) C dX4_addRow_0 rfl rfl ?_
  refine g_geti (k := 3) (N := 4) C hs_r rfl zin_RX4 (by decide) rfl zfl_RX4_9 rfl dX4_addRow_1 ?_
  refine g_aload_n (j := 0) C dX4_addRow_4 rfl rfl ?_
  refine g_geti (k := 2) (N := 4) C hs_r rfl zin_RX4 (by decide) rfl zfl_RX4_15 rfl dX4_addRow_5 ?_
  refine g_icmp_lt C dX4_addRow_8 (tgt := 13) (by decide) (fun hc_1 => ?_) (fun hc_1 => ?_)
  · replace h := (if_pos hc_1).symm.trans h
    refine g_aload_n (j := 0) C dX4_addRow_13 rfl rfl ?_
    refine g_geti (k := 3) (N := 4) C hs_r rfl zin_RX4 (by decide) rfl zfl_RX4_9 rfl dX4_addRow_14 ?_
    refine g_istore_n (L' := [(1, .int (X r 3)), (0, .ref (ad r))]) C dX4_addRow_17 rfl (by decide) rfl ?_
    refine g_iload_n (j := 0) C dX4_addRow_18 rfl rfl ?_
    refine g_aload_n (j := 1) C dX4_addRow_19 rfl rfl ?_
    refine g_geti (k := 1) (N := 4) C hs_r rfl zin_RX4 (by decide) rfl zfl_RX4_18 rfl dX4_addRow_20 ?_
    refine g_imul C dX4_addRow_23 ?_
    refine g_istore_n (L' := [(2, .int ((X r 3) * (X r 1))), (1, .int (X r 3)), (0, .ref (ad r))]) C dX4_addRow_24 rfl (by decide) rfl ?_
    refine g_iload_n (j := 0) C dX4_addRow_25 rfl rfl ?_
    refine g_istore_n (L' := [(3, .int ((X r 3) * (X r 1))), (2, .int ((X r 3) * (X r 1))), (1, .int (X r 3)), (0, .ref (ad r))]) C dX4_addRow_26 rfl (by decide) rfl ?_
    refine zG_sub (L' := [(0, .ref (ad r)), (1, .int (X r 3)), (2, .int ((X r 3) * (X r 1))), (3, .int ((X r 3) * (X r 1)))]) [3, 2, 1, 0] rfl ?_
    refine w_X4_addRow_L27 l D cy ad E _ r n hs_r hc_r hn_r (X r 3) ((X r 3) * (X r 1)) C hr zFuel X ((X r 3) * (X r 1)) h ?_
    intro X_1007 h
    refine g_aload_n (j := 0) C dX4_addRow_63 rfl rfl ?_
    refine g_dup C dX4_addRow_64 rfl ?_
    refine g_geti (k := 3) (N := 4) C hs_r rfl zin_RX4 (by decide) rfl zfl_RX4_9 rfl dX4_addRow_65 ?_
    refine g_iconst (v := (nI 1)) C dX4_addRow_68 (by decide) ?_
    refine g_iadd C dX4_addRow_69 ?_
    refine g_puti (k := 3) (N := 4) (ty := .int) C hs_r rfl zin_RX4 (by decide) rfl zfl_RX4_9 rfl tyX4_ok nmX4 rfl (by decide +kernel) rfl rfl dX4_addRow_70 ?_
    obtain ⟨X_1008, e_1009, h⟩ := zlet_ex h
    rw [← e_1009]
    refine g_iload_n (j := 1) C dX4_addRow_73 rfl rfl ?_
    obtain rfl := Option.some.inj h
    exact g_iret rfl C hr rfl dX4_addRow_74
  · replace h := (if_neg hc_1).symm.trans h
    refine g_iconst (v := (-1 : Int32)) C dX4_addRow_11 (by decide) ?_
    obtain rfl := Option.some.inj h
    exact g_iret rfl C hr rfl dX4_addRow_12
def f_X4_clear (X : Nat → Nat → Int32) (r n : Nat) : (Nat → Nat → Int32) := (zlet (zU X r 3 (nI 0)) fun X_1 => X_1)
set_option maxRecDepth 100000 in
set_option maxHeartbeats 4000000 in
theorem c_X4_clear (l : Launch) (D : va_G) (cy : Nat → ClassId) (ad : Nat → Nat) (E : va_W) (X : Nat → Nat → Int32) (r n : Nat) (hs_r : shC[r]? = some (.inr (.inr (8, [some (r + 1), none, none, none])))) (hc_r : shC[r + 1]? = some (.inl (0, n))) (hn_r : n < 2 ^ 31) : zMv l yX4_clear cX4_clear 1 none (zrm 1) D (zTy cy) (zW cy ad shC E X) [.ref (ad r)] (zW cy ad shC E (f_X4_clear X r n)) := by
  refine zMv.of (by decide) (Nat.le_of_ble_eq_true rfl) ?_
  intro p e s m below meth c A C hr
  generalize h : f_X4_clear X r n = res
  unfold f_X4_clear at h
  refine zG_L (L' := [(0, .ref (ad r))]) rfl ?_
  refine g_aload_n (j := 0) C dX4_clear_0 rfl rfl ?_
  refine g_iconst (v := (nI 0)) C dX4_clear_1 (by decide) ?_
  refine g_puti (k := 3) (N := 4) (ty := .int) C hs_r rfl zin_RX4 (by decide) rfl zfl_RX4_9 rfl tyX4_ok nmX4 rfl (by decide +kernel) rfl rfl dX4_clear_2 ?_
  obtain ⟨X_1, e_2, h⟩ := zlet_ex h
  rw [← e_2]
  subst h
  exact g_vret rfl C hr dX4_clear_5
def f_X4_copyFrom (X : Nat → Nat → Int32) (r n : Nat) (r2 n2 : Nat) : (Nat → Nat → Int32) := (zlet (zU X r 3 (X r2 3)) fun X_1 => (zlet (zR X_1 (r + 1) (va_cpy (X_1 (r2 + 1)) (X_1 (r + 1)) (nI 0).toNatClampNeg (nI 0).toNatClampNeg (if (nI n2) < (nI n) then (nI n2) else (nI n)).toNatClampNeg)) fun X_3 => X_3))
set_option maxRecDepth 100000 in
set_option maxHeartbeats 4000000 in
theorem c_X4_copyFrom (l : Launch) (D : va_G) (cy : Nat → ClassId) (ad : Nat → Nat) (E : va_W) (X : Nat → Nat → Int32) (r n : Nat) (r2 n2 : Nat) (hs_r : shC[r]? = some (.inr (.inr (8, [some (r + 1), none, none, none])))) (hc_r : shC[r + 1]? = some (.inl (0, n))) (hn_r : n < 2 ^ 31) (hs_r2 : shC[r2]? = some (.inr (.inr (8, [some (r2 + 1), none, none, none])))) (hc_r2 : shC[r2 + 1]? = some (.inl (0, n2))) (hn_r2 : n2 < 2 ^ 31) : zMv l yX4_copyFrom cX4_copyFrom 2 none (zrm 1) D (zTy cy) (zW cy ad shC E X) [.ref (ad r), .ref (ad r2)] (zW cy ad shC E (f_X4_copyFrom X r n r2 n2)) := by
  refine zMv.of (by decide) (Nat.le_of_ble_eq_true rfl) ?_
  intro p e s m below meth c A C hr
  generalize h : f_X4_copyFrom X r n r2 n2 = res
  unfold f_X4_copyFrom at h
  refine zG_L (L' := [(0, .ref (ad r)), (1, .ref (ad r2))]) rfl ?_
  refine g_aload_n (j := 0) C dX4_copyFrom_0 rfl rfl ?_
  refine g_aload_n (j := 1) C dX4_copyFrom_1 rfl rfl ?_
  refine g_geti (k := 3) (N := 4) C hs_r2 rfl zin_RX4 (by decide) rfl zfl_RX4_9 rfl dX4_copyFrom_2 ?_
  refine g_puti (k := 3) (N := 4) (ty := .int) C hs_r rfl zin_RX4 (by decide) rfl zfl_RX4_9 rfl tyX4_ok nmX4 rfl (by decide +kernel) rfl rfl dX4_copyFrom_5 ?_
  obtain ⟨X_1, e_2, h⟩ := zlet_ex h
  rw [← e_2]
  refine g_aload_n (j := 1) C dX4_copyFrom_8 rfl rfl ?_
  refine g_getr (k := 0) (N := 4) C hs_r2 rfl zin_RX4 (by decide) rfl zfl_RX4_27 rfl dX4_copyFrom_9 ?_
  refine g_iconst (v := (nI 0)) C dX4_copyFrom_12 (by decide) ?_
  refine g_aload_n (j := 0) C dX4_copyFrom_13 rfl rfl ?_
  refine g_getr (k := 0) (N := 4) C hs_r rfl zin_RX4 (by decide) rfl zfl_RX4_27 rfl dX4_copyFrom_14 ?_
  refine g_iconst (v := (nI 0)) C dX4_copyFrom_17 (by decide) ?_
  refine g_aload_n (j := 0) C dX4_copyFrom_18 rfl rfl ?_
  refine g_getr (k := 0) (N := 4) C hs_r rfl zin_RX4 (by decide) rfl zfl_RX4_27 rfl dX4_copyFrom_19 ?_
  refine g_alen C hc_r rfl dX4_copyFrom_22 ?_
  refine g_aload_n (j := 1) C dX4_copyFrom_23 rfl rfl ?_
  refine g_getr (k := 0) (N := 4) C hs_r2 rfl zin_RX4 (by decide) rfl zfl_RX4_27 rfl dX4_copyFrom_24 ?_
  refine g_alen C hc_r2 rfl dX4_copyFrom_27 ?_
  refine g_mmin C zml_RX4_31 (Nat.le_of_ble_eq_true rfl) (Nat.le_of_ble_eq_true rfl) (Nat.le_of_ble_eq_true rfl) (Nat.le_of_ble_eq_true rfl) dX4_copyFrom_28 ?_
  refine g_copyi C hc_r2 hc_r zml_RX4_34 (by decide) (by decide) (z_min_nn hn_r hn_r2) (z_min_le2 hn_r hn_r2) (z_min_le1 hn_r hn_r2) (Nat.le_of_ble_eq_true rfl) (Nat.le_of_ble_eq_true rfl) dX4_copyFrom_31 ?_
  obtain ⟨X_3, e_4, h⟩ := zlet_ex h
  rw [← e_4]
  subst h
  exact g_vret rfl C hr dX4_copyFrom_34
