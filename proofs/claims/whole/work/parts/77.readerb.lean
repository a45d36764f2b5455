/-! THE READER (laid by wip/whole/mkreader.py) -/
def f_X1_isDigit (v0 : Int32) : Int32 := (if v0 < (nI 48) then (nI 0) else (if (nI 57) < v0 then (nI 0) else (nI 1)))
theorem b_X1_isDigit (v0 : Int32) : f_X1_isDigit v0 = 0 ∨ f_X1_isDigit v0 = 1 := by
  unfold f_X1_isDigit
  repeat' split
  all_goals first | exact Or.inl rfl | exact Or.inr rfl
set_option maxRecDepth 100000 in
set_option maxHeartbeats 4000000 in
theorem c_X1_isDigit (l : Launch) (D : va_G) (cy : Nat → ClassId) (ws : va_W) (v0 : Int32) : zMi l yX1_isDigit cX1_isDigit 1 (some .boolean) (zrm 1) D (zTy cy) ws [.int v0] (f_X1_isDigit v0) ws := by
  refine zMi.of (by decide) (Nat.le_of_ble_eq_true rfl) ?_
  intro p e s m below meth c A C hr
  generalize h : f_X1_isDigit v0 = res
  unfold f_X1_isDigit at h
  refine zG_L (L' := [(0, .int v0)]) rfl ?_
  refine g_iload_n (j := 0) C dX1_isDigit_0 rfl rfl ?_
  refine g_bipush (v := (nI 48)) C dX1_isDigit_1 (by decide) ?_
  refine g_icmp_lt C dX1_isDigit_3 (tgt := 16) (by decide) (fun hc_1 => ?_) (fun hc_1 => ?_)
  · replace h := (if_pos hc_1).symm.trans h
    refine g_iconst (v := (nI 0)) C dX1_isDigit_16 (by decide) ?_
    subst h
    exact g_iret rfl C hr (z_nb (Or.inl rfl)) dX1_isDigit_17
  · replace h := (if_neg hc_1).symm.trans h
    refine g_iload_n (j := 0) C dX1_isDigit_6 rfl rfl ?_
    refine g_bipush (v := (nI 57)) C dX1_isDigit_7 (by decide) ?_
    refine g_icmp_gt C dX1_isDigit_9 (tgt := 16) (by decide) (fun hc_2 => ?_) (fun hc_2 => ?_)
    · replace h := (if_pos hc_2).symm.trans h
      refine g_iconst (v := (nI 0)) C dX1_isDigit_16 (by decide) ?_
      subst h
      exact g_iret rfl C hr (z_nb (Or.inl rfl)) dX1_isDigit_17
    · replace h := (if_neg hc_2).symm.trans h
      refine g_iconst (v := (nI 1)) C dX1_isDigit_12 (by decide) ?_
      refine g_goto C dX1_isDigit_13 (tgt := 17) (by decide) ?_
      subst h
      exact g_iret rfl C hr (z_nb (Or.inr rfl)) dX1_isDigit_17
def f_X1_isSignRead (kT : Nat) (fT : Nat → Int32) (X : Nat → Nat → Int32) (v2 : Int32) : Int32 × (Nat → Nat → Int32) := (if (f_X1_signAt kT fT (X 149 1)) = v2 then (zlet (zU X 149 1 ((X 149 1) + (nI 1))) fun X_2 => ((nI 1), X_2)) else ((nI 0), X))
theorem b_X1_isSignRead (kT : Nat) (fT : Nat → Int32) (X : Nat → Nat → Int32) (v2 : Int32) : (f_X1_isSignRead kT fT X v2).1 = 0 ∨ (f_X1_isSignRead kT fT X v2).1 = 1 := by
  unfold f_X1_isSignRead
  repeat' split
  all_goals first | exact Or.inl rfl | exact Or.inr rfl
set_option maxRecDepth 100000 in
set_option maxHeartbeats 4000000 in
theorem c_X1_isSignRead (l : Launch) (D : va_G) (cy : Nat → ClassId) (vT nT : Nat) (zT : Int32) (kT : Nat) (fT : Nat → Int32) (hkT : kT ≤ nT) (hnT : nT < 2 ^ 31) (ad : Nat → Nat) (E : va_W) (X : Nat → Nat → Int32) (v2 : Int32) : zMt l yX1_isSignRead cX1_isSignRead 4 (some .boolean) (zrm 6) D (zTy cy) zEr (zW cy ad shC (tB cy (ad 152) vT nT zT kT fT ++ E) X) [.ref (ad 149), .ref (ad 152), .int v2] 0 0 (tI D (zTy cy) (fun r w => r = (f_X1_isSignRead kT fT X v2).1 ∧ w = (zW cy ad shC (tB cy (ad 152) vT nT zT kT fT ++ E) (f_X1_isSignRead kT fT X v2).2))) := by
  refine zMt.of (by decide) (Nat.le_of_ble_eq_true rfl) ?_
  intro p e s m below meth c A C hr hE
  generalize h : f_X1_isSignRead kT fT X v2 = res
  unfold f_X1_isSignRead at h
  refine zG_L (L' := [(0, .ref (ad 149)), (1, .ref (ad 152)), (2, .int v2)]) rfl ?_
  refine g_aload_n (j := 1) C dX1_isSignRead_0 rfl rfl ?_
  refine g_aload_n (j := 0) C dX1_isSignRead_1 rfl rfl ?_
  refine g_geti (k := 1) (N := 2) C sC_149 rfl zin_RX1 (by decide) rfl zfl_RX1_20 rfl dX1_isSignRead_2 ?_
  refine t_Si (As := [.ref (ad 152), .int (X 149 1)]) (rest := []) zEr_ge hE C (c_X1_signAt l D cy vT nT zT kT fT hkT hnT ad E X (X 149 1)) zml_RX1_45 zcs_X1_signAt rfl rfl ⟨Nat.le_of_ble_eq_true rfl, Nat.le_of_ble_eq_true rfl⟩ rfl rfl (Nat.le_of_ble_eq_true rfl) ⟨Nat.zero_le _, Nat.zero_le _⟩ dX1_isSignRead_5 ?_
  intro r w h9
  obtain ⟨h9a, rfl⟩ := h9
  subst r
  refine g_iload_n (j := 2) C dX1_isSignRead_8 rfl rfl ?_
  refine g_icmp_ne C dX1_isSignRead_9 (tgt := 16) (by decide) (fun hc_1 => ?_) (fun hc_1 => ?_)
  · replace h := (if_neg hc_1).symm.trans h
    refine g_iconst (v := (nI 0)) C dX1_isSignRead_16 (by decide) ?_
    refine g_istore_n (L' := [(3, .int (nI 0)), (0, .ref (ad 149)), (1, .ref (ad 152)), (2, .int v2)]) C dX1_isSignRead_17 rfl (by decide) rfl ?_
    refine g_iload_n (j := 0) C dX1_isSignRead_18 rfl rfl ?_
    refine g_if_eq C dX1_isSignRead_19 (tgt := 32) (by decide) (fun _ => ?_) (fun h9 => absurd h9 (by decide))
    refine g_iload_n (j := 0) C dX1_isSignRead_32 rfl rfl ?_
    subst h
    exact t_iret C hr (z_nb (Or.inl rfl)) ⟨rfl, rfl⟩ (Nat.le_refl _) (Nat.le_refl _) dX1_isSignRead_33
  · replace h := (if_pos hc_1).symm.trans h
    refine g_iconst (v := (nI 1)) C dX1_isSignRead_12 (by decide) ?_
    refine g_goto C dX1_isSignRead_13 (tgt := 17) (by decide) ?_
    refine g_istore_n (L' := [(3, .int (nI 1)), (0, .ref (ad 149)), (1, .ref (ad 152)), (2, .int v2)]) C dX1_isSignRead_17 rfl (by decide) rfl ?_
    refine g_iload_n (j := 0) C dX1_isSignRead_18 rfl rfl ?_
    refine g_if_eq C dX1_isSignRead_19 (tgt := 32) (by decide) (fun h9 => absurd h9 (by decide)) (fun _ => ?_)
    refine g_aload_n (j := 1) C dX1_isSignRead_22 rfl rfl ?_
    refine g_dup C dX1_isSignRead_23 rfl ?_
    refine g_geti (k := 1) (N := 2) C sC_149 rfl zin_RX1 (by decide) rfl zfl_RX1_20 rfl dX1_isSignRead_24 ?_
    refine g_iconst (v := (nI 1)) C dX1_isSignRead_27 (by decide) ?_
    refine g_iadd C dX1_isSignRead_28 ?_
    refine g_puti (k := 1) (N := 2) (ty := .int) C sC_149 rfl zin_RX1 (by decide) rfl zfl_RX1_20 rfl tyX1_ok nmX1 rfl (by decide +kernel) rfl rfl dX1_isSignRead_29 ?_
    obtain ⟨X_2, e_3, h⟩ := zlet_ex h
    rw [← e_3]
    refine g_iload_n (j := 0) C dX1_isSignRead_32 rfl rfl ?_
    subst h
    exact t_iret C hr (z_nb (Or.inr rfl)) ⟨rfl, rfl⟩ (Nat.le_refl _) (Nat.le_refl _) dX1_isSignRead_33
def f_X1_rightLetters_L2 (kT : Nat) (fT : Nat → Int32) (X : Nat → Nat → Int32) (v2 : Int32) : Nat → Int32 → Option Int32
  | 0, _ => none
  | fu + 1, v3 => (if (nI 4) ≤ v3 then some (nI 4) else (if ((v2 * (nI 4)) + v3) < 0 then some v3 else (if (nI 20) ≤ ((v2 * (nI 4)) + v3) then some v3 else (if (f_X1_signAt kT fT ((X 149 1) + v3)) = (zChr zWords ((v2 * (nI 4)) + v3)) then f_X1_rightLetters_L2 kT fT X v2 fu (v3 + 1) else some v3))))
set_option maxRecDepth 100000 in
set_option maxHeartbeats 4000000 in
theorem w_X1_rightLetters_L2 {p : Program} {e : Env} {s : State} {m : MethodId} {args : Array Value} {below : List Frame} {meth : Method} {c : Code} {A : Nat → Prop} (l : Launch) (D : va_G) (cy : Nat → ClassId) (vT nT : Nat) (zT : Int32) (kT : Nat) (fT : Nat → Int32) (hkT : kT ≤ nT) (hnT : nT < 2 ^ 31) (ad : Nat → Nat) (E : va_W) (X : Nat → Nat → Int32) (v2 : Int32) {res : Int32} (C : zC p s m args meth c cX1_rightLetters 6 RX1 D (zTy cy) A) (hE : zEr A s s.heap) (hr : meth.sig.returnType = (some .int)) : ∀ (fu : Nat) (v3 : Int32) (h : f_X1_rightLetters_L2 kT fT X v2 fu v3 = some res), zG p l e (zrm 6) s m args below meth c 6 D A 0 0 (MQ below (tI D (zTy cy) (fun r w => r = res ∧ w = (zW cy ad shC (tB cy (ad 152) vT nT zT kT fT ++ E) X)) A) args s 0 0 A) (zW cy ad shC (tB cy (ad 152) vT nT zT kT fT ++ E) X) 2 [(0, .ref (ad 149)), (1, .ref (ad 152)), (2, .int v2), (3, .int v3)] [] := by
  intro fu
  induction fu with
  | zero => intro v3 h; simp [f_X1_rightLetters_L2] at h
  | succ fu ih =>
    intro v3 h
    rw [f_X1_rightLetters_L2] at h
    refine g_iload_n (j := 3) C dX1_rightLetters_2 rfl rfl ?_
    refine g_iconst (v := (nI 4)) C dX1_rightLetters_3 (by decide) ?_
    refine g_icmp_ge C dX1_rightLetters_4 (tgt := 69) (by decide) (fun hc_1001 => ?_) (fun hc_1001 => ?_)
    · replace h := (if_pos hc_1001).symm.trans h
      refine g_iconst (v := (nI 4)) C dX1_rightLetters_69 (by decide) ?_
      obtain rfl := Option.some.inj h
      exact t_iret C hr rfl ⟨rfl, rfl⟩ (Nat.le_refl _) (Nat.le_refl _) dX1_rightLetters_70
    · replace h := (if_neg hc_1001).symm.trans h
      refine g_iload_n (j := 2) C dX1_rightLetters_7 rfl rfl ?_
      refine g_iconst (v := (nI 4)) C dX1_rightLetters_8 (by decide) ?_
      refine g_imul C dX1_rightLetters_9 ?_
      refine g_iload_n (j := 3) C dX1_rightLetters_10 rfl rfl ?_
      refine g_iadd C dX1_rightLetters_11 ?_
      refine g_istore (L' := [(4, .int ((v2 * (nI 4)) + v3)), (0, .ref (ad 149)), (1, .ref (ad 152)), (2, .int v2), (3, .int v3)]) C dX1_rightLetters_12 (by decide) rfl ?_
      refine g_iload (j := 0) C dX1_rightLetters_14 rfl ?_
      refine g_if_lt C dX1_rightLetters_16 (tgt := 53) (by decide) (fun hc_1002 => ?_) (fun hc_1002 => ?_)
      · replace h := (if_pos hc_1002).symm.trans h
        refine g_iconst (v := (nI 0)) C dX1_rightLetters_53 (by decide) ?_
        refine g_istore (L' := [(5, .int (nI 0)), (4, .int ((v2 * (nI 4)) + v3)), (0, .ref (ad 149)), (1, .ref (ad 152)), (2, .int v2), (3, .int v3)]) C dX1_rightLetters_54 (by decide) rfl ?_
        refine g_iload (j := 0) C dX1_rightLetters_56 rfl ?_
        refine g_if_ne C dX1_rightLetters_58 (tgt := 63) (by decide) (fun h9 => absurd h9 (by decide)) (fun _ => ?_)
        refine g_iload_n (j := 5) C dX1_rightLetters_61 rfl rfl ?_
        obtain rfl := Option.some.inj h
        exact t_iret C hr rfl ⟨rfl, rfl⟩ (Nat.le_refl _) (Nat.le_refl _) dX1_rightLetters_62
      · replace h := (if_neg hc_1002).symm.trans h
        refine g_iload (j := 0) C dX1_rightLetters_19 rfl ?_
        obtain ⟨aW, hW1, hW2⟩ := hE.2.1
        refine p_ldcS C hW1 dX1_rightLetters_21 ?_
        refine t_Vi (As := []) (rest := [.int ((v2 * (nI 4)) + v3)]) (zES_ge _ _) ⟨hE.1, hW2⟩ C (c_strLen l D cy (zW cy ad shC (tB cy (ad 152) vT nT zT kT fT ++ E) X) aW zWords) zml_RX1_82 zcv_J0_length_8abf5 (zrec_S hW2) rfl rfl ⟨Nat.le_of_ble_eq_true rfl, Nat.le_of_ble_eq_true rfl⟩ rfl rfl (Nat.le_of_ble_eq_true rfl) ⟨Nat.zero_le _, Nat.zero_le _⟩ dX1_rightLetters_23 ?_
        intro r w h9
        obtain ⟨rfl, rfl⟩ := h9
        refine g_icmp_ge C dX1_rightLetters_26 (tgt := 53) (by decide) (fun hc_1003 => ?_) (fun hc_1003 => ?_)
        · replace h := (if_pos hc_1003).symm.trans h
          refine g_iconst (v := (nI 0)) C dX1_rightLetters_53 (by decide) ?_
          refine g_istore (L' := [(5, .int (nI 0)), (4, .int ((v2 * (nI 4)) + v3)), (0, .ref (ad 149)), (1, .ref (ad 152)), (2, .int v2), (3, .int v3)]) C dX1_rightLetters_54 (by decide) rfl ?_
          refine g_iload (j := 0) C dX1_rightLetters_56 rfl ?_
          refine g_if_ne C dX1_rightLetters_58 (tgt := 63) (by decide) (fun h9 => absurd h9 (by decide)) (fun _ => ?_)
          refine g_iload_n (j := 5) C dX1_rightLetters_61 rfl rfl ?_
          obtain rfl := Option.some.inj h
          exact t_iret C hr rfl ⟨rfl, rfl⟩ (Nat.le_refl _) (Nat.le_refl _) dX1_rightLetters_62
        · replace h := (if_neg hc_1003).symm.trans h
          refine g_aload_n (j := 2) C dX1_rightLetters_29 rfl rfl ?_
          refine g_aload_n (j := 1) C dX1_rightLetters_30 rfl rfl ?_
          refine g_geti (k := 1) (N := 2) C sC_149 rfl zin_RX1 (by decide) rfl zfl_RX1_20 rfl dX1_rightLetters_31 ?_
          refine g_iload_n (j := 4) C dX1_rightLetters_34 rfl rfl ?_
          refine g_iadd C dX1_rightLetters_35 ?_
          refine t_Si (As := [.ref (ad 152), .int ((X 149 1) + v3)]) (rest := []) zEr_ge hE C (c_X1_signAt l D cy vT nT zT kT fT hkT hnT ad E X ((X 149 1) + v3)) zml_RX1_45 zcs_X1_signAt rfl rfl ⟨Nat.le_of_ble_eq_true rfl, Nat.le_of_ble_eq_true rfl⟩ rfl rfl (Nat.le_of_ble_eq_true rfl) ⟨Nat.zero_le _, Nat.zero_le _⟩ dX1_rightLetters_36 ?_
          intro r w h9
          obtain ⟨h9a, rfl⟩ := h9
          subst r
          obtain ⟨aW, hW1, hW2⟩ := hE.2.1
          refine p_ldcS C hW1 dX1_rightLetters_39 ?_
          refine g_iload (j := 0) C dX1_rightLetters_41 rfl ?_
          refine t_Vi (As := [.int ((v2 * (nI 4)) + v3)]) (rest := [.int (f_X1_signAt kT fT ((X 149 1) + v3))]) (zES_ge _ _) ⟨hE.1, hW2⟩ C (c_strAtV l D cy (zW cy ad shC (tB cy (ad 152) vT nT zT kT fT ++ E) X) aW zWords ((v2 * (nI 4)) + v3) hc_1002 hc_1003 (by decide)) zml_RX1_85 zcv_J0_charAt_5068e (zrec_S hW2) rfl rfl ⟨Nat.le_of_ble_eq_true rfl, Nat.le_of_ble_eq_true rfl⟩ rfl rfl (Nat.le_of_ble_eq_true rfl) ⟨Nat.zero_le _, Nat.zero_le _⟩ dX1_rightLetters_43 ?_
          intro r w h9
          obtain ⟨rfl, rfl⟩ := h9
          refine g_icmp_ne C dX1_rightLetters_46 (tgt := 53) (by decide) (fun hc_1004 => ?_) (fun hc_1004 => ?_)
          · replace h := (if_neg hc_1004).symm.trans h
            refine g_iconst (v := (nI 0)) C dX1_rightLetters_53 (by decide) ?_
            refine g_istore (L' := [(5, .int (nI 0)), (4, .int ((v2 * (nI 4)) + v3)), (0, .ref (ad 149)), (1, .ref (ad 152)), (2, .int v2), (3, .int v3)]) C dX1_rightLetters_54 (by decide) rfl ?_
            refine g_iload (j := 0) C dX1_rightLetters_56 rfl ?_
            refine g_if_ne C dX1_rightLetters_58 (tgt := 63) (by decide) (fun h9 => absurd h9 (by decide)) (fun _ => ?_)
            refine g_iload_n (j := 5) C dX1_rightLetters_61 rfl rfl ?_
            obtain rfl := Option.some.inj h
            exact t_iret C hr rfl ⟨rfl, rfl⟩ (Nat.le_refl _) (Nat.le_refl _) dX1_rightLetters_62
          · replace h := (if_pos hc_1004).symm.trans h
            refine g_iconst (v := (nI 1)) C dX1_rightLetters_49 (by decide) ?_
            refine g_goto C dX1_rightLetters_50 (tgt := 54) (by decide) ?_
            refine g_istore (L' := [(5, .int (nI 1)), (4, .int ((v2 * (nI 4)) + v3)), (0, .ref (ad 149)), (1, .ref (ad 152)), (2, .int v2), (3, .int v3)]) C dX1_rightLetters_54 (by decide) rfl ?_
            refine g_iload (j := 0) C dX1_rightLetters_56 rfl ?_
            refine g_if_ne C dX1_rightLetters_58 (tgt := 63) (by decide) (fun _ => ?_) (fun h9 => absurd h9 (by decide))
            refine g_iinc (k := 5) (L' := [(3, .int (v3 + 1)), (5, .int (nI 1)), (4, .int ((v2 * (nI 4)) + v3)), (0, .ref (ad 149)), (1, .ref (ad 152)), (2, .int v2)]) C dX1_rightLetters_63 rfl (z_iinc (by decide)) (by decide) rfl ?_
            refine g_goto C dX1_rightLetters_66 (tgt := 2) (by decide) ?_
            refine zG_sub (L' := [(0, .ref (ad 149)), (1, .ref (ad 152)), (2, .int v2), (3, .int (v3 + 1))]) [3, 4, 5, 0] rfl ?_
            exact ih (v3 + 1) h
def f_X1_rightLetters (kT : Nat) (fT : Nat → Int32) (X : Nat → Nat → Int32) (v2 : Int32) : Option Int32 := f_X1_rightLetters_L2 kT fT X v2 zFuel (nI 0)
set_option maxRecDepth 100000 in
set_option maxHeartbeats 4000000 in
theorem c_X1_rightLetters (l : Launch) (D : va_G) (cy : Nat → ClassId) (vT nT : Nat) (zT : Int32) (kT : Nat) (fT : Nat → Int32) (hkT : kT ≤ nT) (hnT : nT < 2 ^ 31) (ad : Nat → Nat) (E : va_W) (X : Nat → Nat → Int32) (v2 : Int32) {res : Int32} (h : f_X1_rightLetters kT fT X v2 = some res) : zMt l yX1_rightLetters cX1_rightLetters 6 (some .int) (zrm 6) D (zTy cy) zEr (zW cy ad shC (tB cy (ad 152) vT nT zT kT fT ++ E) X) [.ref (ad 149), .ref (ad 152), .int v2] 0 0 (tI D (zTy cy) (fun r w => r = res ∧ w = (zW cy ad shC (tB cy (ad 152) vT nT zT kT fT ++ E) X))) := by
  refine zMt.of (by decide) (Nat.le_of_ble_eq_true rfl) ?_
  intro p e s m below meth c A C hr hE
  unfold f_X1_rightLetters at h
  refine zG_L (L' := [(0, .ref (ad 149)), (1, .ref (ad 152)), (2, .int v2)]) rfl ?_
  refine g_iconst (v := (nI 0)) C dX1_rightLetters_0 (by decide) ?_
  refine g_istore_n (L' := [(3, .int (nI 0)), (0, .ref (ad 149)), (1, .ref (ad 152)), (2, .int v2)]) C dX1_rightLetters_1 rfl (by decide) rfl ?_
  refine zG_sub (L' := [(0, .ref (ad 149)), (1, .ref (ad 152)), (2, .int v2), (3, .int (nI 0))]) [1, 2, 3, 0] rfl ?_
  exact w_X1_rightLetters_L2 l D cy vT nT zT kT fT hkT hnT ad E X v2 C hE hr zFuel (nI 0) h
def f_X1_readWord_L7 (k : Int32 → Int32 → Option (Int32 × (Nat → Nat → Int32))) (kT : Nat) (fT : Nat → Int32) (X : Nat → Nat → Int32) : Nat → Int32 → Int32 → Int32 → Option (Int32 × (Nat → Nat → Int32))
  | 0, _, _, _ => none
  | fu + 1, v2, v3, v4 => (if (nI 5) ≤ v4 then k v2 v3 else ((f_X1_rightLetters kT fT X v4).bind fun q_1002 => (if q_1002 = (nI 4) then f_X1_readWord_L7 k kT fT X fu (if v2 < q_1002 then q_1002 else v2) v4 (v4 + 1) else f_X1_readWord_L7 k kT fT X fu (if v2 < q_1002 then q_1002 else v2) v3 (v4 + 1))))
set_option maxRecDepth 100000 in
set_option maxHeartbeats 4000000 in
theorem w_X1_readWord_L7 {p : Program} {e : Env} {s : State} {m : MethodId} {args : Array Value} {below : List Frame} {meth : Method} {c : Code} {A : Nat → Prop} (l : Launch) (D : va_G) (cy : Nat → ClassId) (vT nT : Nat) (zT : Int32) (kT : Nat) (fT : Nat → Int32) (hkT : kT ≤ nT) (hnT : nT < 2 ^ 31) (ad : Nat → Nat) (E : va_W) (k : Int32 → Int32 → Option (Int32 × (Nat → Nat → Int32))) (X : Nat → Nat → Int32) {res : Int32 × (Nat → Nat → Int32)} (C : zC p s m args meth c cX1_readWord 6 RX1 D (zTy cy) A) (hE : zEr A s s.heap) (hr : meth.sig.returnType = (some .int)) : ∀ (fu : Nat) (v2 v3 v4 : Int32) (h : f_X1_readWord_L7 k kT fT X fu v2 v3 v4 = some res) (hk : ∀ (v2 v3 : Int32), k v2 v3 = some res → zG p l e (zrm 7) s m args below meth c 6 D A 0 0 (MQ below (tI D (zTy cy) (fun r w => r = res.1 ∧ w = (zW cy ad shC (tB cy (ad 152) vT nT zT kT fT ++ E) res.2)) A) args s 0 0 A) (zW cy ad shC (tB cy (ad 152) vT nT zT kT fT ++ E) X) 47 [(0, .ref (ad 149)), (2, .int v2), (3, .int v3)] []), zG p l e (zrm 7) s m args below meth c 6 D A 0 0 (MQ below (tI D (zTy cy) (fun r w => r = res.1 ∧ w = (zW cy ad shC (tB cy (ad 152) vT nT zT kT fT ++ E) res.2)) A) args s 0 0 A) (zW cy ad shC (tB cy (ad 152) vT nT zT kT fT ++ E) X) 7 [(0, .ref (ad 149)), (1, .ref (ad 152)), (2, .int v2), (3, .int v3), (4, .int v4)] [] := by
  intro fu
  induction fu with
  | zero => intro v2 v3 v4 h hk; simp [f_X1_readWord_L7] at h
  | succ fu ih =>
    intro v2 v3 v4 h hk
    rw [f_X1_readWord_L7] at h
    refine g_iload (j := 4) C dX1_readWord_7 rfl ?_
    obtain ⟨tN, hN1, hN2⟩ := hE.2.2
    refine p_gets C hN1 zfs_RX1_60 dX1_readWord_9 ?_
    refine p_tlen (N := 5) C hN2 dX1_readWord_12 ?_
    refine g_icmp_ge C dX1_readWord_13 (tgt := 47) (by decide) (fun hc_1001 => ?_) (fun hc_1001 => ?_)
    · replace h := (if_pos hc_1001).symm.trans h
      refine zG_sub (L' := [(0, .ref (ad 149)), (2, .int v2), (3, .int v3)]) [0, 2, 3] rfl ?_
      exact hk v2 v3 h
    · replace h := (if_neg hc_1001).symm.trans h
      refine g_aload_n (j := 0) C dX1_readWord_16 rfl rfl ?_
      refine g_aload_n (j := 1) C dX1_readWord_17 rfl rfl ?_
      refine g_iload (j := 4) C dX1_readWord_18 rfl ?_
      obtain ⟨q_1002, hq_1003, h⟩ := bind_isome h
      refine t_Vi (As := [.ref (ad 152), .int v4]) (rest := []) zEr_ge hE C (c_X1_rightLetters l D cy vT nT zT kT fT hkT hnT ad E X v4 hq_1003) zml_RX1_71 zcv_X1_rightLetters (zRec.of C rfl (zW_get X sC_149)) rfl rfl ⟨Nat.le_of_ble_eq_true rfl, Nat.le_of_ble_eq_true rfl⟩ rfl rfl (Nat.le_of_ble_eq_true rfl) ⟨Nat.zero_le _, Nat.zero_le _⟩ dX1_readWord_20 ?_
      intro r w h9
      obtain ⟨h9a, rfl⟩ := h9
      subst r
      refine g_istore (L' := [(5, .int q_1002), (0, .ref (ad 149)), (1, .ref (ad 152)), (2, .int v2), (3, .int v3), (4, .int v4)]) C dX1_readWord_23 (by decide) rfl ?_
      refine g_iload_n (j := 3) C dX1_readWord_25 rfl rfl ?_
      refine g_iload (j := 0) C dX1_readWord_26 rfl ?_
      refine g_mmax C zml_RX1_74 (Nat.le_of_ble_eq_true rfl) (Nat.le_of_ble_eq_true rfl) (Nat.le_of_ble_eq_true rfl) (Nat.le_of_ble_eq_true rfl) dX1_readWord_28 ?_
      refine g_istore_n (L' := [(2, .int (if v2 < q_1002 then q_1002 else v2)), (5, .int q_1002), (0, .ref (ad 149)), (1, .ref (ad 152)), (3, .int v3), (4, .int v4)]) C dX1_readWord_31 rfl (by decide) rfl ?_
      refine g_iload (j := 1) C dX1_readWord_32 rfl ?_
      refine g_iconst (v := (nI 4)) C dX1_readWord_34 (by decide) ?_
      refine g_icmp_ne C dX1_readWord_35 (tgt := 41) (by decide) (fun hc_1004 => ?_) (fun hc_1004 => ?_)
      · replace h := (if_neg hc_1004).symm.trans h
        refine g_iinc (k := 5) (L' := [(4, .int (v4 + 1)), (2, .int (if v2 < q_1002 then q_1002 else v2)), (5, .int q_1002), (0, .ref (ad 149)), (1, .ref (ad 152)), (3, .int v3)]) C dX1_readWord_41 rfl (z_iinc (by decide)) (by decide) rfl ?_
        refine g_goto C dX1_readWord_44 (tgt := 7) (by decide) ?_
        refine zG_sub (L' := [(0, .ref (ad 149)), (1, .ref (ad 152)), (2, .int (if v2 < q_1002 then q_1002 else v2)), (3, .int v3), (4, .int (v4 + 1))]) [3, 4, 1, 5, 0] rfl ?_
        exact ih (if v2 < q_1002 then q_1002 else v2) v3 (v4 + 1) h hk
      · replace h := (if_pos hc_1004).symm.trans h
        refine g_iload (j := 5) C dX1_readWord_38 rfl ?_
        refine g_istore_n (L' := [(3, .int v4), (2, .int (if v2 < q_1002 then q_1002 else v2)), (5, .int q_1002), (0, .ref (ad 149)), (1, .ref (ad 152)), (4, .int v4)]) C dX1_readWord_40 rfl (by decide) rfl ?_
        refine g_iinc (k := 5) (L' := [(4, .int (v4 + 1)), (3, .int v4), (2, .int (if v2 < q_1002 then q_1002 else v2)), (5, .int q_1002), (0, .ref (ad 149)), (1, .ref (ad 152))]) C dX1_readWord_41 rfl (z_iinc (by decide)) (by decide) rfl ?_
        refine g_goto C dX1_readWord_44 (tgt := 7) (by decide) ?_
        refine zG_sub (L' := [(0, .ref (ad 149)), (1, .ref (ad 152)), (2, .int (if v2 < q_1002 then q_1002 else v2)), (3, .int v4), (4, .int (v4 + 1))]) [4, 5, 2, 1, 0] rfl ?_
        exact ih (if v2 < q_1002 then q_1002 else v2) v4 (v4 + 1) h hk
def f_X1_readWord (kT : Nat) (fT : Nat → Int32) (X : Nat → Nat → Int32) : Option (Int32 × (Nat → Nat → Int32)) := f_X1_readWord_L7 (fun v2_1005 v3_1006 => (zlet (zU X 149 1 ((X 149 1) + v2_1005)) fun X_1007 => some (v3_1006, X_1007))) kT fT X zFuel (nI 0) (-1 : Int32) (nI 0)
set_option maxRecDepth 100000 in
set_option maxHeartbeats 4000000 in
theorem c_X1_readWord (l : Launch) (D : va_G) (cy : Nat → ClassId) (vT nT : Nat) (zT : Int32) (kT : Nat) (fT : Nat → Int32) (hkT : kT ≤ nT) (hnT : nT < 2 ^ 31) (ad : Nat → Nat) (E : va_W) (X : Nat → Nat → Int32) {res : Int32 × (Nat → Nat → Int32)} (h : f_X1_readWord kT fT X = some res) : zMt l yX1_readWord cX1_readWord 6 (some .int) (zrm 7) D (zTy cy) zEr (zW cy ad shC (tB cy (ad 152) vT nT zT kT fT ++ E) X) [.ref (ad 149), .ref (ad 152)] 0 0 (tI D (zTy cy) (fun r w => r = res.1 ∧ w = (zW cy ad shC (tB cy (ad 152) vT nT zT kT fT ++ E) res.2))) := by
  refine zMt.of (by decide) (Nat.le_of_ble_eq_true rfl) ?_
  intro p e s m below meth c A C hr hE
  unfold f_X1_readWord at h
  refine zG_L (L' := [(0, .ref (ad 149)), (1, .ref (ad 152))]) rfl ?_
  refine g_iconst (v := (nI 0)) C dX1_readWord_0 (by decide) ?_
  refine g_istore_n (L' := [(2, .int (nI 0)), (0, .ref (ad 149)), (1, .ref (ad 152))]) C dX1_readWord_1 rfl (by decide) rfl ?_
  refine g_iconst (v := (-1 : Int32)) C dX1_readWord_2 (by decide) ?_
  refine g_istore_n (L' := [(3, .int (-1 : Int32)), (2, .int (nI 0)), (0, .ref (ad 149)), (1, .ref (ad 152))]) C dX1_readWord_3 rfl (by decide) rfl ?_
  refine g_iconst (v := (nI 0)) C dX1_readWord_4 (by decide) ?_
  refine g_istore (L' := [(4, .int (nI 0)), (3, .int (-1 : Int32)), (2, .int (nI 0)), (0, .ref (ad 149)), (1, .ref (ad 152))]) C dX1_readWord_5 (by decide) rfl ?_
  refine zG_sub (L' := [(0, .ref (ad 149)), (1, .ref (ad 152)), (2, .int (nI 0)), (3, .int (-1 : Int32)), (4, .int (nI 0))]) [3, 4, 2, 1, 0] rfl ?_
  refine w_X1_readWord_L7 l D cy vT nT zT kT fT hkT hnT ad E _ X C hE hr zFuel (nI 0) (-1 : Int32) (nI 0) h ?_
  intro v2_1005 v3_1006 h
  refine g_aload_n (j := 0) C dX1_readWord_47 rfl rfl ?_
  refine g_dup C dX1_readWord_48 rfl ?_
  refine g_geti (k := 1) (N := 2) C sC_149 rfl zin_RX1 (by decide) rfl zfl_RX1_20 rfl dX1_readWord_49 ?_
  refine g_iload_n (j := 1) C dX1_readWord_52 rfl rfl ?_
  refine g_iadd C dX1_readWord_53 ?_
  refine g_puti (k := 1) (N := 2) (ty := .int) C sC_149 rfl zin_RX1 (by decide) rfl zfl_RX1_20 rfl tyX1_ok nmX1 rfl (by decide +kernel) rfl rfl dX1_readWord_54 ?_
  obtain ⟨X_1007, e_1008, h⟩ := zlet_ex h
  rw [← e_1008]
  refine g_iload_n (j := 2) C dX1_readWord_57 rfl rfl ?_
  obtain rfl := Option.some.inj h
  exact t_iret C hr rfl ⟨rfl, rfl⟩ (Nat.le_refl _) (Nat.le_refl _) dX1_readWord_58
def f_X1_readNumber_L4 (kT : Nat) (fT : Nat → Int32) : Nat → (Nat → Nat → Int32) → Int32 → Int32 → Option (Int32 × (Nat → Nat → Int32))
  | 0, _, _, _ => none
  | fu + 1, X, v2, v3 => (if (nI 3) ≤ v3 then some (v2, X) else (if (f_X1_isDigit (f_X1_signAt kT fT (X 149 1))) = 0 then some (v2, X) else (if v3 ≤ 0 then (zlet (zU X 149 1 ((X 149 1) + (nI 1))) fun X_1004 => f_X1_readNumber_L4 kT fT fu X_1004 (((v2 * (nI 10)) + (f_X1_signAt kT fT (X 149 1))) - (nI 48)) (v3 + 1)) else (if v2 = 0 then some (v2, X) else (zlet (zU X 149 1 ((X 149 1) + (nI 1))) fun X_1007 => f_X1_readNumber_L4 kT fT fu X_1007 (((v2 * (nI 10)) + (f_X1_signAt kT fT (X 149 1))) - (nI 48)) (v3 + 1))))))
set_option maxRecDepth 100000 in
set_option maxHeartbeats 4000000 in
theorem w_X1_readNumber_L4 {p : Program} {e : Env} {s : State} {m : MethodId} {args : Array Value} {below : List Frame} {meth : Method} {c : Code} {A : Nat → Prop} (l : Launch) (D : va_G) (cy : Nat → ClassId) (vT nT : Nat) (zT : Int32) (kT : Nat) (fT : Nat → Int32) (hkT : kT ≤ nT) (hnT : nT < 2 ^ 31) (ad : Nat → Nat) (E : va_W) {res : Int32 × (Nat → Nat → Int32)} (C : zC p s m args meth c cX1_readNumber 5 RX1 D (zTy cy) A) (hE : zEr A s s.heap) (hr : meth.sig.returnType = (some .int)) : ∀ (fu : Nat) (X : Nat → Nat → Int32) (v2 v3 : Int32) (h : f_X1_readNumber_L4 kT fT fu X v2 v3 = some res), zG p l e (zrm 6) s m args below meth c 5 D A 0 0 (MQ below (tI D (zTy cy) (fun r w => r = res.1 ∧ w = (zW cy ad shC (tB cy (ad 152) vT nT zT kT fT ++ E) res.2)) A) args s 0 0 A) (zW cy ad shC (tB cy (ad 152) vT nT zT kT fT ++ E) X) 4 [(0, .ref (ad 149)), (1, .ref (ad 152)), (2, .int v2), (3, .int v3)] [] := by
  intro fu
  induction fu with
  | zero => intro X v2 v3 h; simp [f_X1_readNumber_L4] at h
  | succ fu ih =>
    intro X v2 v3 h
    rw [f_X1_readNumber_L4] at h
    refine g_iload_n (j := 3) C dX1_readNumber_4 rfl rfl ?_
    refine g_iconst (v := (nI 3)) C dX1_readNumber_5 (by decide) ?_
    refine g_icmp_ge C dX1_readNumber_6 (tgt := 64) (by decide) (fun hc_1001 => ?_) (fun hc_1001 => ?_)
    · replace h := (if_pos hc_1001).symm.trans h
      refine g_iload_n (j := 2) C dX1_readNumber_64 rfl rfl ?_
      obtain rfl := Option.some.inj h
      exact t_iret C hr rfl ⟨rfl, rfl⟩ (Nat.le_refl _) (Nat.le_refl _) dX1_readNumber_65
    · replace h := (if_neg hc_1001).symm.trans h
      refine g_aload_n (j := 1) C dX1_readNumber_9 rfl rfl ?_
      refine g_aload_n (j := 0) C dX1_readNumber_10 rfl rfl ?_
      refine g_geti (k := 1) (N := 2) C sC_149 rfl zin_RX1 (by decide) rfl zfl_RX1_20 rfl dX1_readNumber_11 ?_
      refine t_Si (As := [.ref (ad 152), .int (X 149 1)]) (rest := []) zEr_ge hE C (c_X1_signAt l D cy vT nT zT kT fT hkT hnT ad E X (X 149 1)) zml_RX1_45 zcs_X1_signAt rfl rfl ⟨Nat.le_of_ble_eq_true rfl, Nat.le_of_ble_eq_true rfl⟩ rfl rfl (Nat.le_of_ble_eq_true rfl) ⟨Nat.zero_le _, Nat.zero_le _⟩ dX1_readNumber_14 ?_
      intro r w h9
      obtain ⟨h9a, rfl⟩ := h9
      subst r
      refine g_istore (L' := [(4, .int (f_X1_signAt kT fT (X 149 1))), (0, .ref (ad 149)), (1, .ref (ad 152)), (2, .int v2), (3, .int v3)]) C dX1_readNumber_17 (by decide) rfl ?_
      refine g_iload (j := 0) C dX1_readNumber_19 rfl ?_
      refine g_si (ws' := (zW cy ad shC (tB cy (ad 152) vT nT zT kT fT ++ E) X)) (As := [.int (f_X1_signAt kT fT (X 149 1))]) (rest := []) (res := (f_X1_isDigit (f_X1_signAt kT fT (X 149 1)))) C (c_X1_isDigit l D cy (zW cy ad shC (tB cy (ad 152) vT nT zT kT fT ++ E) X) (f_X1_signAt kT fT (X 149 1))) zml_RX1_64 zcs_X1_isDigit rfl rfl ⟨Nat.le_of_ble_eq_true rfl, Nat.le_of_ble_eq_true rfl⟩ rfl rfl (Nat.le_of_ble_eq_true rfl) ⟨Nat.zero_le _, Nat.zero_le _⟩ dX1_readNumber_21 ?_
      refine g_if_eq C dX1_readNumber_24 (tgt := 35) (by decide) (fun hc_1002 => ?_) (fun hc_1002 => ?_)
      · replace h := (if_pos hc_1002).symm.trans h
        refine g_iload_n (j := 3) C dX1_readNumber_35 rfl rfl ?_
        obtain rfl := Option.some.inj h
        exact t_iret C hr rfl ⟨rfl, rfl⟩ (Nat.le_refl _) (Nat.le_refl _) dX1_readNumber_36
      · replace h := (if_neg hc_1002).symm.trans h
        refine g_iload_n (j := 4) C dX1_readNumber_27 rfl rfl ?_
        refine g_if_le C dX1_readNumber_28 (tgt := 37) (by decide) (fun hc_1003 => ?_) (fun hc_1003 => ?_)
        · replace h := (if_pos hc_1003).symm.trans h
          refine g_iload_n (j := 3) C dX1_readNumber_37 rfl rfl ?_
          refine g_bipush (v := (nI 10)) C dX1_readNumber_38 (by decide) ?_
          refine g_imul C dX1_readNumber_40 ?_
          refine g_iload (j := 0) C dX1_readNumber_41 rfl ?_
          refine g_iadd C dX1_readNumber_43 ?_
          refine g_bipush (v := (nI 48)) C dX1_readNumber_44 (by decide) ?_
          refine g_isub C dX1_readNumber_46 ?_
          refine g_istore_n (L' := [(2, .int (((v2 * (nI 10)) + (f_X1_signAt kT fT (X 149 1))) - (nI 48))), (4, .int (f_X1_signAt kT fT (X 149 1))), (0, .ref (ad 149)), (1, .ref (ad 152)), (3, .int v3)]) C dX1_readNumber_47 rfl (by decide) rfl ?_
          refine g_aload_n (j := 2) C dX1_readNumber_48 rfl rfl ?_
          refine g_dup C dX1_readNumber_49 rfl ?_
          refine g_geti (k := 1) (N := 2) C sC_149 rfl zin_RX1 (by decide) rfl zfl_RX1_20 rfl dX1_readNumber_50 ?_
          refine g_iconst (v := (nI 1)) C dX1_readNumber_53 (by decide) ?_
          refine g_iadd C dX1_readNumber_54 ?_
          refine g_puti (k := 1) (N := 2) (ty := .int) C sC_149 rfl zin_RX1 (by decide) rfl zfl_RX1_20 rfl tyX1_ok nmX1 rfl (by decide +kernel) rfl rfl dX1_readNumber_55 ?_
          obtain ⟨X_1004, e_1005, h⟩ := zlet_ex h
          rw [← e_1005]
          refine g_iinc (k := 4) (L' := [(3, .int (v3 + 1)), (2, .int (((v2 * (nI 10)) + (f_X1_signAt kT fT (X 149 1))) - (nI 48))), (4, .int (f_X1_signAt kT fT (X 149 1))), (0, .ref (ad 149)), (1, .ref (ad 152))]) C dX1_readNumber_58 rfl (z_iinc (by decide)) (by decide) rfl ?_
          refine g_goto C dX1_readNumber_61 (tgt := 4) (by decide) ?_
          refine zG_sub (L' := [(0, .ref (ad 149)), (1, .ref (ad 152)), (2, .int (((v2 * (nI 10)) + (f_X1_signAt kT fT (X 149 1))) - (nI 48))), (3, .int (v3 + 1))]) [3, 4, 1, 0] rfl ?_
          exact ih X_1004 (((v2 * (nI 10)) + (f_X1_signAt kT fT (X 149 1))) - (nI 48)) (v3 + 1) h
        · replace h := (if_neg hc_1003).symm.trans h
          refine g_iload_n (j := 3) C dX1_readNumber_31 rfl rfl ?_
          refine g_if_ne C dX1_readNumber_32 (tgt := 37) (by decide) (fun hc_1006 => ?_) (fun hc_1006 => ?_)
          · replace h := (if_neg hc_1006).symm.trans h
            refine g_iload_n (j := 3) C dX1_readNumber_37 rfl rfl ?_
            refine g_bipush (v := (nI 10)) C dX1_readNumber_38 (by decide) ?_
            refine g_imul C dX1_readNumber_40 ?_
            refine g_iload (j := 0) C dX1_readNumber_41 rfl ?_
            refine g_iadd C dX1_readNumber_43 ?_
            refine g_bipush (v := (nI 48)) C dX1_readNumber_44 (by decide) ?_
            refine g_isub C dX1_readNumber_46 ?_
            refine g_istore_n (L' := [(2, .int (((v2 * (nI 10)) + (f_X1_signAt kT fT (X 149 1))) - (nI 48))), (4, .int (f_X1_signAt kT fT (X 149 1))), (0, .ref (ad 149)), (1, .ref (ad 152)), (3, .int v3)]) C dX1_readNumber_47 rfl (by decide) rfl ?_
            refine g_aload_n (j := 2) C dX1_readNumber_48 rfl rfl ?_
            refine g_dup C dX1_readNumber_49 rfl ?_
            refine g_geti (k := 1) (N := 2) C sC_149 rfl zin_RX1 (by decide) rfl zfl_RX1_20 rfl dX1_readNumber_50 ?_
            refine g_iconst (v := (nI 1)) C dX1_readNumber_53 (by decide) ?_
            refine g_iadd C dX1_readNumber_54 ?_
            refine g_puti (k := 1) (N := 2) (ty := .int) C sC_149 rfl zin_RX1 (by decide) rfl zfl_RX1_20 rfl tyX1_ok nmX1 rfl (by decide +kernel) rfl rfl dX1_readNumber_55 ?_
            obtain ⟨X_1007, e_1008, h⟩ := zlet_ex h
            rw [← e_1008]
            refine g_iinc (k := 4) (L' := [(3, .int (v3 + 1)), (2, .int (((v2 * (nI 10)) + (f_X1_signAt kT fT (X 149 1))) - (nI 48))), (4, .int (f_X1_signAt kT fT (X 149 1))), (0, .ref (ad 149)), (1, .ref (ad 152))]) C dX1_readNumber_58 rfl (z_iinc (by decide)) (by decide) rfl ?_
            refine g_goto C dX1_readNumber_61 (tgt := 4) (by decide) ?_
            refine zG_sub (L' := [(0, .ref (ad 149)), (1, .ref (ad 152)), (2, .int (((v2 * (nI 10)) + (f_X1_signAt kT fT (X 149 1))) - (nI 48))), (3, .int (v3 + 1))]) [3, 4, 1, 0] rfl ?_
            exact ih X_1007 (((v2 * (nI 10)) + (f_X1_signAt kT fT (X 149 1))) - (nI 48)) (v3 + 1) h
          · replace h := (if_pos hc_1006).symm.trans h
            refine g_iload_n (j := 3) C dX1_readNumber_35 rfl rfl ?_
            obtain rfl := Option.some.inj h
            exact t_iret C hr rfl ⟨rfl, rfl⟩ (Nat.le_refl _) (Nat.le_refl _) dX1_readNumber_36
def f_X1_readNumber (kT : Nat) (fT : Nat → Int32) (X : Nat → Nat → Int32) : Option (Int32 × (Nat → Nat → Int32)) := f_X1_readNumber_L4 kT fT zFuel X (nI 0) (nI 0)
set_option maxRecDepth 100000 in
set_option maxHeartbeats 4000000 in
theorem c_X1_readNumber (l : Launch) (D : va_G) (cy : Nat → ClassId) (vT nT : Nat) (zT : Int32) (kT : Nat) (fT : Nat → Int32) (hkT : kT ≤ nT) (hnT : nT < 2 ^ 31) (ad : Nat → Nat) (E : va_W) (X : Nat → Nat → Int32) {res : Int32 × (Nat → Nat → Int32)} (h : f_X1_readNumber kT fT X = some res) : zMt l yX1_readNumber cX1_readNumber 5 (some .int) (zrm 6) D (zTy cy) zEr (zW cy ad shC (tB cy (ad 152) vT nT zT kT fT ++ E) X) [.ref (ad 149), .ref (ad 152)] 0 0 (tI D (zTy cy) (fun r w => r = res.1 ∧ w = (zW cy ad shC (tB cy (ad 152) vT nT zT kT fT ++ E) res.2))) := by
  refine zMt.of (by decide) (Nat.le_of_ble_eq_true rfl) ?_
  intro p e s m below meth c A C hr hE
  unfold f_X1_readNumber at h
  refine zG_L (L' := [(0, .ref (ad 149)), (1, .ref (ad 152))]) rfl ?_
  refine g_iconst (v := (nI 0)) C dX1_readNumber_0 (by decide) ?_
  refine g_istore_n (L' := [(2, .int (nI 0)), (0, .ref (ad 149)), (1, .ref (ad 152))]) C dX1_readNumber_1 rfl (by decide) rfl ?_
  refine g_iconst (v := (nI 0)) C dX1_readNumber_2 (by decide) ?_
  refine g_istore_n (L' := [(3, .int (nI 0)), (2, .int (nI 0)), (0, .ref (ad 149)), (1, .ref (ad 152))]) C dX1_readNumber_3 rfl (by decide) rfl ?_
  refine zG_sub (L' := [(0, .ref (ad 149)), (1, .ref (ad 152)), (2, .int (nI 0)), (3, .int (nI 0))]) [2, 3, 1, 0] rfl ?_
  exact w_X1_readNumber_L4 l D cy vT nT zT kT fT hkT hnT ad E C hE hr zFuel X (nI 0) (nI 0) h
def f_X1_isCommandRead_L57 (kT : Nat) (fT : Nat → Int32) (v3 : Int32) (v4 : Int32) : Nat → (Nat → Nat → Int32) → Int32 → Option (Int32 × (Nat → Nat → Int32))
  | 0, _, _ => none
  | fu + 1, X, v5 => (if v4 ≤ v5 then some ((nI 1), X) else (zlet (f_X1_isSignRead kT fT X (nI 32)) fun q_1010 => (if q_1010.1 = 0 then some ((nI 0), q_1010.2) else (if (f_X1_isDigit (f_X1_signAt kT fT (q_1010.2 149 1))) = 0 then some ((nI 0), q_1010.2) else ((f_X1_readNumber kT fT q_1010.2).bind fun q_1014 => (zlet (f_X4_put q_1014.2 150 40 v3 ((nI 1) + v5) q_1014.1) fun X_1016 => f_X1_isCommandRead_L57 kT fT v3 v4 fu X_1016 (v5 + 1)))))))
set_option maxRecDepth 100000 in
set_option maxHeartbeats 4000000 in
theorem w_X1_isCommandRead_L57 {p : Program} {e : Env} {s : State} {m : MethodId} {args : Array Value} {below : List Frame} {meth : Method} {c : Code} {A : Nat → Prop} (l : Launch) (D : va_G) (cy : Nat → ClassId) (vT nT : Nat) (zT : Int32) (kT : Nat) (fT : Nat → Int32) (hkT : kT ≤ nT) (hnT : nT < 2 ^ 31) (ad : Nat → Nat) (E : va_W) (v3 : Int32) (v4 : Int32) {res : Int32 × (Nat → Nat → Int32)} (C : zC p s m args meth c cX1_isCommandRead 6 RX1 D (zTy cy) A) (hE : zEr A s s.heap) (hr : meth.sig.returnType = (some .boolean)) : ∀ (fu : Nat) (X : Nat → Nat → Int32) (v5 : Int32) (h : f_X1_isCommandRead_L57 kT fT v3 v4 fu X v5 = some res), zG p l e (zrm 8) s m args below meth c 6 D A 0 0 (MQ below (tI D (zTy cy) (fun r w => r = res.1 ∧ w = (zW cy ad shC (tB cy (ad 152) vT nT zT kT fT ++ E) res.2)) A) args s 0 0 A) (zW cy ad shC (tB cy (ad 152) vT nT zT kT fT ++ E) X) 57 [(0, .ref (ad 149)), (1, .ref (ad 152)), (3, .int v3), (4, .int v4), (5, .int v5)] [] := by
  intro fu
  induction fu with
  | zero => intro X v5 h; simp [f_X1_isCommandRead_L57] at h
  | succ fu ih =>
    intro X v5 h
    rw [f_X1_isCommandRead_L57] at h
    refine g_iload (j := 4) C dX1_isCommandRead_57 rfl ?_
    refine g_iload (j := 3) C dX1_isCommandRead_59 rfl ?_
    refine g_icmp_ge C dX1_isCommandRead_61 (tgt := 113) (by decide) (fun hc_1009 => ?_) (fun hc_1009 => ?_)
    · replace h := (if_pos hc_1009).symm.trans h
      refine g_iconst (v := (nI 1)) C dX1_isCommandRead_113 (by decide) ?_
      obtain rfl := Option.some.inj h
      exact t_iret C hr (z_nb (Or.inr rfl)) ⟨rfl, rfl⟩ (Nat.le_refl _) (Nat.le_refl _) dX1_isCommandRead_114
    · replace h := (if_neg hc_1009).symm.trans h
      refine g_aload_n (j := 0) C dX1_isCommandRead_64 rfl rfl ?_
      refine g_aload_n (j := 1) C dX1_isCommandRead_65 rfl rfl ?_
      refine g_bipush (v := (nI 32)) C dX1_isCommandRead_66 (by decide) ?_
      obtain ⟨q_1010, e_1011, h⟩ := zlet_ex h
      refine t_Vi (As := [.ref (ad 152), .int (nI 32)]) (rest := []) zEr_ge hE C (c_X1_isSignRead l D cy vT nT zT kT fT hkT hnT ad E X (nI 32)) zml_RX1_37 zcv_X1_isSignRead (zRec.of C rfl (zW_get X sC_149)) rfl rfl ⟨Nat.le_of_ble_eq_true rfl, Nat.le_of_ble_eq_true rfl⟩ rfl rfl (Nat.le_of_ble_eq_true rfl) ⟨Nat.zero_le _, Nat.zero_le _⟩ dX1_isCommandRead_68 ?_
      intro r w h9
      rw [← e_1011] at h9
      obtain ⟨h9a, rfl⟩ := h9
      subst r
      refine g_if_eq C dX1_isCommandRead_71 (tgt := 88) (by decide) (fun hc_1012 => ?_) (fun hc_1012 => ?_)
      · replace h := (if_pos hc_1012).symm.trans h
        refine g_iconst (v := (nI 0)) C dX1_isCommandRead_88 (by decide) ?_
        obtain rfl := Option.some.inj h
        exact t_iret C hr (z_nb (Or.inl rfl)) ⟨rfl, rfl⟩ (Nat.le_refl _) (Nat.le_refl _) dX1_isCommandRead_89
      · replace h := (if_neg hc_1012).symm.trans h
        refine g_aload_n (j := 1) C dX1_isCommandRead_74 rfl rfl ?_
        refine g_aload_n (j := 0) C dX1_isCommandRead_75 rfl rfl ?_
        refine g_geti (k := 1) (N := 2) C sC_149 rfl zin_RX1 (by decide) rfl zfl_RX1_20 rfl dX1_isCommandRead_76 ?_
        refine t_Si (As := [.ref (ad 152), .int (q_1010.2 149 1)]) (rest := []) zEr_ge hE C (c_X1_signAt l D cy vT nT zT kT fT hkT hnT ad E q_1010.2 (q_1010.2 149 1)) zml_RX1_45 zcs_X1_signAt rfl rfl ⟨Nat.le_of_ble_eq_true rfl, Nat.le_of_ble_eq_true rfl⟩ rfl rfl (Nat.le_of_ble_eq_true rfl) ⟨Nat.zero_le _, Nat.zero_le _⟩ dX1_isCommandRead_79 ?_
        intro r w h9
        obtain ⟨h9a, rfl⟩ := h9
        subst r
        refine g_si (ws' := (zW cy ad shC (tB cy (ad 152) vT nT zT kT fT ++ E) q_1010.2)) (As := [.int (f_X1_signAt kT fT (q_1010.2 149 1))]) (rest := []) (res := (f_X1_isDigit (f_X1_signAt kT fT (q_1010.2 149 1)))) C (c_X1_isDigit l D cy (zW cy ad shC (tB cy (ad 152) vT nT zT kT fT ++ E) q_1010.2) (f_X1_signAt kT fT (q_1010.2 149 1))) zml_RX1_64 zcs_X1_isDigit rfl rfl ⟨Nat.le_of_ble_eq_true rfl, Nat.le_of_ble_eq_true rfl⟩ rfl rfl (Nat.le_of_ble_eq_true rfl) ⟨Nat.zero_le _, Nat.zero_le _⟩ dX1_isCommandRead_82 ?_
        refine g_if_ne C dX1_isCommandRead_85 (tgt := 90) (by decide) (fun hc_1013 => ?_) (fun hc_1013 => ?_)
        · replace h := (if_neg hc_1013).symm.trans h
          refine g_aload_n (j := 0) C dX1_isCommandRead_90 rfl rfl ?_
          refine g_getr (k := 0) (N := 2) C sC_149 rfl zin_RX1 (by decide) rfl zfl_RX1_14 rfl dX1_isCommandRead_91 ?_
          refine g_iload_n (j := 2) C dX1_isCommandRead_94 rfl rfl ?_
          refine g_iconst (v := (nI 1)) C dX1_isCommandRead_95 (by decide) ?_
          refine g_iload (j := 4) C dX1_isCommandRead_96 rfl ?_
          refine g_iadd C dX1_isCommandRead_98 ?_
          refine g_aload_n (j := 0) C dX1_isCommandRead_99 rfl rfl ?_
          refine g_aload_n (j := 1) C dX1_isCommandRead_100 rfl rfl ?_
          obtain ⟨q_1014, hq_1015, h⟩ := bind_isome h
          refine t_Vi (As := [.ref (ad 152)]) (rest := [.int ((nI 1) + v5), .int v3, .ref (ad 150)]) zEr_ge hE C (c_X1_readNumber l D cy vT nT zT kT fT hkT hnT ad E q_1010.2 hq_1015) zml_RX1_68 zcv_X1_readNumber (zRec.of C rfl (zW_get q_1010.2 sC_149)) rfl rfl ⟨Nat.le_of_ble_eq_true rfl, Nat.le_of_ble_eq_true rfl⟩ rfl rfl (Nat.le_of_ble_eq_true rfl) ⟨Nat.zero_le _, Nat.zero_le _⟩ dX1_isCommandRead_101 ?_
          intro r w h9
          obtain ⟨h9a, rfl⟩ := h9
          subst r
          obtain ⟨X_1016, e_1017, h⟩ := zlet_ex h
          refine g_vv (ws' := (zW cy ad shC (tB cy (ad 152) vT nT zT kT fT ++ E) X_1016)) (As := [.int v3, .int ((nI 1) + v5), .int q_1014.1]) (rest := []) C ((by rw [e_1017]; exact c_X4_put l D cy ad (tB cy (ad 152) vT nT zT kT fT ++ E) q_1014.2 150 40 sC_150 sC_151 (by decide) v3 ((nI 1) + v5) q_1014.1)) zml_RX1_56 zcv_X4_put (zW_get q_1014.2 sC_150) rfl rfl rfl ⟨Nat.le_of_ble_eq_true rfl, Nat.le_of_ble_eq_true rfl⟩ rfl rfl (Nat.le_of_ble_eq_true rfl) ⟨Nat.zero_le _, Nat.zero_le _⟩ dX1_isCommandRead_104 ?_
          refine g_iinc (k := 4) (L' := [(5, .int (v5 + 1)), (0, .ref (ad 149)), (1, .ref (ad 152)), (3, .int v3), (4, .int v4)]) C dX1_isCommandRead_107 rfl (z_iinc (by decide)) (by decide) rfl ?_
          refine g_goto C dX1_isCommandRead_110 (tgt := 57) (by decide) ?_
          refine zG_sub (L' := [(0, .ref (ad 149)), (1, .ref (ad 152)), (3, .int v3), (4, .int v4), (5, .int (v5 + 1))]) [1, 2, 3, 4, 0] rfl ?_
          exact ih X_1016 (v5 + 1) h
        · replace h := (if_pos hc_1013).symm.trans h
          refine g_iconst (v := (nI 0)) C dX1_isCommandRead_88 (by decide) ?_
          obtain rfl := Option.some.inj h
          exact t_iret C hr (z_nb (Or.inl rfl)) ⟨rfl, rfl⟩ (Nat.le_refl _) (Nat.le_refl _) dX1_isCommandRead_89
def f_X1_isCommandRead (kT : Nat) (fT : Nat → Int32) (X : Nat → Nat → Int32) : Option (Int32 × (Nat → Nat → Int32)) := ((f_X1_readWord kT fT X).bind fun q_1 => (if q_1.1 = (-1 : Int32) then some ((nI 0), q_1.2) else ((f_X4_addRow q_1.2 150 40).bind fun q_4 => (zlet (f_X4_put q_4.2 150 40 q_4.1 (nI 0) q_1.1) fun X_6 => (if q_1.1 < 0 then f_X1_isCommandRead_L57 kT fT q_4.1 (nI 0) zFuel X_6 (nI 0) else (if (nI 5) ≤ q_1.1 then f_X1_isCommandRead_L57 kT fT q_4.1 (nI 0) zFuel X_6 (nI 0) else f_X1_isCommandRead_L57 kT fT q_4.1 (zNum q_1.1) zFuel X_6 (nI 0)))))))
set_option maxRecDepth 100000 in
set_option maxHeartbeats 4000000 in
theorem c_X1_isCommandRead (l : Launch) (D : va_G) (cy : Nat → ClassId) (vT nT : Nat) (zT : Int32) (kT : Nat) (fT : Nat → Int32) (hkT : kT ≤ nT) (hnT : nT < 2 ^ 31) (ad : Nat → Nat) (E : va_W) (X : Nat → Nat → Int32) {res : Int32 × (Nat → Nat → Int32)} (h : f_X1_isCommandRead kT fT X = some res) : zMt l yX1_isCommandRead cX1_isCommandRead 6 (some .boolean) (zrm 8) D (zTy cy) zEr (zW cy ad shC (tB cy (ad 152) vT nT zT kT fT ++ E) X) [.ref (ad 149), .ref (ad 152)] 0 0 (tI D (zTy cy) (fun r w => r = res.1 ∧ w = (zW cy ad shC (tB cy (ad 152) vT nT zT kT fT ++ E) res.2))) := by
  refine zMt.of (by decide) (Nat.le_of_ble_eq_true rfl) ?_
  intro p e s m below meth c A C hr hE
  unfold f_X1_isCommandRead at h
  refine zG_L (L' := [(0, .ref (ad 149)), (1, .ref (ad 152))]) rfl ?_
  refine g_aload_n (j := 0) C dX1_isCommandRead_0 rfl rfl ?_
  refine g_aload_n (j := 1) C dX1_isCommandRead_1 rfl rfl ?_
  obtain ⟨q_1, hq_2, h⟩ := bind_isome h
  refine t_Vi (As := [.ref (ad 152)]) (rest := []) zEr_ge hE C (c_X1_readWord l D cy vT nT zT kT fT hkT hnT ad E X hq_2) zml_RX1_49 zcv_X1_readWord (zRec.of C rfl (zW_get X sC_149)) rfl rfl ⟨Nat.le_of_ble_eq_true rfl, Nat.le_of_ble_eq_true rfl⟩ rfl rfl (Nat.le_of_ble_eq_true rfl) ⟨Nat.zero_le _, Nat.zero_le _⟩ dX1_isCommandRead_2 ?_
  intro r w h9
  obtain ⟨h9a, rfl⟩ := h9
  subst r
  refine g_istore_n (L' := [(2, .int q_1.1), (0, .ref (ad 149)), (1, .ref (ad 152))]) C dX1_isCommandRead_5 rfl (by decide) rfl ?_
  refine g_iload_n (j := 0) C dX1_isCommandRead_6 rfl rfl ?_
  refine g_iconst (v := (-1 : Int32)) C dX1_isCommandRead_7 (by decide) ?_
  refine g_icmp_ne C dX1_isCommandRead_8 (tgt := 13) (by decide) (fun hc_3 => ?_) (fun hc_3 => ?_)
  · replace h := (if_neg hc_3).symm.trans h
    refine g_aload_n (j := 1) C dX1_isCommandRead_13 rfl rfl ?_
    refine g_getr (k := 0) (N := 2) C sC_149 rfl zin_RX1 (by decide) rfl zfl_RX1_14 rfl dX1_isCommandRead_14 ?_
    obtain ⟨q_4, hq_5, h⟩ := bind_isome h
    refine g_vi (ws' := (zW cy ad shC (tB cy (ad 152) vT nT zT kT fT ++ E) q_4.2)) (As := []) (rest := []) (res := q_4.1) C (c_X4_addRow l D cy ad (tB cy (ad 152) vT nT zT kT fT ++ E) q_1.2 150 40 sC_150 sC_151 (by decide) hq_5) zml_RX1_53 zcv_X4_addRow (zW_get q_1.2 sC_150) rfl rfl rfl ⟨Nat.le_of_ble_eq_true rfl, Nat.le_of_ble_eq_true rfl⟩ rfl rfl (Nat.le_of_ble_eq_true rfl) ⟨Nat.zero_le _, Nat.zero_le _⟩ dX1_isCommandRead_17 ?_
    refine g_istore_n (L' := [(3, .int q_4.1), (2, .int q_1.1), (0, .ref (ad 149)), (1, .ref (ad 152))]) C dX1_isCommandRead_20 rfl (by decide) rfl ?_
    refine g_aload_n (j := 2) C dX1_isCommandRead_21 rfl rfl ?_
    refine g_getr (k := 0) (N := 2) C sC_149 rfl zin_RX1 (by decide) rfl zfl_RX1_14 rfl dX1_isCommandRead_22 ?_
    refine g_iload_n (j := 0) C dX1_isCommandRead_25 rfl rfl ?_
    refine g_iconst (v := (nI 0)) C dX1_isCommandRead_26 (by decide) ?_
    refine g_iload_n (j := 1) C dX1_isCommandRead_27 rfl rfl ?_
    obtain ⟨X_6, e_7, h⟩ := zlet_ex h
    refine g_vv (ws' := (zW cy ad shC (tB cy (ad 152) vT nT zT kT fT ++ E) X_6)) (As := [.int q_4.1, .int (nI 0), .int q_1.1]) (rest := []) C ((by rw [e_7]; exact c_X4_put l D cy ad (tB cy (ad 152) vT nT zT kT fT ++ E) q_4.2 150 40 sC_150 sC_151 (by decide) q_4.1 (nI 0) q_1.1)) zml_RX1_56 zcv_X4_put (zW_get q_4.2 sC_150) rfl rfl rfl ⟨Nat.le_of_ble_eq_true rfl, Nat.le_of_ble_eq_true rfl⟩ rfl rfl (Nat.le_of_ble_eq_true rfl) ⟨Nat.zero_le _, Nat.zero_le _⟩ dX1_isCommandRead_28 ?_
    refine g_iload_n (j := 1) C dX1_isCommandRead_31 rfl rfl ?_
    refine g_if_lt C dX1_isCommandRead_32 (tgt := 51) (by decide) (fun hc_8 => ?_) (fun hc_8 => ?_)
    · replace h := (if_pos hc_8).symm.trans h
      refine g_iconst (v := (nI 0)) C dX1_isCommandRead_51 (by decide) ?_
      refine g_istore (L' := [(4, .int (nI 0)), (3, .int q_4.1), (2, .int q_1.1), (0, .ref (ad 149)), (1, .ref (ad 152))]) C dX1_isCommandRead_52 (by decide) rfl ?_
      refine g_iconst (v := (nI 0)) C dX1_isCommandRead_54 (by decide) ?_
      refine g_istore (L' := [(5, .int (nI 0)), (4, .int (nI 0)), (3, .int q_4.1), (2, .int q_1.1), (0, .ref (ad 149)), (1, .ref (ad 152))]) C dX1_isCommandRead_55 (by decide) rfl ?_
      refine zG_sub (L' := [(0, .ref (ad 149)), (1, .ref (ad 152)), (3, .int q_4.1), (4, .int (nI 0)), (5, .int (nI 0))]) [4, 5, 2, 1, 0] rfl ?_
      exact w_X1_isCommandRead_L57 l D cy vT nT zT kT fT hkT hnT ad E q_4.1 (nI 0) C hE hr zFuel X_6 (nI 0) h
    · replace h := (if_neg hc_8).symm.trans h
      refine g_iload_n (j := 1) C dX1_isCommandRead_35 rfl rfl ?_
      obtain ⟨tN, hN1, hN2⟩ := hE.2.2
      refine p_gets C hN1 zfs_RX1_60 dX1_isCommandRead_36 ?_
      refine p_tlen (N := 5) C hN2 dX1_isCommandRead_39 ?_
      refine g_icmp_ge C dX1_isCommandRead_40 (tgt := 51) (by decide) (fun hc_1018 => ?_) (fun hc_1018 => ?_)
      · replace h := (if_pos hc_1018).symm.trans h
        refine g_iconst (v := (nI 0)) C dX1_isCommandRead_51 (by decide) ?_
        refine g_istore (L' := [(4, .int (nI 0)), (3, .int q_4.1), (2, .int q_1.1), (0, .ref (ad 149)), (1, .ref (ad 152))]) C dX1_isCommandRead_52 (by decide) rfl ?_
        refine g_iconst (v := (nI 0)) C dX1_isCommandRead_54 (by decide) ?_
        refine g_istore (L' := [(5, .int (nI 0)), (4, .int (nI 0)), (3, .int q_4.1), (2, .int q_1.1), (0, .ref (ad 149)), (1, .ref (ad 152))]) C dX1_isCommandRead_55 (by decide) rfl ?_
        refine zG_sub (L' := [(0, .ref (ad 149)), (1, .ref (ad 152)), (3, .int q_4.1), (4, .int (nI 0)), (5, .int (nI 0))]) [4, 5, 2, 1, 0] rfl ?_
        exact w_X1_isCommandRead_L57 l D cy vT nT zT kT fT hkT hnT ad E q_4.1 (nI 0) C hE hr zFuel X_6 (nI 0) h
      · replace h := (if_neg hc_1018).symm.trans h
        obtain ⟨tN, hN1, hN2⟩ := hE.2.2
        refine p_gets C hN1 zfs_RX1_60 dX1_isCommandRead_43 ?_
        refine g_iload_n (j := 1) C dX1_isCommandRead_46 rfl rfl ?_
        refine p_ti (v := .int (zNum q_1.1)) C hN2 (z_in (by decide) hc_8 hc_1018) rfl dX1_isCommandRead_47 ?_
        refine g_goto C dX1_isCommandRead_48 (tgt := 52) (by decide) ?_
        refine g_istore (L' := [(4, .int (zNum q_1.1)), (3, .int q_4.1), (2, .int q_1.1), (0, .ref (ad 149)), (1, .ref (ad 152))]) C dX1_isCommandRead_52 (by decide) rfl ?_
        refine g_iconst (v := (nI 0)) C dX1_isCommandRead_54 (by decide) ?_
        refine g_istore (L' := [(5, .int (nI 0)), (4, .int (zNum q_1.1)), (3, .int q_4.1), (2, .int q_1.1), (0, .ref (ad 149)), (1, .ref (ad 152))]) C dX1_isCommandRead_55 (by decide) rfl ?_
        refine zG_sub (L' := [(0, .ref (ad 149)), (1, .ref (ad 152)), (3, .int q_4.1), (4, .int (zNum q_1.1)), (5, .int (nI 0))]) [4, 5, 2, 1, 0] rfl ?_
        exact w_X1_isCommandRead_L57 l D cy vT nT zT kT fT hkT hnT ad E q_4.1 (zNum q_1.1) C hE hr zFuel X_6 (nI 0) h
  · replace h := (if_pos hc_3).symm.trans h
    refine g_iconst (v := (nI 0)) C dX1_isCommandRead_11 (by decide) ?_
    obtain rfl := Option.some.inj h
    exact t_iret C hr (z_nb (Or.inl rfl)) ⟨rfl, rfl⟩ (Nat.le_refl _) (Nat.le_refl _) dX1_isCommandRead_12
def f_X1_isText_L14 (kT : Nat) (fT : Nat → Int32) : Nat → (Nat → Nat → Int32) → Int32 → Option (Int32 × (Nat → Nat → Int32))
  | 0, _, _ => none
  | fu + 1, X, v2 => (if (nI 60) < v2 then some ((nI 0), X) else ((f_X1_isCommandRead kT fT X).bind fun q_1006 => (if q_1006.1 = 0 then some ((nI 0), q_1006.2) else (if (q_1006.2 149 1) = (nI kT) then some ((nI 1), q_1006.2) else (zlet (f_X1_isSignRead kT fT q_1006.2 (nI 59)) fun q_1010 => (if q_1010.1 = 0 then some ((nI 0), q_1010.2) else f_X1_isText_L14 kT fT fu q_1010.2 (v2 + 1)))))))
set_option maxRecDepth 100000 in
set_option maxHeartbeats 4000000 in
theorem w_X1_isText_L14 {p : Program} {e : Env} {s : State} {m : MethodId} {args : Array Value} {below : List Frame} {meth : Method} {c : Code} {A : Nat → Prop} (l : Launch) (D : va_G) (cy : Nat → ClassId) (vT nT : Nat) (zT : Int32) (kT : Nat) (fT : Nat → Int32) (hkT : kT ≤ nT) (hnT : nT < 2 ^ 31) (ad : Nat → Nat) (E : va_W) {res : Int32 × (Nat → Nat → Int32)} (C : zC p s m args meth c cX1_isText 3 RX1 D (zTy cy) A) (hE : zEr A s s.heap) (hr : meth.sig.returnType = (some .boolean)) : ∀ (fu : Nat) (X : Nat → Nat → Int32) (v2 : Int32) (h : f_X1_isText_L14 kT fT fu X v2 = some res), zG p l e (zrm 9) s m args below meth c 3 D A 0 0 (MQ below (tI D (zTy cy) (fun r w => r = res.1 ∧ w = (zW cy ad shC (tB cy (ad 152) vT nT zT kT fT ++ E) res.2)) A) args s 0 0 A) (zW cy ad shC (tB cy (ad 152) vT nT zT kT fT ++ E) X) 14 [(0, .ref (ad 149)), (1, .ref (ad 152)), (2, .int v2)] [] := by
  intro fu
  induction fu with
  | zero => intro X v2 h; simp [f_X1_isText_L14] at h
  | succ fu ih =>
    intro X v2 h
    rw [f_X1_isText_L14] at h
    refine g_iload_n (j := 2) C dX1_isText_14 rfl rfl ?_
    refine g_bipush (v := (nI 60)) C dX1_isText_15 (by decide) ?_
    refine g_icmp_gt C dX1_isText_17 (tgt := 61) (by decide) (fun hc_1005 => ?_) (fun hc_1005 => ?_)
    · replace h := (if_pos hc_1005).symm.trans h
      refine g_iconst (v := (nI 0)) C dX1_isText_61 (by decide) ?_
      obtain rfl := Option.some.inj h
      exact t_iret C hr (z_nb (Or.inl rfl)) ⟨rfl, rfl⟩ (Nat.le_refl _) (Nat.le_refl _) dX1_isText_62
    · replace h := (if_neg hc_1005).symm.trans h
      refine g_aload_n (j := 0) C dX1_isText_20 rfl rfl ?_
      refine g_aload_n (j := 1) C dX1_isText_21 rfl rfl ?_
      obtain ⟨q_1006, hq_1007, h⟩ := bind_isome h
      refine t_Vi (As := [.ref (ad 152)]) (rest := []) zEr_ge hE C (c_X1_isCommandRead l D cy vT nT zT kT fT hkT hnT ad E X hq_1007) zml_RX1_27 zcv_X1_isCommandRead (zRec.of C rfl (zW_get X sC_149)) rfl rfl ⟨Nat.le_of_ble_eq_true rfl, Nat.le_of_ble_eq_true rfl⟩ rfl rfl (Nat.le_of_ble_eq_true rfl) ⟨Nat.zero_le _, Nat.zero_le _⟩ dX1_isText_22 ?_
      intro r w h9
      obtain ⟨h9a, rfl⟩ := h9
      subst r
      refine g_if_ne C dX1_isText_25 (tgt := 30) (by decide) (fun hc_1008 => ?_) (fun hc_1008 => ?_)
      · replace h := (if_neg hc_1008).symm.trans h
        refine g_aload_n (j := 0) C dX1_isText_30 rfl rfl ?_
        refine g_geti (k := 1) (N := 2) C sC_149 rfl zin_RX1 (by decide) rfl zfl_RX1_20 rfl dX1_isText_31 ?_
        refine g_aload_n (j := 1) C dX1_isText_34 rfl rfl ?_
        refine zG.less (ws' := (tB cy (ad 152) vT nT zT kT fT) ++ (z_rend cy ad q_1006.2 0 shC ++ E)) (l' := (zW cy ad shC (tB cy (ad 152) vT nT zT kT fT ++ E) q_1006.2)) (zpT _ _ _) (List.Sublist.refl _) ?_
        refine t_Vi (As := []) (rest := [.int (q_1006.2 149 1)]) zEn_ge hE.1 C (c_length l D cy (z_rend cy ad q_1006.2 0 shC ++ E) (ad 152) vT nT kT zT fT) zml_RX1_31 zcv_J4_length_8abf5 (zRec.of C (ci := 1) (q0 := 0) rfl rfl) rfl rfl ⟨Nat.le_of_ble_eq_true rfl, Nat.le_of_ble_eq_true rfl⟩ rfl rfl (Nat.le_of_ble_eq_true rfl) ⟨Nat.zero_le _, Nat.zero_le _⟩ dX1_isText_35 ?_
        intro r w h9
        obtain ⟨rfl, rfl⟩ := h9
        refine zG.less (ws' := (zW cy ad shC (tB cy (ad 152) vT nT zT kT fT ++ E) q_1006.2)) (l' := (tB cy (ad 152) vT nT zT kT fT) ++ (z_rend cy ad q_1006.2 0 shC ++ E)) (zpT _ _ _).symm (List.Sublist.refl _) ?_
        refine g_icmp_ne C dX1_isText_38 (tgt := 43) (by decide) (fun hc_1009 => ?_) (fun hc_1009 => ?_)
        · replace h := (if_neg hc_1009).symm.trans h
          refine g_aload_n (j := 0) C dX1_isText_43 rfl rfl ?_
          refine g_aload_n (j := 1) C dX1_isText_44 rfl rfl ?_
          refine g_bipush (v := (nI 59)) C dX1_isText_45 (by decide) ?_
          obtain ⟨q_1010, e_1011, h⟩ := zlet_ex h
          refine t_Vi (As := [.ref (ad 152), .int (nI 59)]) (rest := []) zEr_ge hE C (c_X1_isSignRead l D cy vT nT zT kT fT hkT hnT ad E q_1006.2 (nI 59)) zml_RX1_37 zcv_X1_isSignRead (zRec.of C rfl (zW_get q_1006.2 sC_149)) rfl rfl ⟨Nat.le_of_ble_eq_true rfl, Nat.le_of_ble_eq_true rfl⟩ rfl rfl (Nat.le_of_ble_eq_true rfl) ⟨Nat.zero_le _, Nat.zero_le _⟩ dX1_isText_47 ?_
          intro r w h9
          rw [← e_1011] at h9
          obtain ⟨h9a, rfl⟩ := h9
          subst r
          refine g_if_ne C dX1_isText_50 (tgt := 55) (by decide) (fun hc_1012 => ?_) (fun hc_1012 => ?_)
          · replace h := (if_neg hc_1012).symm.trans h
            refine g_iinc (k := 2) (L' := [(2, .int (v2 + 1)), (0, .ref (ad 149)), (1, .ref (ad 152))]) C dX1_isText_55 rfl (z_iinc (by decide)) (by decide) rfl ?_
            refine g_goto C dX1_isText_58 (tgt := 14) (by decide) ?_
            refine zG_sub (L' := [(0, .ref (ad 149)), (1, .ref (ad 152)), (2, .int (v2 + 1))]) [1, 2, 0] rfl ?_
            exact ih q_1010.2 (v2 + 1) h
          · replace h := (if_pos hc_1012).symm.trans h
            refine g_iconst (v := (nI 0)) C dX1_isText_53 (by decide) ?_
            obtain rfl := Option.some.inj h
            exact t_iret C hr (z_nb (Or.inl rfl)) ⟨rfl, rfl⟩ (Nat.le_refl _) (Nat.le_refl _) dX1_isText_54
        · replace h := (if_pos hc_1009).symm.trans h
          refine g_iconst (v := (nI 1)) C dX1_isText_41 (by decide) ?_
          obtain rfl := Option.some.inj h
          exact t_iret C hr (z_nb (Or.inr rfl)) ⟨rfl, rfl⟩ (Nat.le_refl _) (Nat.le_refl _) dX1_isText_42
      · replace h := (if_pos hc_1008).symm.trans h
        refine g_iconst (v := (nI 0)) C dX1_isText_28 (by decide) ?_
        obtain rfl := Option.some.inj h
        exact t_iret C hr (z_nb (Or.inl rfl)) ⟨rfl, rfl⟩ (Nat.le_refl _) (Nat.le_refl _) dX1_isText_29
def f_X1_isText (kT : Nat) (fT : Nat → Int32) (X : Nat → Nat → Int32) : Option (Int32 × (Nat → Nat → Int32)) := (zlet (zU X 149 1 (nI 0)) fun X_1 => (zlet (f_X4_clear X_1 150 40) fun X_3 => f_X1_isText_L14 kT fT zFuel X_3 (nI 0)))
set_option maxRecDepth 100000 in
set_option maxHeartbeats 4000000 in
theorem c_X1_isText (l : Launch) (D : va_G) (cy : Nat → ClassId) (vT nT : Nat) (zT : Int32) (kT : Nat) (fT : Nat → Int32) (hkT : kT ≤ nT) (hnT : nT < 2 ^ 31) (ad : Nat → Nat) (E : va_W) (X : Nat → Nat → Int32) {res : Int32 × (Nat → Nat → Int32)} (h : f_X1_isText kT fT X = some res) : zMt l yX1_isText cX1_isText 3 (some .boolean) (zrm 9) D (zTy cy) zEr (zW cy ad shC (tB cy (ad 152) vT nT zT kT fT ++ E) X) [.ref (ad 149), .ref (ad 152)] 0 0 (tI D (zTy cy) (fun r w => r = res.1 ∧ w = (zW cy ad shC (tB cy (ad 152) vT nT zT kT fT ++ E) res.2))) := by
  refine zMt.of (by decide) (Nat.le_of_ble_eq_true rfl) ?_
  intro p e s m below meth c A C hr hE
  unfold f_X1_isText at h
  refine zG_L (L' := [(0, .ref (ad 149)), (1, .ref (ad 152))]) rfl ?_
  refine g_aload_n (j := 0) C dX1_isText_0 rfl rfl ?_
  refine g_iconst (v := (nI 0)) C dX1_isText_1 (by decide) ?_
  refine g_puti (k := 1) (N := 2) (ty := .int) C sC_149 rfl zin_RX1 (by decide) rfl zfl_RX1_20 rfl tyX1_ok nmX1 rfl (by decide +kernel) rfl rfl dX1_isText_2 ?_
  obtain ⟨X_1, e_2, h⟩ := zlet_ex h
  rw [← e_2]
  refine g_aload_n (j := 0) C dX1_isText_5 rfl rfl ?_
  refine g_getr (k := 0) (N := 2) C sC_149 rfl zin_RX1 (by decide) rfl zfl_RX1_14 rfl dX1_isText_6 ?_
  obtain ⟨X_3, e_4, h⟩ := zlet_ex h
  refine g_vv (ws' := (zW cy ad shC (tB cy (ad 152) vT nT zT kT fT ++ E) X_3)) (As := []) (rest := []) C ((by rw [e_4]; exact c_X4_clear l D cy ad (tB cy (ad 152) vT nT zT kT fT ++ E) X_1 150 40 sC_150 sC_151 (by decide))) zml_RX1_24 zcv_X4_clear (zW_get X_1 sC_150) rfl rfl rfl ⟨Nat.le_of_ble_eq_true rfl, Nat.le_of_ble_eq_true rfl⟩ rfl rfl (Nat.le_of_ble_eq_true rfl) ⟨Nat.zero_le _, Nat.zero_le _⟩ dX1_isText_9 ?_
  refine g_iconst (v := (nI 0)) C dX1_isText_12 (by decide) ?_
  refine g_istore_n (L' := [(2, .int (nI 0)), (0, .ref (ad 149)), (1, .ref (ad 152))]) C dX1_isText_13 rfl (by decide) rfl ?_
  refine zG_sub (L' := [(0, .ref (ad 149)), (1, .ref (ad 152)), (2, .int (nI 0))]) [1, 2, 0] rfl ?_
  exact w_X1_isText_L14 l D cy vT nT zT kT fT hkT hnT ad E C hE hr zFuel X_3 (nI 0) h
