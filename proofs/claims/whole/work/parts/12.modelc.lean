/-! laid by wip/whole/mkparts.py -/
theorem hd_X6_reel : yX6_reel.cls = RX6 ∧ yX6_reel.cls ≠ "java/lang/invoke/MethodHandle" ∧ yX6_reel.cls ≠ "java/lang/invoke/VarHandle" ∧ (parseMethodDescriptor yX6_reel.desc).map (fun d => d.parameters.length) = some 3 := by decide +kernel
def f_X6_reel (X : Nat → Nat → Int32) (v1 v2 v3 : Int32) : Option (Int32 × (Nat → Nat → Int32)) := (if (f_X6_isFilm X v1) = 0 then (zlet (f_X6_fails X (1 : Int32)) fun q_14 => some (q_14.1, q_14.2)) else (if (f_X6_isDay v2) = 0 then (zlet (f_X6_fails X (2 : Int32)) fun q_12 => some (q_12.1, q_12.2)) else ((f_X6_bestReel X v1 v2).bind fun q_3 => (if v3 = 0 then (zlet (f_X6_done X q_3) fun q_6 => some (q_6.1, q_6.2)) else ((f_X6_lengthOf X q_3).bind fun q_8 => (zlet (f_X6_done X q_8) fun q_10 => some (q_10.1, q_10.2)))))))
set_option maxRecDepth 100000 in
set_option maxHeartbeats 4000000 in
theorem c_X6_reel (l : Launch) (D : va_G) (cy : Nat → ClassId) (ad : Nat → Nat) (E : va_W) (X : Nat → Nat → Int32) (v1 v2 v3 : Int32) {res : Int32 × (Nat → Nat → Int32)} (h : f_X6_reel X v1 v2 v3 = some res) : zMi l yX6_reel wsX6_reel (zrm 5) D (zTy cy) (zW cy ad shM E X) [.ref (ad 0), .int v1, .int v2, .int v3] res.1 (zW cy ad shM E res.2) := by
  refine zMi.of (cc := cX6_reel) (maxL := 5) (ret := (some .int)) (by decide) rfl (Nat.le_of_ble_eq_true rfl) ?_
  intro p e s m below meth c A C hr
  unfold f_X6_reel at h
  refine zG_L (L' := [(0, .ref (ad 0)), (1, .int v1), (2, .int v2), (3, .int v3)]) rfl ?_
  refine g_aload_n (j := 0) C dX6_reel_0 rfl rfl ?_
  refine g_iload_n (j := 1) C dX6_reel_1 rfl rfl ?_
  refine g_vi (ws' := (zW cy ad shM E X)) (As := [.int v1]) (rest := []) (res := (f_X6_isFilm X v1)) C (c_X6_isFilm l D cy ad E X v1) gX6_reel_X6_isFilm rfl hd_X6_isFilm (zW_get X sM_0) rfl rfl rfl ⟨Nat.le_of_ble_eq_true rfl, Nat.le_of_ble_eq_true rfl⟩ rfl rfl (Nat.le_of_ble_eq_true rfl) ⟨Nat.zero_le _, Nat.zero_le _⟩ dX6_reel_2 ?_
  refine g_if_ne C dX6_reel_5 (tgt := 14) (by decide) (fun hc_1 => ?_) (fun hc_1 => ?_)
  · replace h := (if_neg hc_1).symm.trans h
    refine g_iload_n (j := 2) C dX6_reel_14 rfl rfl ?_
    refine g_si (ws' := (zW cy ad shM E X)) (As := [.int v2]) (rest := []) (res := (f_X6_isDay v2)) C (c_X6_isDay l D cy (zW cy ad shM E X) v2) gX6_reel_X6_isDay rfl hd_X6_isDay rfl rfl ⟨Nat.le_of_ble_eq_true rfl, Nat.le_of_ble_eq_true rfl⟩ rfl rfl (Nat.le_of_ble_eq_true rfl) ⟨Nat.zero_le _, Nat.zero_le _⟩ dX6_reel_15 ?_
    refine g_if_ne C dX6_reel_18 (tgt := 27) (by decide) (fun hc_2 => ?_) (fun hc_2 => ?_)
    · replace h := (if_neg hc_2).symm.trans h
      refine g_aload_n (j := 0) C dX6_reel_27 rfl rfl ?_
      refine g_iload_n (j := 1) C dX6_reel_28 rfl rfl ?_
      refine g_iload_n (j := 2) C dX6_reel_29 rfl rfl ?_
      obtain ⟨q_3, hq_4, h⟩ := bind_isome h
      refine g_vi (ws' := (zW cy ad shM E X)) (As := [.int v1, .int v2]) (rest := []) (res := q_3) C (c_X6_bestReel l D cy ad E X v1 v2 hq_4) gX6_reel_X6_bestReel rfl hd_X6_bestReel (zW_get X sM_0) rfl rfl rfl ⟨Nat.le_of_ble_eq_true rfl, Nat.le_of_ble_eq_true rfl⟩ rfl rfl (Nat.le_of_ble_eq_true rfl) ⟨Nat.zero_le _, Nat.zero_le _⟩ dX6_reel_30 ?_
      refine g_istore (L' := [(4, .int q_3), (0, .ref (ad 0)), (1, .int v1), (2, .int v2), (3, .int v3)]) C dX6_reel_33 (by decide) rfl ?_
      refine g_aload_n (j := 1) C dX6_reel_35 rfl rfl ?_
      refine g_iload_n (j := 4) C dX6_reel_36 rfl rfl ?_
      refine g_if_eq C dX6_reel_37 (tgt := 49) (by decide) (fun hc_5 => ?_) (fun hc_5 => ?_)
      · replace h := (if_pos hc_5).symm.trans h
        refine g_iload (j := 0) C dX6_reel_49 rfl ?_
        obtain ⟨q_6, e_7, h⟩ := zlet_ex h
        refine g_vi (ws' := (zW cy ad shM E q_6.2)) (As := [.int q_3]) (rest := []) (res := q_6.1) C ((by rw [e_7]; exact c_X6_done l D cy ad E X q_3)) gX6_reel_X6_done rfl hd_X6_done (zW_get X sM_0) rfl rfl rfl ⟨Nat.le_of_ble_eq_true rfl, Nat.le_of_ble_eq_true rfl⟩ rfl rfl (Nat.le_of_ble_eq_true rfl) ⟨Nat.zero_le _, Nat.zero_le _⟩ dX6_reel_51 ?_
        obtain rfl := Option.some.inj h
        exact g_iret rfl C hr rfl dX6_reel_54
      · replace h := (if_neg hc_5).symm.trans h
        refine g_aload_n (j := 1) C dX6_reel_40 rfl rfl ?_
        refine g_iload (j := 0) C dX6_reel_41 rfl ?_
        obtain ⟨q_8, hq_9, h⟩ := bind_isome h
        refine g_vi (ws' := (zW cy ad shM E X)) (As := [.int q_3]) (rest := [.ref (ad 0)]) (res := q_8) C (c_X6_lengthOf l D cy ad E X q_3 hq_9) gX6_reel_X6_lengthOf rfl hd_X6_lengthOf (zW_get X sM_0) rfl rfl rfl ⟨Nat.le_of_ble_eq_true rfl, Nat.le_of_ble_eq_true rfl⟩ rfl rfl (Nat.le_of_ble_eq_true rfl) ⟨Nat.zero_le _, Nat.zero_le _⟩ dX6_reel_43 ?_
        refine g_goto C dX6_reel_46 (tgt := 51) (by decide) ?_
        obtain ⟨q_10, e_11, h⟩ := zlet_ex h
        refine g_vi (ws' := (zW cy ad shM E q_10.2)) (As := [.int q_8]) (rest := []) (res := q_10.1) C ((by rw [e_11]; exact c_X6_done l D cy ad E X q_8)) gX6_reel_X6_done rfl hd_X6_done (zW_get X sM_0) rfl rfl rfl ⟨Nat.le_of_ble_eq_true rfl, Nat.le_of_ble_eq_true rfl⟩ rfl rfl (Nat.le_of_ble_eq_true rfl) ⟨Nat.zero_le _, Nat.zero_le _⟩ dX6_reel_51 ?_
        obtain rfl := Option.some.inj h
        exact g_iret rfl C hr rfl dX6_reel_54
    · replace h := (if_pos hc_2).symm.trans h
      refine g_aload_n (j := 0) C dX6_reel_21 rfl rfl ?_
      refine g_iconst (v := 2) C dX6_reel_22 (by decide) ?_
      obtain ⟨q_12, e_13, h⟩ := zlet_ex h
      refine g_vi (ws' := (zW cy ad shM E q_12.2)) (As := [.int (2 : Int32)]) (rest := []) (res := q_12.1) C ((by rw [e_13]; exact c_X6_fails l D cy ad E X (2 : Int32))) gX6_reel_X6_fails rfl hd_X6_fails (zW_get X sM_0) rfl rfl rfl ⟨Nat.le_of_ble_eq_true rfl, Nat.le_of_ble_eq_true rfl⟩ rfl rfl (Nat.le_of_ble_eq_true rfl) ⟨Nat.zero_le _, Nat.zero_le _⟩ dX6_reel_23 ?_
      obtain rfl := Option.some.inj h
      exact g_iret rfl C hr rfl dX6_reel_26
  · replace h := (if_pos hc_1).symm.trans h
    refine g_aload_n (j := 0) C dX6_reel_8 rfl rfl ?_
    refine g_iconst (v := 1) C dX6_reel_9 (by decide) ?_
    obtain ⟨q_14, e_15, h⟩ := zlet_ex h
    refine g_vi (ws' := (zW cy ad shM E q_14.2)) (As := [.int (1 : Int32)]) (rest := []) (res := q_14.1) C ((by rw [e_15]; exact c_X6_fails l D cy ad E X (1 : Int32))) gX6_reel_X6_fails rfl hd_X6_fails (zW_get X sM_0) rfl rfl rfl ⟨Nat.le_of_ble_eq_true rfl, Nat.le_of_ble_eq_true rfl⟩ rfl rfl (Nat.le_of_ble_eq_true rfl) ⟨Nat.zero_le _, Nat.zero_le _⟩ dX6_reel_10 ?_
    obtain rfl := Option.some.inj h
    exact g_iret rfl C hr rfl dX6_reel_13
theorem in_X6_isOther_RX6 : ∀ w ∈ u_ws RX6 TX6 27, w ∈ wsX6_isOther := by decide +kernel
theorem fl_X6_isOther_133 : (Cond.fieldLink RX6 133 RX6 (TX6 20).2.1 (TX6 20).2.2.1) ∈ wsX6_isOther := by decide +kernel
theorem fl_X6_isOther_136 : (Cond.fieldLink RX6 136 RX6 (TX6 17).2.1 (TX6 17).2.2.1) ∈ wsX6_isOther := by decide +kernel
theorem hd_X6_isOther : yX6_isOther.cls = RX6 ∧ yX6_isOther.cls ≠ "java/lang/invoke/MethodHandle" ∧ yX6_isOther.cls ≠ "java/lang/invoke/VarHandle" ∧ (parseMethodDescriptor yX6_isOther.desc).map (fun d => d.parameters.length) = some 1 := by decide +kernel
def f_X6_isOther (X : Nat → Nat → Int32) (v1 : Int32) : Option Int32 := (if v1 = (X 0 20) then some (0 : Int32) else ((f_X6_stands X v1).bind fun q_2 => (if q_2 = 0 then some (0 : Int32) else ((f_X6_showAt X v1 (2 : Int32)).bind fun q_5 => (if q_5 = (X 0 17) then some (1 : Int32) else some (0 : Int32))))))
set_option maxRecDepth 100000 in
set_option maxHeartbeats 4000000 in
theorem c_X6_isOther (l : Launch) (D : va_G) (cy : Nat → ClassId) (ad : Nat → Nat) (E : va_W) (X : Nat → Nat → Int32) (v1 : Int32) {res : Int32} (h : f_X6_isOther X v1 = some res) : zMi l yX6_isOther wsX6_isOther (zrm 3) D (zTy cy) (zW cy ad shM E X) [.ref (ad 0), .int v1] res (zW cy ad shM E X) := by
  refine zMi.of (cc := cX6_isOther) (maxL := 2) (ret := (some .boolean)) (by decide) rfl (Nat.le_of_ble_eq_true rfl) ?_
  intro p e s m below meth c A C hr
  unfold f_X6_isOther at h
  refine zG_L (L' := [(0, .ref (ad 0)), (1, .int v1)]) rfl ?_
  refine g_iload_n (j := 1) C dX6_isOther_0 rfl rfl ?_
  refine g_aload_n (j := 0) C dX6_isOther_1 rfl rfl ?_
  refine g_geti (k := 20) (N := 27) C sM_0 rfl in_X6_isOther_RX6 (by decide) rfl fl_X6_isOther_133 rfl dX6_isOther_2 ?_
  refine g_icmp_eq C dX6_isOther_5 (tgt := 33) (by decide) (fun hc_1 => ?_) (fun hc_1 => ?_)
  · replace h := (if_pos hc_1).symm.trans h
    refine g_iconst (v := 0) C dX6_isOther_33 (by decide) ?_
    obtain rfl := Option.some.inj h
    exact g_iret rfl C hr (z_nb (Or.inl rfl)) dX6_isOther_34
  · replace h := (if_neg hc_1).symm.trans h
    refine g_aload_n (j := 0) C dX6_isOther_8 rfl rfl ?_
    refine g_iload_n (j := 1) C dX6_isOther_9 rfl rfl ?_
    obtain ⟨q_2, hq_3, h⟩ := bind_isome h
    refine g_vi (ws' := (zW cy ad shM E X)) (As := [.int v1]) (rest := []) (res := q_2) C (c_X6_stands l D cy ad E X v1 hq_3) gX6_isOther_X6_stands rfl hd_X6_stands (zW_get X sM_0) rfl rfl rfl ⟨Nat.le_of_ble_eq_true rfl, Nat.le_of_ble_eq_true rfl⟩ rfl rfl (Nat.le_of_ble_eq_true rfl) ⟨Nat.zero_le _, Nat.zero_le _⟩ dX6_isOther_10 ?_
    refine g_if_eq C dX6_isOther_13 (tgt := 33) (by decide) (fun hc_4 => ?_) (fun hc_4 => ?_)
    · replace h := (if_pos hc_4).symm.trans h
      refine g_iconst (v := 0) C dX6_isOther_33 (by decide) ?_
      obtain rfl := Option.some.inj h
      exact g_iret rfl C hr (z_nb (Or.inl rfl)) dX6_isOther_34
    · replace h := (if_neg hc_4).symm.trans h
      refine g_aload_n (j := 0) C dX6_isOther_16 rfl rfl ?_
      refine g_iload_n (j := 1) C dX6_isOther_17 rfl rfl ?_
      refine g_iconst (v := 2) C dX6_isOther_18 (by decide) ?_
      obtain ⟨q_5, hq_6, h⟩ := bind_isome h
      refine g_vi (ws' := (zW cy ad shM E X)) (As := [.int v1, .int (2 : Int32)]) (rest := []) (res := q_5) C (c_X6_showAt l D cy ad E X v1 (2 : Int32) hq_6) gX6_isOther_X6_showAt rfl hd_X6_showAt (zW_get X sM_0) rfl rfl rfl ⟨Nat.le_of_ble_eq_true rfl, Nat.le_of_ble_eq_true rfl⟩ rfl rfl (Nat.le_of_ble_eq_true rfl) ⟨Nat.zero_le _, Nat.zero_le _⟩ dX6_isOther_19 ?_
      refine g_aload_n (j := 0) C dX6_isOther_22 rfl rfl ?_
      refine g_geti (k := 17) (N := 27) C sM_0 rfl in_X6_isOther_RX6 (by decide) rfl fl_X6_isOther_136 rfl dX6_isOther_23 ?_
      refine g_icmp_ne C dX6_isOther_26 (tgt := 33) (by decide) (fun hc_7 => ?_) (fun hc_7 => ?_)
      · replace h := (if_neg hc_7).symm.trans h
        refine g_iconst (v := 0) C dX6_isOther_33 (by decide) ?_
        obtain rfl := Option.some.inj h
        exact g_iret rfl C hr (z_nb (Or.inl rfl)) dX6_isOther_34
      · replace h := (if_pos hc_7).symm.trans h
        refine g_iconst (v := 1) C dX6_isOther_29 (by decide) ?_
        refine g_goto C dX6_isOther_30 (tgt := 34) (by decide) ?_
        obtain rfl := Option.some.inj h
        exact g_iret rfl C hr (z_nb (Or.inr rfl)) dX6_isOther_34
theorem in_X6_meetsInHall_RX6 : ∀ w ∈ u_ws RX6 TX6 27, w ∈ wsX6_meetsInHall := by decide +kernel
theorem fl_X6_meetsInHall_9 : (Cond.fieldLink RX6 9 RX6 (TX6 1).2.1 (TX6 1).2.2.1) ∈ wsX6_meetsInHall := by decide +kernel
theorem fl_X6_meetsInHall_139 : (Cond.fieldLink RX6 139 RX6 (TX6 19).2.1 (TX6 19).2.2.1) ∈ wsX6_meetsInHall := by decide +kernel
theorem fl_X6_meetsInHall_142 : (Cond.fieldLink RX6 142 RX6 (TX6 15).2.1 (TX6 15).2.2.1) ∈ wsX6_meetsInHall := by decide +kernel
theorem fl_X6_meetsInHall_148 : (Cond.fieldLink RX6 148 RX6 (TX6 18).2.1 (TX6 18).2.2.1) ∈ wsX6_meetsInHall := by decide +kernel
theorem hd_X6_meetsInHall : yX6_meetsInHall.cls = RX6 ∧ yX6_meetsInHall.cls ≠ "java/lang/invoke/MethodHandle" ∧ yX6_meetsInHall.cls ≠ "java/lang/invoke/VarHandle" ∧ (parseMethodDescriptor yX6_meetsInHall.desc).map (fun d => d.parameters.length) = some 0 := by decide +kernel
def f_X6_meetsInHall_L17 (X : Nat → Nat → Int32) (v1 : Int32) : Nat → Int32 → Option Int32
  | 0, _ => none
  | fu + 1, v2 => (if (X 1 (4 : Int32).toNatClampNeg) ≤ v2 then some (-1 : Int32) else ((f_X6_isOther X v2).bind fun q_1004 => (if q_1004 = 0 then f_X6_meetsInHall_L17 X v1 fu (v2 + 1) else ((f_X6_showAt X v2 (0 : Int32)).bind fun q_1007 => (if q_1007 = (X 0 15) then ((f_X6_showAt X v2 (3 : Int32)).bind fun q_1010 => (if v1 ≤ q_1010 then f_X6_meetsInHall_L17 X v1 fu (v2 + 1) else ((f_X6_endOf X v2).bind fun q_1013 => ((f_X6_cleanOf X v2).bind fun q_1015 => (if (q_1013 + q_1015) ≤ (X 0 18) then f_X6_meetsInHall_L17 X v1 fu (v2 + 1) else some v2))))) else f_X6_meetsInHall_L17 X v1 fu (v2 + 1))))))
set_option maxRecDepth 100000 in
set_option maxHeartbeats 4000000 in
theorem w_X6_meetsInHall_L17 {p : Program} {e : Env} {s : State} {m : MethodId} {args : Array Value} {below : List Frame} {meth : Method} {c : Code} {A : Nat → Prop} (l : Launch) (D : va_G) (cy : Nat → ClassId) (ad : Nat → Nat) (E : va_W) (X : Nat → Nat → Int32) (v1 : Int32) {res : Int32} (C : zC p s m args meth c cX6_meetsInHall 3 RX6 wsX6_meetsInHall D (zTy cy) A) (hr : meth.sig.returnType = (some .int)) : ∀ (fu : Nat) (v2 : Int32) (h : f_X6_meetsInHall_L17 X v1 fu v2 = some res), zG p l e (headSpec wsX6_meetsInHall (zrm 4)).room s m args below meth c 3 D A 0 0 (MQ below (va_Qi (fun (r : Int32) (_ : Unit) => r = res) (fun _ t => zB D (zTy cy) A (zW cy ad shM E X) t) A) args s 0 0 A) (zW cy ad shM E X) 17 [(0, .ref (ad 0)), (1, .int v1), (2, .int v2)] [] := by
  intro fu
  induction fu with
  | zero => intro v2 h; simp [f_X6_meetsInHall_L17] at h
  | succ fu ih =>
    intro v2 h
    rw [f_X6_meetsInHall_L17] at h
    refine g_iload_n (j := 2) C dX6_meetsInHall_17 rfl rfl ?_
    refine g_aload_n (j := 0) C dX6_meetsInHall_18 rfl rfl ?_
    refine g_getr (k := 1) (N := 27) C sM_0 rfl in_X6_meetsInHall_RX6 (by decide) rfl fl_X6_meetsInHall_9 rfl dX6_meetsInHall_19 ?_
    refine g_iconst (v := 4) C dX6_meetsInHall_22 (by decide) ?_
    refine g_iald C sM_1 (by decide) dX6_meetsInHall_23 ?_
    refine g_icmp_ge C dX6_meetsInHall_24 (tgt := 84) (by decide) (fun hc_1003 => ?_) (fun hc_1003 => ?_)
    · replace h := (if_pos hc_1003).symm.trans h
      refine g_iconst (v := -1) C dX6_meetsInHall_84 (by decide) ?_
      obtain rfl := Option.some.inj h
      exact g_iret rfl C hr rfl dX6_meetsInHall_85
    · replace h := (if_neg hc_1003).symm.trans h
      refine g_aload_n (j := 0) C dX6_meetsInHall_27 rfl rfl ?_
      refine g_iload_n (j := 2) C dX6_meetsInHall_28 rfl rfl ?_
      obtain ⟨q_1004, hq_1005, h⟩ := bind_isome h
      refine g_vi (ws' := (zW cy ad shM E X)) (As := [.int v2]) (rest := []) (res := q_1004) C (c_X6_isOther l D cy ad E X v2 hq_1005) gX6_meetsInHall_X6_isOther rfl hd_X6_isOther (zW_get X sM_0) rfl rfl rfl ⟨Nat.le_of_ble_eq_true rfl, Nat.le_of_ble_eq_true rfl⟩ rfl rfl (Nat.le_of_ble_eq_true rfl) ⟨Nat.zero_le _, Nat.zero_le _⟩ dX6_meetsInHall_29 ?_
      refine g_if_eq C dX6_meetsInHall_32 (tgt := 78) (by decide) (fun hc_1006 => ?_) (fun hc_1006 => ?_)
      · replace h := (if_pos hc_1006).symm.trans h
        refine g_iinc (k := 2) (L' := [(2, .int (v2 + 1)), (0, .ref (ad 0)), (1, .int v1)]) C dX6_meetsInHall_78 rfl (z_iinc (by decide)) (by decide) rfl ?_
        refine g_goto C dX6_meetsInHall_81 (tgt := 17) (by decide) ?_
        refine zG_sub (L' := [(0, .ref (ad 0)), (1, .int v1), (2, .int (v2 + 1))]) [1, 2, 0] rfl ?_
        exact ih (v2 + 1) h
      · replace h := (if_neg hc_1006).symm.trans h
        refine g_aload_n (j := 0) C dX6_meetsInHall_35 rfl rfl ?_
        refine g_iload_n (j := 2) C dX6_meetsInHall_36 rfl rfl ?_
        refine g_iconst (v := 0) C dX6_meetsInHall_37 (by decide) ?_
        obtain ⟨q_1007, hq_1008, h⟩ := bind_isome h
        refine g_vi (ws' := (zW cy ad shM E X)) (As := [.int v2, .int (0 : Int32)]) (rest := []) (res := q_1007) C (c_X6_showAt l D cy ad E X v2 (0 : Int32) hq_1008) gX6_meetsInHall_X6_showAt rfl hd_X6_showAt (zW_get X sM_0) rfl rfl rfl ⟨Nat.le_of_ble_eq_true rfl, Nat.le_of_ble_eq_true rfl⟩ rfl rfl (Nat.le_of_ble_eq_true rfl) ⟨Nat.zero_le _, Nat.zero_le _⟩ dX6_meetsInHall_38 ?_
        refine g_aload_n (j := 0) C dX6_meetsInHall_41 rfl rfl ?_
        refine g_geti (k := 15) (N := 27) C sM_0 rfl in_X6_meetsInHall_RX6 (by decide) rfl fl_X6_meetsInHall_142 rfl dX6_meetsInHall_42 ?_
        refine g_icmp_ne C dX6_meetsInHall_45 (tgt := 78) (by decide) (fun hc_1009 => ?_) (fun hc_1009 => ?_)
        · replace h := (if_neg hc_1009).symm.trans h
          refine g_iinc (k := 2) (L' := [(2, .int (v2 + 1)), (0, .ref (ad 0)), (1, .int v1)]) C dX6_meetsInHall_78 rfl (z_iinc (by decide)) (by decide) rfl ?_
          refine g_goto C dX6_meetsInHall_81 (tgt := 17) (by decide) ?_
          refine zG_sub (L' := [(0, .ref (ad 0)), (1, .int v1), (2, .int (v2 + 1))]) [1, 2, 0] rfl ?_
          exact ih (v2 + 1) h
        · replace h := (if_pos hc_1009).symm.trans h
          refine g_aload_n (j := 0) C dX6_meetsInHall_48 rfl rfl ?_
          refine g_iload_n (j := 2) C dX6_meetsInHall_49 rfl rfl ?_
          refine g_iconst (v := 3) C dX6_meetsInHall_50 (by decide) ?_
          obtain ⟨q_1010, hq_1011, h⟩ := bind_isome h
          refine g_vi (ws' := (zW cy ad shM E X)) (As := [.int v2, .int (3 : Int32)]) (rest := []) (res := q_1010) C (c_X6_showAt l D cy ad E X v2 (3 : Int32) hq_1011) gX6_meetsInHall_X6_showAt rfl hd_X6_showAt (zW_get X sM_0) rfl rfl rfl ⟨Nat.le_of_ble_eq_true rfl, Nat.le_of_ble_eq_true rfl⟩ rfl rfl (Nat.le_of_ble_eq_true rfl) ⟨Nat.zero_le _, Nat.zero_le _⟩ dX6_meetsInHall_51 ?_
          refine g_iload_n (j := 1) C dX6_meetsInHall_54 rfl rfl ?_
          refine g_icmp_ge C dX6_meetsInHall_55 (tgt := 78) (by decide) (fun hc_1012 => ?_) (fun hc_1012 => ?_)
          · replace h := (if_pos hc_1012).symm.trans h
            refine g_iinc (k := 2) (L' := [(2, .int (v2 + 1)), (0, .ref (ad 0)), (1, .int v1)]) C dX6_meetsInHall_78 rfl (z_iinc (by decide)) (by decide) rfl ?_
            refine g_goto C dX6_meetsInHall_81 (tgt := 17) (by decide) ?_
            refine zG_sub (L' := [(0, .ref (ad 0)), (1, .int v1), (2, .int (v2 + 1))]) [1, 2, 0] rfl ?_
            exact ih (v2 + 1) h
          · replace h := (if_neg hc_1012).symm.trans h
            refine g_aload_n (j := 0) C dX6_meetsInHall_58 rfl rfl ?_
            refine g_geti (k := 18) (N := 27) C sM_0 rfl in_X6_meetsInHall_RX6 (by decide) rfl fl_X6_meetsInHall_148 rfl dX6_meetsInHall_59 ?_
            refine g_aload_n (j := 0) C dX6_meetsInHall_62 rfl rfl ?_
            refine g_iload_n (j := 2) C dX6_meetsInHall_63 rfl rfl ?_
            obtain ⟨q_1013, hq_1014, h⟩ := bind_isome h
            refine g_vi (ws' := (zW cy ad shM E X)) (As := [.int v2]) (rest := [.int (X 0 18)]) (res := q_1013) C (c_X6_endOf l D cy ad E X v2 hq_1014) gX6_meetsInHall_X6_endOf rfl hd_X6_endOf (zW_get X sM_0) rfl rfl rfl ⟨Nat.le_of_ble_eq_true rfl, Nat.le_of_ble_eq_true rfl⟩ rfl rfl (Nat.le_of_ble_eq_true rfl) ⟨Nat.zero_le _, Nat.zero_le _⟩ dX6_meetsInHall_64 ?_
            refine g_aload_n (j := 0) C dX6_meetsInHall_67 rfl rfl ?_
            refine g_iload_n (j := 2) C dX6_meetsInHall_68 rfl rfl ?_
            obtain ⟨q_1015, hq_1016, h⟩ := bind_isome h
            refine g_vi (ws' := (zW cy ad shM E X)) (As := [.int v2]) (rest := [.int q_1013, .int (X 0 18)]) (res := q_1015) C (c_X6_cleanOf l D cy ad E X v2 hq_1016) gX6_meetsInHall_X6_cleanOf rfl hd_X6_cleanOf (zW_get X sM_0) rfl rfl rfl ⟨Nat.le_of_ble_eq_true rfl, Nat.le_of_ble_eq_true rfl⟩ rfl rfl (Nat.le_of_ble_eq_true rfl) ⟨Nat.zero_le _, Nat.zero_le _⟩ dX6_meetsInHall_69 ?_
            refine g_iadd C dX6_meetsInHall_72 ?_
            refine g_icmp_ge C dX6_meetsInHall_73 (tgt := 78) (by decide) (fun hc_1017 => ?_) (fun hc_1017 => ?_)
            · replace h := (if_pos hc_1017).symm.trans h
              refine g_iinc (k := 2) (L' := [(2, .int (v2 + 1)), (0, .ref (ad 0)), (1, .int v1)]) C dX6_meetsInHall_78 rfl (z_iinc (by decide)) (by decide) rfl ?_
              refine g_goto C dX6_meetsInHall_81 (tgt := 17) (by decide) ?_
              refine zG_sub (L' := [(0, .ref (ad 0)), (1, .int v1), (2, .int (v2 + 1))]) [1, 2, 0] rfl ?_
              exact ih (v2 + 1) h
            · replace h := (if_neg hc_1017).symm.trans h
              refine g_iload_n (j := 2) C dX6_meetsInHall_76 rfl rfl ?_
              obtain rfl := Option.some.inj h
              exact g_iret rfl C hr rfl dX6_meetsInHall_77
def f_X6_meetsInHall (X : Nat → Nat → Int32) : Option Int32 := ((f_X6_hallAt X (X 0 15) (1 : Int32)).bind fun q_1 => f_X6_meetsInHall_L17 X ((X 0 19) + q_1) zFuel (0 : Int32))
set_option maxRecDepth 100000 in
set_option maxHeartbeats 4000000 in
theorem c_X6_meetsInHall (l : Launch) (D : va_G) (cy : Nat → ClassId) (ad : Nat → Nat) (E : va_W) (X : Nat → Nat → Int32) {res : Int32} (h : f_X6_meetsInHall X = some res) : zMi l yX6_meetsInHall wsX6_meetsInHall (zrm 4) D (zTy cy) (zW cy ad shM E X) [.ref (ad 0)] res (zW cy ad shM E X) := by
  refine zMi.of (cc := cX6_meetsInHall) (maxL := 3) (ret := (some .int)) (by decide) rfl (Nat.le_of_ble_eq_true rfl) ?_
  intro p e s m below meth c A C hr
  unfold f_X6_meetsInHall at h
  refine zG_L (L' := [(0, .ref (ad 0))]) rfl ?_
  refine g_aload_n (j := 0) C dX6_meetsInHall_0 rfl rfl ?_
  refine g_geti (k := 19) (N := 27) C sM_0 rfl in_X6_meetsInHall_RX6 (by decide) rfl fl_X6_meetsInHall_139 rfl dX6_meetsInHall_1 ?_
  refine g_aload_n (j := 0) C dX6_meetsInHall_4 rfl rfl ?_
  refine g_aload_n (j := 0) C dX6_meetsInHall_5 rfl rfl ?_
  refine g_geti (k := 15) (N := 27) C sM_0 rfl in_X6_meetsInHall_RX6 (by decide) rfl fl_X6_meetsInHall_142 rfl dX6_meetsInHall_6 ?_
  refine g_iconst (v := 1) C dX6_meetsInHall_9 (by decide) ?_
  obtain ⟨q_1, hq_2, h⟩ := bind_isome h
  refine g_vi (ws' := (zW cy ad shM E X)) (As := [.int (X 0 15), .int (1 : Int32)]) (rest := [.int (X 0 19)]) (res := q_1) C (c_X6_hallAt l D cy ad E X (X 0 15) (1 : Int32) hq_2) gX6_meetsInHall_X6_hallAt rfl hd_X6_hallAt (zW_get X sM_0) rfl rfl rfl ⟨Nat.le_of_ble_eq_true rfl, Nat.le_of_ble_eq_true rfl⟩ rfl rfl (Nat.le_of_ble_eq_true rfl) ⟨Nat.zero_le _, Nat.zero_le _⟩ dX6_meetsInHall_10 ?_
  refine g_iadd C dX6_meetsInHall_13 ?_
  refine g_istore_n (L' := [(1, .int ((X 0 19) + q_1)), (0, .ref (ad 0))]) C dX6_meetsInHall_14 rfl (by decide) rfl ?_
  refine g_iconst (v := 0) C dX6_meetsInHall_15 (by decide) ?_
  refine g_istore_n (L' := [(2, .int (0 : Int32)), (1, .int ((X 0 19) + q_1)), (0, .ref (ad 0))]) C dX6_meetsInHall_16 rfl (by decide) rfl ?_
  refine zG_sub (L' := [(0, .ref (ad 0)), (1, .int ((X 0 19) + q_1)), (2, .int (0 : Int32))]) [2, 1, 0] rfl ?_
  exact w_X6_meetsInHall_L17 l D cy ad E X ((X 0 19) + q_1) C hr zFuel (0 : Int32) h
theorem in_X6_copiesAt_RX6 : ∀ w ∈ u_ws RX6 TX6 27, w ∈ wsX6_copiesAt := by decide +kernel
theorem fl_X6_copiesAt_9 : (Cond.fieldLink RX6 9 RX6 (TX6 1).2.1 (TX6 1).2.2.1) ∈ wsX6_copiesAt := by decide +kernel
theorem fl_X6_copiesAt_157 : (Cond.fieldLink RX6 157 RX6 (TX6 16).2.1 (TX6 16).2.2.1) ∈ wsX6_copiesAt := by decide +kernel
theorem hd_X6_copiesAt : yX6_copiesAt.cls = RX6 ∧ yX6_copiesAt.cls ≠ "java/lang/invoke/MethodHandle" ∧ yX6_copiesAt.cls ≠ "java/lang/invoke/VarHandle" ∧ (parseMethodDescriptor yX6_copiesAt.desc).map (fun d => d.parameters.length) = some 1 := by decide +kernel
def f_X6_copiesAt_L4 (X : Nat → Nat → Int32) (v1 : Int32) : Nat → Int32 → Int32 → Option Int32
  | 0, _, _ => none
  | fu + 1, v2, v3 => (if (X 1 (4 : Int32).toNatClampNeg) ≤ v3 then some v2 else ((f_X6_isOther X v3).bind fun q_1002 => (if q_1002 = 0 then f_X6_copiesAt_L4 X v1 fu (v2 + (0 : Int32)) (v3 + 1) else ((f_X6_showAt X v3 (1 : Int32)).bind fun q_1005 => (if q_1005 = (X 0 16) then ((f_X6_showAt X v3 (3 : Int32)).bind fun q_1008 => ((f_X6_endOf X v3).bind fun q_1010 => (if (f_X6_in v1 q_1008 ((q_1010 + (X 1 (10 : Int32).toNatClampNeg)) - (1 : Int32))) = 0 then f_X6_copiesAt_L4 X v1 fu (v2 + (0 : Int32)) (v3 + 1) else f_X6_copiesAt_L4 X v1 fu (v2 + (1 : Int32)) (v3 + 1)))) else f_X6_copiesAt_L4 X v1 fu (v2 + (0 : Int32)) (v3 + 1))))))
set_option maxRecDepth 100000 in
set_option maxHeartbeats 4000000 in
theorem w_X6_copiesAt_L4 {p : Program} {e : Env} {s : State} {m : MethodId} {args : Array Value} {below : List Frame} {meth : Method} {c : Code} {A : Nat → Prop} (l : Launch) (D : va_G) (cy : Nat → ClassId) (ad : Nat → Nat) (E : va_W) (X : Nat → Nat → Int32) (v1 : Int32) {res : Int32} (C : zC p s m args meth c cX6_copiesAt 4 RX6 wsX6_copiesAt D (zTy cy) A) (hr : meth.sig.returnType = (some .int)) : ∀ (fu : Nat) (v2 v3 : Int32) (h : f_X6_copiesAt_L4 X v1 fu v2 v3 = some res), zG p l e (headSpec wsX6_copiesAt (zrm 4)).room s m args below meth c 4 D A 0 0 (MQ below (va_Qi (fun (r : Int32) (_ : Unit) => r = res) (fun _ t => zB D (zTy cy) A (zW cy ad shM E X) t) A) args s 0 0 A) (zW cy ad shM E X) 4 [(0, .ref (ad 0)), (1, .int v1), (2, .int v2), (3, .int v3)] [] := by
  intro fu
  induction fu with
  | zero => intro v2 v3 h; simp [f_X6_copiesAt_L4] at h
  | succ fu ih =>
    intro v2 v3 h
    rw [f_X6_copiesAt_L4] at h
    refine g_iload_n (j := 3) C dX6_copiesAt_4 rfl rfl ?_
    refine g_aload_n (j := 0) C dX6_copiesAt_5 rfl rfl ?_
    refine g_getr (k := 1) (N := 27) C sM_0 rfl in_X6_copiesAt_RX6 (by decide) rfl fl_X6_copiesAt_9 rfl dX6_copiesAt_6 ?_
    refine g_iconst (v := 4) C dX6_copiesAt_9 (by decide) ?_
    refine g_iald C sM_1 (by decide) dX6_copiesAt_10 ?_
    refine g_icmp_ge C dX6_copiesAt_11 (tgt := 77) (by decide) (fun hc_1001 => ?_) (fun hc_1001 => ?_)
    · replace h := (if_pos hc_1001).symm.trans h
      refine g_iload_n (j := 2) C dX6_copiesAt_77 rfl rfl ?_
      obtain rfl := Option.some.inj h
      exact g_iret rfl C hr rfl dX6_copiesAt_78
    · replace h := (if_neg hc_1001).symm.trans h
      refine g_iload_n (j := 2) C dX6_copiesAt_14 rfl rfl ?_
      refine g_aload_n (j := 0) C dX6_copiesAt_15 rfl rfl ?_
      refine g_iload_n (j := 3) C dX6_copiesAt_16 rfl rfl ?_
      obtain ⟨q_1002, hq_1003, h⟩ := bind_isome h
      refine g_vi (ws' := (zW cy ad shM E X)) (As := [.int v3]) (rest := [.int v2]) (res := q_1002) C (c_X6_isOther l D cy ad E X v3 hq_1003) gX6_copiesAt_X6_isOther rfl hd_X6_isOther (zW_get X sM_0) rfl rfl rfl ⟨Nat.le_of_ble_eq_true rfl, Nat.le_of_ble_eq_true rfl⟩ rfl rfl (Nat.le_of_ble_eq_true rfl) ⟨Nat.zero_le _, Nat.zero_le _⟩ dX6_copiesAt_17 ?_
      refine g_if_eq C dX6_copiesAt_20 (tgt := 68) (by decide) (fun hc_1004 => ?_) (fun hc_1004 => ?_)
      · replace h := (if_pos hc_1004).symm.trans h
        refine g_iconst (v := 0) C dX6_copiesAt_68 (by decide) ?_
        refine g_iadd C dX6_copiesAt_69 ?_
        refine g_istore_n (L' := [(2, .int (v2 + (0 : Int32))), (0, .ref (ad 0)), (1, .int v1), (3, .int v3)]) C dX6_copiesAt_70 rfl (by decide) rfl ?_
        refine g_iinc (k := 3) (L' := [(3, .int (v3 + 1)), (2, .int (v2 + (0 : Int32))), (0, .ref (ad 0)), (1, .int v1)]) C dX6_copiesAt_71 rfl (z_iinc (by decide)) (by decide) rfl ?_
        refine g_goto C dX6_copiesAt_74 (tgt := 4) (by decide) ?_
        refine zG_sub (L' := [(0, .ref (ad 0)), (1, .int v1), (2, .int (v2 + (0 : Int32))), (3, .int (v3 + 1))]) [2, 3, 1, 0] rfl ?_
        exact ih (v2 + (0 : Int32)) (v3 + 1) h
      · replace h := (if_neg hc_1004).symm.trans h
        refine g_aload_n (j := 0) C dX6_copiesAt_23 rfl rfl ?_
        refine g_iload_n (j := 3) C dX6_copiesAt_24 rfl rfl ?_
        refine g_iconst (v := 1) C dX6_copiesAt_25 (by decide) ?_
        obtain ⟨q_1005, hq_1006, h⟩ := bind_isome h
        refine g_vi (ws' := (zW cy ad shM E X)) (As := [.int v3, .int (1 : Int32)]) (rest := [.int v2]) (res := q_1005) C (c_X6_showAt l D cy ad E X v3 (1 : Int32) hq_1006) gX6_copiesAt_X6_showAt rfl hd_X6_showAt (zW_get X sM_0) rfl rfl rfl ⟨Nat.le_of_ble_eq_true rfl, Nat.le_of_ble_eq_true rfl⟩ rfl rfl (Nat.le_of_ble_eq_true rfl) ⟨Nat.zero_le _, Nat.zero_le _⟩ dX6_copiesAt_26 ?_
        refine g_aload_n (j := 0) C dX6_copiesAt_29 rfl rfl ?_
        refine g_geti (k := 16) (N := 27) C sM_0 rfl in_X6_copiesAt_RX6 (by decide) rfl fl_X6_copiesAt_157 rfl dX6_copiesAt_30 ?_
        refine g_icmp_ne C dX6_copiesAt_33 (tgt := 68) (by decide) (fun hc_1007 => ?_) (fun hc_1007 => ?_)
        · replace h := (if_neg hc_1007).symm.trans h
          refine g_iconst (v := 0) C dX6_copiesAt_68 (by decide) ?_
          refine g_iadd C dX6_copiesAt_69 ?_
          refine g_istore_n (L' := [(2, .int (v2 + (0 : Int32))), (0, .ref (ad 0)), (1, .int v1), (3, .int v3)]) C dX6_copiesAt_70 rfl (by decide) rfl ?_
          refine g_iinc (k := 3) (L' := [(3, .int (v3 + 1)), (2, .int (v2 + (0 : Int32))), (0, .ref (ad 0)), (1, .int v1)]) C dX6_copiesAt_71 rfl (z_iinc (by decide)) (by decide) rfl ?_
          refine g_goto C dX6_copiesAt_74 (tgt := 4) (by decide) ?_
          refine zG_sub (L' := [(0, .ref (ad 0)), (1, .int v1), (2, .int (v2 + (0 : Int32))), (3, .int (v3 + 1))]) [2, 3, 1, 0] rfl ?_
          exact ih (v2 + (0 : Int32)) (v3 + 1) h
        · replace h := (if_pos hc_1007).symm.trans h
          refine g_iload_n (j := 1) C dX6_copiesAt_36 rfl rfl ?_
          refine g_aload_n (j := 0) C dX6_copiesAt_37 rfl rfl ?_
          refine g_iload_n (j := 3) C dX6_copiesAt_38 rfl rfl ?_
          refine g_iconst (v := 3) C dX6_copiesAt_39 (by decide) ?_
          obtain ⟨q_1008, hq_1009, h⟩ := bind_isome h
          refine g_vi (ws' := (zW cy ad shM E X)) (As := [.int v3, .int (3 : Int32)]) (rest := [.int v1, .int v2]) (res := q_1008) C (c_X6_showAt l D cy ad E X v3 (3 : Int32) hq_1009) gX6_copiesAt_X6_showAt rfl hd_X6_showAt (zW_get X sM_0) rfl rfl rfl ⟨Nat.le_of_ble_eq_true rfl, Nat.le_of_ble_eq_true rfl⟩ rfl rfl (Nat.le_of_ble_eq_true rfl) ⟨Nat.zero_le _, Nat.zero_le _⟩ dX6_copiesAt_40 ?_
          refine g_aload_n (j := 0) C dX6_copiesAt_43 rfl rfl ?_
          refine g_iload_n (j := 3) C dX6_copiesAt_44 rfl rfl ?_
          obtain ⟨q_1010, hq_1011, h⟩ := bind_isome h
          refine g_vi (ws' := (zW cy ad shM E X)) (As := [.int v3]) (rest := [.int q_1008, .int v1, .int v2]) (res := q_1010) C (c_X6_endOf l D cy ad E X v3 hq_1011) gX6_copiesAt_X6_endOf rfl hd_X6_endOf (zW_get X sM_0) rfl rfl rfl ⟨Nat.le_of_ble_eq_true rfl, Nat.le_of_ble_eq_true rfl⟩ rfl rfl (Nat.le_of_ble_eq_true rfl) ⟨Nat.zero_le _, Nat.zero_le _⟩ dX6_copiesAt_45 ?_
          refine g_aload_n (j := 0) C dX6_copiesAt_48 rfl rfl ?_
          refine g_getr (k := 1) (N := 27) C sM_0 rfl in_X6_copiesAt_RX6 (by decide) rfl fl_X6_copiesAt_9 rfl dX6_copiesAt_49 ?_
          refine g_bipush (v := 10) C dX6_copiesAt_52 (by decide) ?_
          refine g_iald C sM_1 (by decide) dX6_copiesAt_54 ?_
          refine g_iadd C dX6_copiesAt_55 ?_
          refine g_iconst (v := 1) C dX6_copiesAt_56 (by decide) ?_
          refine g_isub C dX6_copiesAt_57 ?_
          refine g_si (ws' := (zW cy ad shM E X)) (As := [.int v1, .int q_1008, .int ((q_1010 + (X 1 (10 : Int32).toNatClampNeg)) - (1 : Int32))]) (rest := [.int v2]) (res := (f_X6_in v1 q_1008 ((q_1010 + (X 1 (10 : Int32).toNatClampNeg)) - (1 : Int32)))) C (c_X6_in l D cy (zW cy ad shM E X) v1 q_1008 ((q_1010 + (X 1 (10 : Int32).toNatClampNeg)) - (1 : Int32))) gX6_copiesAt_X6_in rfl hd_X6_in rfl rfl ⟨Nat.le_of_ble_eq_true rfl, Nat.le_of_ble_eq_true rfl⟩ rfl rfl (Nat.le_of_ble_eq_true rfl) ⟨Nat.zero_le _, Nat.zero_le _⟩ dX6_copiesAt_58 ?_
          refine g_if_eq C dX6_copiesAt_61 (tgt := 68) (by decide) (fun hc_1012 => ?_) (fun hc_1012 => ?_)
          · replace h := (if_pos hc_1012).symm.trans h
            refine g_iconst (v := 0) C dX6_copiesAt_68 (by decide) ?_
            refine g_iadd C dX6_copiesAt_69 ?_
            refine g_istore_n (L' := [(2, .int (v2 + (0 : Int32))), (0, .ref (ad 0)), (1, .int v1), (3, .int v3)]) C dX6_copiesAt_70 rfl (by decide) rfl ?_
            refine g_iinc (k := 3) (L' := [(3, .int (v3 + 1)), (2, .int (v2 + (0 : Int32))), (0, .ref (ad 0)), (1, .int v1)]) C dX6_copiesAt_71 rfl (z_iinc (by decide)) (by decide) rfl ?_
            refine g_goto C dX6_copiesAt_74 (tgt := 4) (by decide) ?_
            refine zG_sub (L' := [(0, .ref (ad 0)), (1, .int v1), (2, .int (v2 + (0 : Int32))), (3, .int (v3 + 1))]) [2, 3, 1, 0] rfl ?_
            exact ih (v2 + (0 : Int32)) (v3 + 1) h
          · replace h := (if_neg hc_1012).symm.trans h
            refine g_iconst (v := 1) C dX6_copiesAt_64 (by decide) ?_
            refine g_goto C dX6_copiesAt_65 (tgt := 69) (by decide) ?_
            refine g_iadd C dX6_copiesAt_69 ?_
            refine g_istore_n (L' := [(2, .int (v2 + (1 : Int32))), (0, .ref (ad 0)), (1, .int v1), (3, .int v3)]) C dX6_copiesAt_70 rfl (by decide) rfl ?_
            refine g_iinc (k := 3) (L' := [(3, .int (v3 + 1)), (2, .int (v2 + (1 : Int32))), (0, .ref (ad 0)), (1, .int v1)]) C dX6_copiesAt_71 rfl (z_iinc (by decide)) (by decide) rfl ?_
            refine g_goto C dX6_copiesAt_74 (tgt := 4) (by decide) ?_
            refine zG_sub (L' := [(0, .ref (ad 0)), (1, .int v1), (2, .int (v2 + (1 : Int32))), (3, .int (v3 + 1))]) [2, 3, 1, 0] rfl ?_
            exact ih (v2 + (1 : Int32)) (v3 + 1) h
def f_X6_copiesAt (X : Nat → Nat → Int32) (v1 : Int32) : Option Int32 := f_X6_copiesAt_L4 X v1 zFuel (1 : Int32) (0 : Int32)
set_option maxRecDepth 100000 in
set_option maxHeartbeats 4000000 in
theorem c_X6_copiesAt (l : Launch) (D : va_G) (cy : Nat → ClassId) (ad : Nat → Nat) (E : va_W) (X : Nat → Nat → Int32) (v1 : Int32) {res : Int32} (h : f_X6_copiesAt X v1 = some res) : zMi l yX6_copiesAt wsX6_copiesAt (zrm 4) D (zTy cy) (zW cy ad shM E X) [.ref (ad 0), .int v1] res (zW cy ad shM E X) := by
  refine zMi.of (cc := cX6_copiesAt) (maxL := 4) (ret := (some .int)) (by decide) rfl (Nat.le_of_ble_eq_true rfl) ?_
  intro p e s m below meth c A C hr
  unfold f_X6_copiesAt at h
  refine zG_L (L' := [(0, .ref (ad 0)), (1, .int v1)]) rfl ?_
  refine g_iconst (v := 1) C dX6_copiesAt_0 (by decide) ?_
  refine g_istore_n (L' := [(2, .int (1 : Int32)), (0, .ref (ad 0)), (1, .int v1)]) C dX6_copiesAt_1 rfl (by decide) rfl ?_
  refine g_iconst (v := 0) C dX6_copiesAt_2 (by decide) ?_
  refine g_istore_n (L' := [(3, .int (0 : Int32)), (2, .int (1 : Int32)), (0, .ref (ad 0)), (1, .int v1)]) C dX6_copiesAt_3 rfl (by decide) rfl ?_
  refine zG_sub (L' := [(0, .ref (ad 0)), (1, .int v1), (2, .int (1 : Int32)), (3, .int (0 : Int32))]) [2, 3, 1, 0] rfl ?_
  exact w_X6_copiesAt_L4 l D cy ad E X v1 C hr zFuel (1 : Int32) (0 : Int32) h
theorem in_X6_tooManyCopies_RX6 : ∀ w ∈ u_ws RX6 TX6 27, w ∈ wsX6_tooManyCopies := by decide +kernel
theorem fl_X6_tooManyCopies_9 : (Cond.fieldLink RX6 9 RX6 (TX6 1).2.1 (TX6 1).2.2.1) ∈ wsX6_tooManyCopies := by decide +kernel
theorem fl_X6_tooManyCopies_139 : (Cond.fieldLink RX6 139 RX6 (TX6 19).2.1 (TX6 19).2.2.1) ∈ wsX6_tooManyCopies := by decide +kernel
theorem fl_X6_tooManyCopies_148 : (Cond.fieldLink RX6 148 RX6 (TX6 18).2.1 (TX6 18).2.2.1) ∈ wsX6_tooManyCopies := by decide +kernel
theorem fl_X6_tooManyCopies_157 : (Cond.fieldLink RX6 157 RX6 (TX6 16).2.1 (TX6 16).2.2.1) ∈ wsX6_tooManyCopies := by decide +kernel
theorem hd_X6_tooManyCopies : yX6_tooManyCopies.cls = RX6 ∧ yX6_tooManyCopies.cls ≠ "java/lang/invoke/MethodHandle" ∧ yX6_tooManyCopies.cls ≠ "java/lang/invoke/VarHandle" ∧ (parseMethodDescriptor yX6_tooManyCopies.desc).map (fun d => d.parameters.length) = some 0 := by decide +kernel
def f_X6_tooManyCopies_L44 (X : Nat → Nat → Int32) (v1 : Int32) : Nat → Int32 → Int32 → Option Int32
  | 0, _, _ => none
  | fu + 1, v2, v3 => (if (X 1 (4 : Int32).toNatClampNeg) ≤ v3 then some v2 else ((f_X6_showAt X v3 (3 : Int32)).bind fun q_1007 => ((f_X6_isOther X v3).bind fun q_1009 => (if q_1009 = 0 then f_X6_tooManyCopies_L44 X v1 fu v2 (v3 + 1) else (if q_1007 ≤ (X 0 18) then f_X6_tooManyCopies_L44 X v1 fu v2 (v3 + 1) else (if v1 ≤ q_1007 then f_X6_tooManyCopies_L44 X v1 fu v2 (v3 + 1) else (if v2 = (-1 : Int32) then ((f_X6_copiesAt X q_1007).bind fun q_1015 => ((f_X6_filmAt X (X 0 16) (3 : Int32)).bind fun q_1017 => (if q_1015 ≤ q_1017 then f_X6_tooManyCopies_L44 X v1 fu v2 (v3 + 1) else f_X6_tooManyCopies_L44 X v1 fu q_1007 (v3 + 1)))) else (if v2 ≤ q_1007 then f_X6_tooManyCopies_L44 X v1 fu v2 (v3 + 1) else ((f_X6_copiesAt X q_1007).bind fun q_1021 => ((f_X6_filmAt X (X 0 16) (3 : Int32)).bind fun q_1023 => (if q_1021 ≤ q_1023 then f_X6_tooManyCopies_L44 X v1 fu v2 (v3 + 1) else f_X6_tooManyCopies_L44 X v1 fu q_1007 (v3 + 1))))))))))))
set_option maxRecDepth 100000 in
set_option maxHeartbeats 4000000 in
theorem w_X6_tooManyCopies_L44 {p : Program} {e : Env} {s : State} {m : MethodId} {args : Array Value} {below : List Frame} {meth : Method} {c : Code} {A : Nat → Prop} (l : Launch) (D : va_G) (cy : Nat → ClassId) (ad : Nat → Nat) (E : va_W) (X : Nat → Nat → Int32) (v1 : Int32) {res : Int32} (C : zC p s m args meth c cX6_tooManyCopies 5 RX6 wsX6_tooManyCopies D (zTy cy) A) (hr : meth.sig.returnType = (some .int)) : ∀ (fu : Nat) (v2 v3 : Int32) (h : f_X6_tooManyCopies_L44 X v1 fu v2 v3 = some res), zG p l e (headSpec wsX6_tooManyCopies (zrm 5)).room s m args below meth c 5 D A 0 0 (MQ below (va_Qi (fun (r : Int32) (_ : Unit) => r = res) (fun _ t => zB D (zTy cy) A (zW cy ad shM E X) t) A) args s 0 0 A) (zW cy ad shM E X) 44 [(0, .ref (ad 0)), (1, .int v1), (2, .int v2), (3, .int v3)] [] := by
  intro fu
  induction fu with
  | zero => intro v2 v3 h; simp [f_X6_tooManyCopies_L44] at h
  | succ fu ih =>
    intro v2 v3 h
    rw [f_X6_tooManyCopies_L44] at h
    refine g_iload_n (j := 3) C dX6_tooManyCopies_44 rfl rfl ?_
    refine g_aload_n (j := 0) C dX6_tooManyCopies_45 rfl rfl ?_
    refine g_getr (k := 1) (N := 27) C sM_0 rfl in_X6_tooManyCopies_RX6 (by decide) rfl fl_X6_tooManyCopies_9 rfl dX6_tooManyCopies_46 ?_
    refine g_iconst (v := 4) C dX6_tooManyCopies_49 (by decide) ?_
    refine g_iald C sM_1 (by decide) dX6_tooManyCopies_50 ?_
    refine g_icmp_ge C dX6_tooManyCopies_51 (tgt := 123) (by decide) (fun hc_1006 => ?_) (fun hc_1006 => ?_)
    · replace h := (if_pos hc_1006).symm.trans h
      refine g_iload_n (j := 2) C dX6_tooManyCopies_123 rfl rfl ?_
      obtain rfl := Option.some.inj h
      exact g_iret rfl C hr rfl dX6_tooManyCopies_124
    · replace h := (if_neg hc_1006).symm.trans h
      refine g_aload_n (j := 0) C dX6_tooManyCopies_54 rfl rfl ?_
      refine g_iload_n (j := 3) C dX6_tooManyCopies_55 rfl rfl ?_
      refine g_iconst (v := 3) C dX6_tooManyCopies_56 (by decide) ?_
      obtain ⟨q_1007, hq_1008, h⟩ := bind_isome h
      refine g_vi (ws' := (zW cy ad shM E X)) (As := [.int v3, .int (3 : Int32)]) (rest := []) (res := q_1007) C (c_X6_showAt l D cy ad E X v3 (3 : Int32) hq_1008) gX6_tooManyCopies_X6_showAt rfl hd_X6_showAt (zW_get X sM_0) rfl rfl rfl ⟨Nat.le_of_ble_eq_true rfl, Nat.le_of_ble_eq_true rfl⟩ rfl rfl (Nat.le_of_ble_eq_true rfl) ⟨Nat.zero_le _, Nat.zero_le _⟩ dX6_tooManyCopies_57 ?_
      refine g_istore (L' := [(4, .int q_1007), (0, .ref (ad 0)), (1, .int v1), (2, .int v2), (3, .int v3)]) C dX6_tooManyCopies_60 (by decide) rfl ?_
      refine g_aload_n (j := 1) C dX6_tooManyCopies_62 rfl rfl ?_
      refine g_iload_n (j := 4) C dX6_tooManyCopies_63 rfl rfl ?_
      obtain ⟨q_1009, hq_1010, h⟩ := bind_isome h
      refine g_vi (ws' := (zW cy ad shM E X)) (As := [.int v3]) (rest := []) (res := q_1009) C (c_X6_isOther l D cy ad E X v3 hq_1010) gX6_tooManyCopies_X6_isOther rfl hd_X6_isOther (zW_get X sM_0) rfl rfl rfl ⟨Nat.le_of_ble_eq_true rfl, Nat.le_of_ble_eq_true rfl⟩ rfl rfl (Nat.le_of_ble_eq_true rfl) ⟨Nat.zero_le _, Nat.zero_le _⟩ dX6_tooManyCopies_64 ?_
      refine g_if_eq C dX6_tooManyCopies_67 (tgt := 117) (by decide) (fun hc_1011 => ?_) (fun hc_1011 => ?_)
      · replace h := (if_pos hc_1011).symm.trans h
        refine g_iinc (k := 4) (L' := [(3, .int (v3 + 1)), (4, .int q_1007), (0, .ref (ad 0)), (1, .int v1), (2, .int v2)]) C dX6_tooManyCopies_117 rfl (z_iinc (by decide)) (by decide) rfl ?_
        refine g_goto C dX6_tooManyCopies_120 (tgt := 44) (by decide) ?_
        refine zG_sub (L' := [(0, .ref (ad 0)), (1, .int v1), (2, .int v2), (3, .int (v3 + 1))]) [2, 3, 4, 0] rfl ?_
        exact ih v2 (v3 + 1) h
      · replace h := (if_neg hc_1011).symm.trans h
        refine g_iload (j := 0) C dX6_tooManyCopies_70 rfl ?_
        refine g_aload_n (j := 1) C dX6_tooManyCopies_72 rfl rfl ?_
        refine g_geti (k := 18) (N := 27) C sM_0 rfl in_X6_tooManyCopies_RX6 (by decide) rfl fl_X6_tooManyCopies_148 rfl dX6_tooManyCopies_73 ?_
        refine g_icmp_le C dX6_tooManyCopies_76 (tgt := 117) (by decide) (fun hc_1012 => ?_) (fun hc_1012 => ?_)
        · replace h := (if_pos hc_1012).symm.trans h
          refine g_iinc (k := 4) (L' := [(3, .int (v3 + 1)), (4, .int q_1007), (0, .ref (ad 0)), (1, .int v1), (2, .int v2)]) C dX6_tooManyCopies_117 rfl (z_iinc (by decide)) (by decide) rfl ?_
          refine g_goto C dX6_tooManyCopies_120 (tgt := 44) (by decide) ?_
          refine zG_sub (L' := [(0, .ref (ad 0)), (1, .int v1), (2, .int v2), (3, .int (v3 + 1))]) [2, 3, 4, 0] rfl ?_
          exact ih v2 (v3 + 1) h
        · replace h := (if_neg hc_1012).symm.trans h
          refine g_iload (j := 0) C dX6_tooManyCopies_79 rfl ?_
          refine g_iload_n (j := 2) C dX6_tooManyCopies_81 rfl rfl ?_
          refine g_icmp_ge C dX6_tooManyCopies_82 (tgt := 117) (by decide) (fun hc_1013 => ?_) (fun hc_1013 => ?_)
          · replace h := (if_pos hc_1013).symm.trans h
            refine g_iinc (k := 4) (L' := [(3, .int (v3 + 1)), (4, .int q_1007), (0, .ref (ad 0)), (1, .int v1), (2, .int v2)]) C dX6_tooManyCopies_117 rfl (z_iinc (by decide)) (by decide) rfl ?_
            refine g_goto C dX6_tooManyCopies_120 (tgt := 44) (by decide) ?_
            refine zG_sub (L' := [(0, .ref (ad 0)), (1, .int v1), (2, .int v2), (3, .int (v3 + 1))]) [2, 3, 4, 0] rfl ?_
            exact ih v2 (v3 + 1) h
          · replace h := (if_neg hc_1013).symm.trans h
            refine g_iload_n (j := 3) C dX6_tooManyCopies_85 rfl rfl ?_
            refine g_iconst (v := -1) C dX6_tooManyCopies_86 (by decide) ?_
            refine g_icmp_eq C dX6_tooManyCopies_87 (tgt := 96) (by decide) (fun hc_1014 => ?_) (fun hc_1014 => ?_)
            · replace h := (if_pos hc_1014).symm.trans h
              refine g_aload_n (j := 1) C dX6_tooManyCopies_96 rfl rfl ?_
              refine g_iload (j := 0) C dX6_tooManyCopies_97 rfl ?_
              obtain ⟨q_1015, hq_1016, h⟩ := bind_isome h
              refine g_vi (ws' := (zW cy ad shM E X)) (As := [.int q_1007]) (rest := []) (res := q_1015) C (c_X6_copiesAt l D cy ad E X q_1007 hq_1016) gX6_tooManyCopies_X6_copiesAt rfl hd_X6_copiesAt (zW_get X sM_0) rfl rfl rfl ⟨Nat.le_of_ble_eq_true rfl, Nat.le_of_ble_eq_true rfl⟩ rfl rfl (Nat.le_of_ble_eq_true rfl) ⟨Nat.zero_le _, Nat.zero_le _⟩ dX6_tooManyCopies_99 ?_
              refine g_aload_n (j := 1) C dX6_tooManyCopies_102 rfl rfl ?_
              refine g_aload_n (j := 1) C dX6_tooManyCopies_103 rfl rfl ?_
              refine g_geti (k := 16) (N := 27) C sM_0 rfl in_X6_tooManyCopies_RX6 (by decide) rfl fl_X6_tooManyCopies_157 rfl dX6_tooManyCopies_104 ?_
              refine g_iconst (v := 3) C dX6_tooManyCopies_107 (by decide) ?_
              obtain ⟨q_1017, hq_1018, h⟩ := bind_isome h
              refine g_vi (ws' := (zW cy ad shM E X)) (As := [.int (X 0 16), .int (3 : Int32)]) (rest := [.int q_1015]) (res := q_1017) C (c_X6_filmAt l D cy ad E X (X 0 16) (3 : Int32) hq_1018) gX6_tooManyCopies_X6_filmAt rfl hd_X6_filmAt (zW_get X sM_0) rfl rfl rfl ⟨Nat.le_of_ble_eq_true rfl, Nat.le_of_ble_eq_true rfl⟩ rfl rfl (Nat.le_of_ble_eq_true rfl) ⟨Nat.zero_le _, Nat.zero_le _⟩ dX6_tooManyCopies_108 ?_
              refine g_icmp_le C dX6_tooManyCopies_111 (tgt := 117) (by decide) (fun hc_1019 => ?_) (fun hc_1019 => ?_)
              · replace h := (if_pos hc_1019).symm.trans h
                refine g_iinc (k := 4) (L' := [(3, .int (v3 + 1)), (4, .int q_1007), (0, .ref (ad 0)), (1, .int v1), (2, .int v2)]) C dX6_tooManyCopies_117 rfl (z_iinc (by decide)) (by decide) rfl ?_
                refine g_goto C dX6_tooManyCopies_120 (tgt := 44) (by decide) ?_
                refine zG_sub (L' := [(0, .ref (ad 0)), (1, .int v1), (2, .int v2), (3, .int (v3 + 1))]) [2, 3, 4, 0] rfl ?_
                exact ih v2 (v3 + 1) h
              · replace h := (if_neg hc_1019).symm.trans h
                refine g_iload (j := 0) C dX6_tooManyCopies_114 rfl ?_
                refine g_istore_n (L' := [(2, .int q_1007), (4, .int q_1007), (0, .ref (ad 0)), (1, .int v1), (3, .int v3)]) C dX6_tooManyCopies_116 rfl (by decide) rfl ?_
                refine g_iinc (k := 4) (L' := [(3, .int (v3 + 1)), (2, .int q_1007), (4, .int q_1007), (0, .ref (ad 0)), (1, .int v1)]) C dX6_tooManyCopies_117 rfl (z_iinc (by decide)) (by decide) rfl ?_
                refine g_goto C dX6_tooManyCopies_120 (tgt := 44) (by decide) ?_
                refine zG_sub (L' := [(0, .ref (ad 0)), (1, .int v1), (2, .int q_1007), (3, .int (v3 + 1))]) [3, 4, 1, 0] rfl ?_
                exact ih q_1007 (v3 + 1) h
            · replace h := (if_neg hc_1014).symm.trans h
              refine g_iload (j := 0) C dX6_tooManyCopies_90 rfl ?_
              refine g_iload_n (j := 3) C dX6_tooManyCopies_92 rfl rfl ?_
              refine g_icmp_ge C dX6_tooManyCopies_93 (tgt := 117) (by decide) (fun hc_1020 => ?_) (fun hc_1020 => ?_)
              · replace h := (if_pos hc_1020).symm.trans h
                refine g_iinc (k := 4) (L' := [(3, .int (v3 + 1)), (4, .int q_1007), (0, .ref (ad 0)), (1, .int v1), (2, .int v2)]) C dX6_tooManyCopies_117 rfl (z_iinc (by decide)) (by decide) rfl ?_
                refine g_goto C dX6_tooManyCopies_120 (tgt := 44) (by decide) ?_
                refine zG_sub (L' := [(0, .ref (ad 0)), (1, .int v1), (2, .int v2), (3, .int (v3 + 1))]) [2, 3, 4, 0] rfl ?_
                exact ih v2 (v3 + 1) h
              · replace h := (if_neg hc_1020).symm.trans h
                refine g_aload_n (j := 1) C dX6_tooManyCopies_96 rfl rfl ?_
                refine g_iload (j := 0) C dX6_tooManyCopies_97 rfl ?_
                obtain ⟨q_1021, hq_1022, h⟩ := bind_isome h
                refine g_vi (ws' := (zW cy ad shM E X)) (As := [.int q_1007]) (rest := []) (res := q_1021) C (c_X6_copiesAt l D cy ad E X q_1007 hq_1022) gX6_tooManyCopies_X6_copiesAt rfl hd_X6_copiesAt (zW_get X sM_0) rfl rfl rfl ⟨Nat.le_of_ble_eq_true rfl, Nat.le_of_ble_eq_true rfl⟩ rfl rfl (Nat.le_of_ble_eq_true rfl) ⟨Nat.zero_le _, Nat.zero_le _⟩ dX6_tooManyCopies_99 ?_
                refine g_aload_n (j := 1) C dX6_tooManyCopies_102 rfl rfl ?_
                refine g_aload_n (j := 1) C dX6_tooManyCopies_103 rfl rfl ?_
                refine g_geti (k := 16) (N := 27) C sM_0 rfl in_X6_tooManyCopies_RX6 (by decide) rfl fl_X6_tooManyCopies_157 rfl dX6_tooManyCopies_104 ?_
                refine g_iconst (v := 3) C dX6_tooManyCopies_107 (by decide) ?_
                obtain ⟨q_1023, hq_1024, h⟩ := bind_isome h
                refine g_vi (ws' := (zW cy ad shM E X)) (As := [.int (X 0 16), .int (3 : Int32)]) (rest := [.int q_1021]) (res := q_1023) C (c_X6_filmAt l D cy ad E X (X 0 16) (3 : Int32) hq_1024) gX6_tooManyCopies_X6_filmAt rfl hd_X6_filmAt (zW_get X sM_0) rfl rfl rfl ⟨Nat.le_of_ble_eq_true rfl, Nat.le_of_ble_eq_true rfl⟩ rfl rfl (Nat.le_of_ble_eq_true rfl) ⟨Nat.zero_le _, Nat.zero_le _⟩ dX6_tooManyCopies_108 ?_
                refine g_icmp_le C dX6_tooManyCopies_111 (tgt := 117) (by decide) (fun hc_1025 => ?_) (fun hc_1025 => ?_)
                · replace h := (if_pos hc_1025).symm.trans h
                  refine g_iinc (k := 4) (L' := [(3, .int (v3 + 1)), (4, .int q_1007), (0, .ref (ad 0)), (1, .int v1), (2, .int v2)]) C dX6_tooManyCopies_117 rfl (z_iinc (by decide)) (by decide) rfl ?_
                  refine g_goto C dX6_tooManyCopies_120 (tgt := 44) (by decide) ?_
                  refine zG_sub (L' := [(0, .ref (ad 0)), (1, .int v1), (2, .int v2), (3, .int (v3 + 1))]) [2, 3, 4, 0] rfl ?_
                  exact ih v2 (v3 + 1) h
                · replace h := (if_neg hc_1025).symm.trans h
                  refine g_iload (j := 0) C dX6_tooManyCopies_114 rfl ?_
                  refine g_istore_n (L' := [(2, .int q_1007), (4, .int q_1007), (0, .ref (ad 0)), (1, .int v1), (3, .int v3)]) C dX6_tooManyCopies_116 rfl (by decide) rfl ?_
                  refine g_iinc (k := 4) (L' := [(3, .int (v3 + 1)), (2, .int q_1007), (4, .int q_1007), (0, .ref (ad 0)), (1, .int v1)]) C dX6_tooManyCopies_117 rfl (z_iinc (by decide)) (by decide) rfl ?_
                  refine g_goto C dX6_tooManyCopies_120 (tgt := 44) (by decide) ?_
                  refine zG_sub (L' := [(0, .ref (ad 0)), (1, .int v1), (2, .int q_1007), (3, .int (v3 + 1))]) [3, 4, 1, 0] rfl ?_
                  exact ih q_1007 (v3 + 1) h
def f_X6_tooManyCopies (X : Nat → Nat → Int32) : Option Int32 := ((f_X6_copiesAt X (X 0 18)).bind fun q_1 => ((f_X6_filmAt X (X 0 16) (3 : Int32)).bind fun q_3 => (if q_1 ≤ q_3 then f_X6_tooManyCopies_L44 X ((X 0 19) + (X 1 (10 : Int32).toNatClampNeg)) zFuel (-1 : Int32) (0 : Int32) else f_X6_tooManyCopies_L44 X ((X 0 19) + (X 1 (10 : Int32).toNatClampNeg)) zFuel (X 0 18) (0 : Int32))))
set_option maxRecDepth 100000 in
set_option maxHeartbeats 4000000 in
theorem c_X6_tooManyCopies (l : Launch) (D : va_G) (cy : Nat → ClassId) (ad : Nat → Nat) (E : va_W) (X : Nat → Nat → Int32) {res : Int32} (h : f_X6_tooManyCopies X = some res) : zMi l yX6_tooManyCopies wsX6_tooManyCopies (zrm 5) D (zTy cy) (zW cy ad shM E X) [.ref (ad 0)] res (zW cy ad shM E X) := by
  refine zMi.of (cc := cX6_tooManyCopies) (maxL := 5) (ret := (some .int)) (by decide) rfl (Nat.le_of_ble_eq_true rfl) ?_
  intro p e s m below meth c A C hr
  unfold f_X6_tooManyCopies at h
  refine zG_L (L' := [(0, .ref (ad 0))]) rfl ?_
  refine g_aload_n (j := 0) C dX6_tooManyCopies_0 rfl rfl ?_
  refine g_geti (k := 19) (N := 27) C sM_0 rfl in_X6_tooManyCopies_RX6 (by decide) rfl fl_X6_tooManyCopies_139 rfl dX6_tooManyCopies_1 ?_
  refine g_aload_n (j := 0) C dX6_tooManyCopies_4 rfl rfl ?_
  refine g_getr (k := 1) (N := 27) C sM_0 rfl in_X6_tooManyCopies_RX6 (by decide) rfl fl_X6_tooManyCopies_9 rfl dX6_tooManyCopies_5 ?_
  refine g_bipush (v := 10) C dX6_tooManyCopies_8 (by decide) ?_
  refine g_iald C sM_1 (by decide) dX6_tooManyCopies_10 ?_
  refine g_iadd C dX6_tooManyCopies_11 ?_
  refine g_istore_n (L' := [(1, .int ((X 0 19) + (X 1 (10 : Int32).toNatClampNeg))), (0, .ref (ad 0))]) C dX6_tooManyCopies_12 rfl (by decide) rfl ?_
  refine g_aload_n (j := 1) C dX6_tooManyCopies_13 rfl rfl ?_
  refine g_aload_n (j := 1) C dX6_tooManyCopies_14 rfl rfl ?_
  refine g_geti (k := 18) (N := 27) C sM_0 rfl in_X6_tooManyCopies_RX6 (by decide) rfl fl_X6_tooManyCopies_148 rfl dX6_tooManyCopies_15 ?_
  obtain ⟨q_1, hq_2, h⟩ := bind_isome h
  refine g_vi (ws' := (zW cy ad shM E X)) (As := [.int (X 0 18)]) (rest := []) (res := q_1) C (c_X6_copiesAt l D cy ad E X (X 0 18) hq_2) gX6_tooManyCopies_X6_copiesAt rfl hd_X6_copiesAt (zW_get X sM_0) rfl rfl rfl ⟨Nat.le_of_ble_eq_true rfl, Nat.le_of_ble_eq_true rfl⟩ rfl rfl (Nat.le_of_ble_eq_true rfl) ⟨Nat.zero_le _, Nat.zero_le _⟩ dX6_tooManyCopies_18 ?_
  refine g_aload_n (j := 1) C dX6_tooManyCopies_21 rfl rfl ?_
  refine g_aload_n (j := 1) C dX6_tooManyCopies_22 rfl rfl ?_
  refine g_geti (k := 16) (N := 27) C sM_0 rfl in_X6_tooManyCopies_RX6 (by decide) rfl fl_X6_tooManyCopies_157 rfl dX6_tooManyCopies_23 ?_
  refine g_iconst (v := 3) C dX6_tooManyCopies_26 (by decide) ?_
  obtain ⟨q_3, hq_4, h⟩ := bind_isome h
  refine g_vi (ws' := (zW cy ad shM E X)) (As := [.int (X 0 16), .int (3 : Int32)]) (rest := [.int q_1]) (res := q_3) C (c_X6_filmAt l D cy ad E X (X 0 16) (3 : Int32) hq_4) gX6_tooManyCopies_X6_filmAt rfl hd_X6_filmAt (zW_get X sM_0) rfl rfl rfl ⟨Nat.le_of_ble_eq_true rfl, Nat.le_of_ble_eq_true rfl⟩ rfl rfl (Nat.le_of_ble_eq_true rfl) ⟨Nat.zero_le _, Nat.zero_le _⟩ dX6_tooManyCopies_27 ?_
  refine g_icmp_le C dX6_tooManyCopies_30 (tgt := 40) (by decide) (fun hc_5 => ?_) (fun hc_5 => ?_)
  · replace h := (if_pos hc_5).symm.trans h
    refine g_iconst (v := -1) C dX6_tooManyCopies_40 (by decide) ?_
    refine g_istore_n (L' := [(2, .int (-1 : Int32)), (1, .int ((X 0 19) + (X 1 (10 : Int32).toNatClampNeg))), (0, .ref (ad 0))]) C dX6_tooManyCopies_41 rfl (by decide) rfl ?_
    refine g_iconst (v := 0) C dX6_tooManyCopies_42 (by decide) ?_
    refine g_istore_n (L' := [(3, .int (0 : Int32)), (2, .int (-1 : Int32)), (1, .int ((X 0 19) + (X 1 (10 : Int32).toNatClampNeg))), (0, .ref (ad 0))]) C dX6_tooManyCopies_43 rfl (by decide) rfl ?_
    refine zG_sub (L' := [(0, .ref (ad 0)), (1, .int ((X 0 19) + (X 1 (10 : Int32).toNatClampNeg))), (2, .int (-1 : Int32)), (3, .int (0 : Int32))]) [3, 2, 1, 0] rfl ?_
    exact w_X6_tooManyCopies_L44 l D cy ad E X ((X 0 19) + (X 1 (10 : Int32).toNatClampNeg)) C hr zFuel (-1 : Int32) (0 : Int32) h
  · replace h := (if_neg hc_5).symm.trans h
    refine g_aload_n (j := 1) C dX6_tooManyCopies_33 rfl rfl ?_
    refine g_geti (k := 18) (N := 27) C sM_0 rfl in_X6_tooManyCopies_RX6 (by decide) rfl fl_X6_tooManyCopies_148 rfl dX6_tooManyCopies_34 ?_
    refine g_goto C dX6_tooManyCopies_37 (tgt := 41) (by decide) ?_
    refine g_istore_n (L' := [(2, .int (X 0 18)), (1, .int ((X 0 19) + (X 1 (10 : Int32).toNatClampNeg))), (0, .ref (ad 0))]) C dX6_tooManyCopies_41 rfl (by decide) rfl ?_
    refine g_iconst (v := 0) C dX6_tooManyCopies_42 (by decide) ?_
    refine g_istore_n (L' := [(3, .int (0 : Int32)), (2, .int (X 0 18)), (1, .int ((X 0 19) + (X 1 (10 : Int32).toNatClampNeg))), (0, .ref (ad 0))]) C dX6_tooManyCopies_43 rfl (by decide) rfl ?_
    refine zG_sub (L' := [(0, .ref (ad 0)), (1, .int ((X 0 19) + (X 1 (10 : Int32).toNatClampNeg))), (2, .int (X 0 18)), (3, .int (0 : Int32))]) [3, 2, 1, 0] rfl ?_
    exact w_X6_tooManyCopies_L44 l D cy ad E X ((X 0 19) + (X 1 (10 : Int32).toNatClampNeg)) C hr zFuel (X 0 18) (0 : Int32) h
theorem in_X6_meetsAtExit_RX6 : ∀ w ∈ u_ws RX6 TX6 27, w ∈ wsX6_meetsAtExit := by decide +kernel
theorem fl_X6_meetsAtExit_9 : (Cond.fieldLink RX6 9 RX6 (TX6 1).2.1 (TX6 1).2.2.1) ∈ wsX6_meetsAtExit := by decide +kernel
theorem fl_X6_meetsAtExit_139 : (Cond.fieldLink RX6 139 RX6 (TX6 19).2.1 (TX6 19).2.2.1) ∈ wsX6_meetsAtExit := by decide +kernel
theorem fl_X6_meetsAtExit_142 : (Cond.fieldLink RX6 142 RX6 (TX6 15).2.1 (TX6 15).2.2.1) ∈ wsX6_meetsAtExit := by decide +kernel
theorem hd_X6_meetsAtExit : yX6_meetsAtExit.cls = RX6 ∧ yX6_meetsAtExit.cls ≠ "java/lang/invoke/MethodHandle" ∧ yX6_meetsAtExit.cls ≠ "java/lang/invoke/VarHandle" ∧ (parseMethodDescriptor yX6_meetsAtExit.desc).map (fun d => d.parameters.length) = some 0 := by decide +kernel
def f_X6_meetsAtExit_L2 (X : Nat → Nat → Int32) : Nat → Int32 → Option Int32
  | 0, _ => none
  | fu + 1, v1 => (if (X 1 (4 : Int32).toNatClampNeg) ≤ v1 then some (-1 : Int32) else ((f_X6_endOf X v1).bind fun q_1002 => ((f_X6_isOther X v1).bind fun q_1004 => (if q_1004 = 0 then f_X6_meetsAtExit_L2 X fu (v1 + 1) else ((f_X6_showAt X v1 (0 : Int32)).bind fun q_1007 => ((f_X6_hallAt X q_1007 (2 : Int32)).bind fun q_1009 => ((f_X6_hallAt X (X 0 15) (2 : Int32)).bind fun q_1011 => (if q_1009 = q_1011 then (if 0 ≤ (q_1002 - (X 0 19)) then (if (X 1 (8 : Int32).toNatClampNeg) ≤ (q_1002 - (X 0 19)) then f_X6_meetsAtExit_L2 X fu (v1 + 1) else some v1) else (if (X 1 (8 : Int32).toNatClampNeg) ≤ (-(q_1002 - (X 0 19))) then f_X6_meetsAtExit_L2 X fu (v1 + 1) else some v1)) else f_X6_meetsAtExit_L2 X fu (v1 + 1)))))))))
set_option maxRecDepth 100000 in
set_option maxHeartbeats 4000000 in
theorem w_X6_meetsAtExit_L2 {p : Program} {e : Env} {s : State} {m : MethodId} {args : Array Value} {below : List Frame} {meth : Method} {c : Code} {A : Nat → Prop} (l : Launch) (D : va_G) (cy : Nat → ClassId) (ad : Nat → Nat) (E : va_W) (X : Nat → Nat → Int32) {res : Int32} (C : zC p s m args meth c cX6_meetsAtExit 3 RX6 wsX6_meetsAtExit D (zTy cy) A) (hr : meth.sig.returnType = (some .int)) : ∀ (fu : Nat) (v1 : Int32) (h : f_X6_meetsAtExit_L2 X fu v1 = some res), zG p l e (headSpec wsX6_meetsAtExit (zrm 4)).room s m args below meth c 3 D A 0 0 (MQ below (va_Qi (fun (r : Int32) (_ : Unit) => r = res) (fun _ t => zB D (zTy cy) A (zW cy ad shM E X) t) A) args s 0 0 A) (zW cy ad shM E X) 2 [(0, .ref (ad 0)), (1, .int v1)] [] := by
  intro fu
  induction fu with
  | zero => intro v1 h; simp [f_X6_meetsAtExit_L2] at h
  | succ fu ih =>
    intro v1 h
    rw [f_X6_meetsAtExit_L2] at h
    refine g_iload_n (j := 1) C dX6_meetsAtExit_2 rfl rfl ?_
    refine g_aload_n (j := 0) C dX6_meetsAtExit_3 rfl rfl ?_
    refine g_getr (k := 1) (N := 27) C sM_0 rfl in_X6_meetsAtExit_RX6 (by decide) rfl fl_X6_meetsAtExit_9 rfl dX6_meetsAtExit_4 ?_
    refine g_iconst (v := 4) C dX6_meetsAtExit_7 (by decide) ?_
    refine g_iald C sM_1 (by decide) dX6_meetsAtExit_8 ?_
    refine g_icmp_ge C dX6_meetsAtExit_9 (tgt := 82) (by decide) (fun hc_1001 => ?_) (fun hc_1001 => ?_)
    · replace h := (if_pos hc_1001).symm.trans h
      refine g_iconst (v := -1) C dX6_meetsAtExit_82 (by decide) ?_
      obtain rfl := Option.some.inj h
      exact g_iret rfl C hr rfl dX6_meetsAtExit_83
    · replace h := (if_neg hc_1001).symm.trans h
      refine g_aload_n (j := 0) C dX6_meetsAtExit_12 rfl rfl ?_
      refine g_iload_n (j := 1) C dX6_meetsAtExit_13 rfl rfl ?_
      obtain ⟨q_1002, hq_1003, h⟩ := bind_isome h
      refine g_vi (ws' := (zW cy ad shM E X)) (As := [.int v1]) (rest := []) (res := q_1002) C (c_X6_endOf l D cy ad E X v1 hq_1003) gX6_meetsAtExit_X6_endOf rfl hd_X6_endOf (zW_get X sM_0) rfl rfl rfl ⟨Nat.le_of_ble_eq_true rfl, Nat.le_of_ble_eq_true rfl⟩ rfl rfl (Nat.le_of_ble_eq_true rfl) ⟨Nat.zero_le _, Nat.zero_le _⟩ dX6_meetsAtExit_14 ?_
      refine g_aload_n (j := 0) C dX6_meetsAtExit_17 rfl rfl ?_
      refine g_geti (k := 19) (N := 27) C sM_0 rfl in_X6_meetsAtExit_RX6 (by decide) rfl fl_X6_meetsAtExit_139 rfl dX6_meetsAtExit_18 ?_
      refine g_isub C dX6_meetsAtExit_21 ?_
      refine g_istore_n (L' := [(2, .int (q_1002 - (X 0 19))), (0, .ref (ad 0)), (1, .int v1)]) C dX6_meetsAtExit_22 rfl (by decide) rfl ?_
      refine g_aload_n (j := 1) C dX6_meetsAtExit_23 rfl rfl ?_
      refine g_iload_n (j := 2) C dX6_meetsAtExit_24 rfl rfl ?_
      obtain ⟨q_1004, hq_1005, h⟩ := bind_isome h
      refine g_vi (ws' := (zW cy ad shM E X)) (As := [.int v1]) (rest := []) (res := q_1004) C (c_X6_isOther l D cy ad E X v1 hq_1005) gX6_meetsAtExit_X6_isOther rfl hd_X6_isOther (zW_get X sM_0) rfl rfl rfl ⟨Nat.le_of_ble_eq_true rfl, Nat.le_of_ble_eq_true rfl⟩ rfl rfl (Nat.le_of_ble_eq_true rfl) ⟨Nat.zero_le _, Nat.zero_le _⟩ dX6_meetsAtExit_25 ?_
      refine g_if_eq C dX6_meetsAtExit_28 (tgt := 76) (by decide) (fun hc_1006 => ?_) (fun hc_1006 => ?_)
      · replace h := (if_pos hc_1006).symm.trans h
        refine g_iinc (k := 2) (L' := [(1, .int (v1 + 1)), (2, .int (q_1002 - (X 0 19))), (0, .ref (ad 0))]) C dX6_meetsAtExit_76 rfl (z_iinc (by decide)) (by decide) rfl ?_
        refine g_goto C dX6_meetsAtExit_79 (tgt := 2) (by decide) ?_
        refine zG_sub (L' := [(0, .ref (ad 0)), (1, .int (v1 + 1))]) [2, 0] rfl ?_
        exact ih (v1 + 1) h
      · replace h := (if_neg hc_1006).symm.trans h
        refine g_aload_n (j := 1) C dX6_meetsAtExit_31 rfl rfl ?_
        refine g_aload_n (j := 1) C dX6_meetsAtExit_32 rfl rfl ?_
        refine g_iload_n (j := 2) C dX6_meetsAtExit_33 rfl rfl ?_
        refine g_iconst (v := 0) C dX6_meetsAtExit_34 (by decide) ?_
        obtain ⟨q_1007, hq_1008, h⟩ := bind_isome h
        refine g_vi (ws' := (zW cy ad shM E X)) (As := [.int v1, .int (0 : Int32)]) (rest := [.ref (ad 0)]) (res := q_1007) C (c_X6_showAt l D cy ad E X v1 (0 : Int32) hq_1008) gX6_meetsAtExit_X6_showAt rfl hd_X6_showAt (zW_get X sM_0) rfl rfl rfl ⟨Nat.le_of_ble_eq_true rfl, Nat.le_of_ble_eq_true rfl⟩ rfl rfl (Nat.le_of_ble_eq_true rfl) ⟨Nat.zero_le _, Nat.zero_le _⟩ dX6_meetsAtExit_35 ?_
        refine g_iconst (v := 2) C dX6_meetsAtExit_38 (by decide) ?_
        obtain ⟨q_1009, hq_1010, h⟩ := bind_isome h
        refine g_vi (ws' := (zW cy ad shM E X)) (As := [.int q_1007, .int (2 : Int32)]) (rest := []) (res := q_1009) C (c_X6_hallAt l D cy ad E X q_1007 (2 : Int32) hq_1010) gX6_meetsAtExit_X6_hallAt rfl hd_X6_hallAt (zW_get X sM_0) rfl rfl rfl ⟨Nat.le_of_ble_eq_true rfl, Nat.le_of_ble_eq_true rfl⟩ rfl rfl (Nat.le_of_ble_eq_true rfl) ⟨Nat.zero_le _, Nat.zero_le _⟩ dX6_meetsAtExit_39 ?_
        refine g_aload_n (j := 1) C dX6_meetsAtExit_42 rfl rfl ?_
        refine g_aload_n (j := 1) C dX6_meetsAtExit_43 rfl rfl ?_
        refine g_geti (k := 15) (N := 27) C sM_0 rfl in_X6_meetsAtExit_RX6 (by decide) rfl fl_X6_meetsAtExit_142 rfl dX6_meetsAtExit_44 ?_
        refine g_iconst (v := 2) C dX6_meetsAtExit_47 (by decide) ?_
        obtain ⟨q_1011, hq_1012, h⟩ := bind_isome h
        refine g_vi (ws' := (zW cy ad shM E X)) (As := [.int (X 0 15), .int (2 : Int32)]) (rest := [.int q_1009]) (res := q_1011) C (c_X6_hallAt l D cy ad E X (X 0 15) (2 : Int32) hq_1012) gX6_meetsAtExit_X6_hallAt rfl hd_X6_hallAt (zW_get X sM_0) rfl rfl rfl ⟨Nat.le_of_ble_eq_true rfl, Nat.le_of_ble_eq_true rfl⟩ rfl rfl (Nat.le_of_ble_eq_true rfl) ⟨Nat.zero_le _, Nat.zero_le _⟩ dX6_meetsAtExit_48 ?_
        refine g_icmp_ne C dX6_meetsAtExit_51 (tgt := 76) (by decide) (fun hc_1013 => ?_) (fun hc_1013 => ?_)
        · replace h := (if_neg hc_1013).symm.trans h
          refine g_iinc (k := 2) (L' := [(1, .int (v1 + 1)), (2, .int (q_1002 - (X 0 19))), (0, .ref (ad 0))]) C dX6_meetsAtExit_76 rfl (z_iinc (by decide)) (by decide) rfl ?_
          refine g_goto C dX6_meetsAtExit_79 (tgt := 2) (by decide) ?_
          refine zG_sub (L' := [(0, .ref (ad 0)), (1, .int (v1 + 1))]) [2, 0] rfl ?_
          exact ih (v1 + 1) h
        · replace h := (if_pos hc_1013).symm.trans h
          refine g_iload_n (j := 0) C dX6_meetsAtExit_54 rfl rfl ?_
          refine g_if_ge C dX6_meetsAtExit_55 (tgt := 63) (by decide) (fun hc_1014 => ?_) (fun hc_1014 => ?_)
          · replace h := (if_pos hc_1014).symm.trans h
            refine g_iload_n (j := 0) C dX6_meetsAtExit_63 rfl rfl ?_
            refine g_aload_n (j := 1) C dX6_meetsAtExit_64 rfl rfl ?_
            refine g_getr (k := 1) (N := 27) C sM_0 rfl in_X6_meetsAtExit_RX6 (by decide) rfl fl_X6_meetsAtExit_9 rfl dX6_meetsAtExit_65 ?_
            refine g_bipush (v := 8) C dX6_meetsAtExit_68 (by decide) ?_
            refine g_iald C sM_1 (by decide) dX6_meetsAtExit_70 ?_
            refine g_icmp_ge C dX6_meetsAtExit_71 (tgt := 76) (by decide) (fun hc_1015 => ?_) (fun hc_1015 => ?_)
            · replace h := (if_pos hc_1015).symm.trans h
              refine g_iinc (k := 2) (L' := [(1, .int (v1 + 1)), (2, .int (q_1002 - (X 0 19))), (0, .ref (ad 0))]) C dX6_meetsAtExit_76 rfl (z_iinc (by decide)) (by decide) rfl ?_
              refine g_goto C dX6_meetsAtExit_79 (tgt := 2) (by decide) ?_
              refine zG_sub (L' := [(0, .ref (ad 0)), (1, .int (v1 + 1))]) [2, 0] rfl ?_
              exact ih (v1 + 1) h
            · replace h := (if_neg hc_1015).symm.trans h
              refine g_iload_n (j := 2) C dX6_meetsAtExit_74 rfl rfl ?_
              obtain rfl := Option.some.inj h
              exact g_iret rfl C hr rfl dX6_meetsAtExit_75
          · replace h := (if_neg hc_1014).symm.trans h
            refine g_iload_n (j := 0) C dX6_meetsAtExit_58 rfl rfl ?_
            refine g_ineg C dX6_meetsAtExit_59 ?_
            refine g_goto C dX6_meetsAtExit_60 (tgt := 64) (by decide) ?_
            refine g_aload_n (j := 1) C dX6_meetsAtExit_64 rfl rfl ?_
            refine g_getr (k := 1) (N := 27) C sM_0 rfl in_X6_meetsAtExit_RX6 (by decide) rfl fl_X6_meetsAtExit_9 rfl dX6_meetsAtExit_65 ?_
            refine g_bipush (v := 8) C dX6_meetsAtExit_68 (by decide) ?_
            refine g_iald C sM_1 (by decide) dX6_meetsAtExit_70 ?_
            refine g_icmp_ge C dX6_meetsAtExit_71 (tgt := 76) (by decide) (fun hc_1016 => ?_) (fun hc_1016 => ?_)
            · replace h := (if_pos hc_1016).symm.trans h
              refine g_iinc (k := 2) (L' := [(1, .int (v1 + 1)), (2, .int (q_1002 - (X 0 19))), (0, .ref (ad 0))]) C dX6_meetsAtExit_76 rfl (z_iinc (by decide)) (by decide) rfl ?_
              refine g_goto C dX6_meetsAtExit_79 (tgt := 2) (by decide) ?_
              refine zG_sub (L' := [(0, .ref (ad 0)), (1, .int (v1 + 1))]) [2, 0] rfl ?_
              exact ih (v1 + 1) h
            · replace h := (if_neg hc_1016).symm.trans h
              refine g_iload_n (j := 2) C dX6_meetsAtExit_74 rfl rfl ?_
              obtain rfl := Option.some.inj h
              exact g_iret rfl C hr rfl dX6_meetsAtExit_75
def f_X6_meetsAtExit (X : Nat → Nat → Int32) : Option Int32 := f_X6_meetsAtExit_L2 X zFuel (0 : Int32)
set_option maxRecDepth 100000 in
set_option maxHeartbeats 4000000 in
theorem c_X6_meetsAtExit (l : Launch) (D : va_G) (cy : Nat → ClassId) (ad : Nat → Nat) (E : va_W) (X : Nat → Nat → Int32) {res : Int32} (h : f_X6_meetsAtExit X = some res) : zMi l yX6_meetsAtExit wsX6_meetsAtExit (zrm 4) D (zTy cy) (zW cy ad shM E X) [.ref (ad 0)] res (zW cy ad shM E X) := by
  refine zMi.of (cc := cX6_meetsAtExit) (maxL := 3) (ret := (some .int)) (by decide) rfl (Nat.le_of_ble_eq_true rfl) ?_
  intro p e s m below meth c A C hr
  unfold f_X6_meetsAtExit at h
  refine zG_L (L' := [(0, .ref (ad 0))]) rfl ?_
  refine g_iconst (v := 0) C dX6_meetsAtExit_0 (by decide) ?_
  refine g_istore_n (L' := [(1, .int (0 : Int32)), (0, .ref (ad 0))]) C dX6_meetsAtExit_1 rfl (by decide) rfl ?_
  refine zG_sub (L' := [(0, .ref (ad 0)), (1, .int (0 : Int32))]) [1, 0] rfl ?_
  exact w_X6_meetsAtExit_L2 l D cy ad E X C hr zFuel (0 : Int32) h
theorem in_X6_cleanedAt_RX6 : ∀ w ∈ u_ws RX6 TX6 27, w ∈ wsX6_cleanedAt := by decide +kernel
theorem fl_X6_cleanedAt_9 : (Cond.fieldLink RX6 9 RX6 (TX6 1).2.1 (TX6 1).2.2.1) ∈ wsX6_cleanedAt := by decide +kernel
theorem hd_X6_cleanedAt : yX6_cleanedAt.cls = RX6 ∧ yX6_cleanedAt.cls ≠ "java/lang/invoke/MethodHandle" ∧ yX6_cleanedAt.cls ≠ "java/lang/invoke/VarHandle" ∧ (parseMethodDescriptor yX6_cleanedAt.desc).map (fun d => d.parameters.length) = some 1 := by decide +kernel
def f_X6_cleanedAt_L4 (X : Nat → Nat → Int32) (v1 : Int32) : Nat → Int32 → Int32 → Option Int32
  | 0, _, _ => none
  | fu + 1, v2, v3 => (if (X 1 (4 : Int32).toNatClampNeg) ≤ v3 then some v2 else ((f_X6_isOther X v3).bind fun q_1002 => (if q_1002 = 0 then f_X6_cleanedAt_L4 X v1 fu (v2 + (0 : Int32)) (v3 + 1) else ((f_X6_endOf X v3).bind fun q_1005 => ((f_X6_endOf X v3).bind fun q_1007 => ((f_X6_cleanOf X v3).bind fun q_1009 => (if (f_X6_in v1 q_1005 ((q_1007 + q_1009) - (1 : Int32))) = 0 then f_X6_cleanedAt_L4 X v1 fu (v2 + (0 : Int32)) (v3 + 1) else f_X6_cleanedAt_L4 X v1 fu (v2 + (1 : Int32)) (v3 + 1))))))))
set_option maxRecDepth 100000 in
set_option maxHeartbeats 4000000 in
theorem w_X6_cleanedAt_L4 {p : Program} {e : Env} {s : State} {m : MethodId} {args : Array Value} {below : List Frame} {meth : Method} {c : Code} {A : Nat → Prop} (l : Launch) (D : va_G) (cy : Nat → ClassId) (ad : Nat → Nat) (E : va_W) (X : Nat → Nat → Int32) (v1 : Int32) {res : Int32} (C : zC p s m args meth c cX6_cleanedAt 4 RX6 wsX6_cleanedAt D (zTy cy) A) (hr : meth.sig.returnType = (some .int)) : ∀ (fu : Nat) (v2 v3 : Int32) (h : f_X6_cleanedAt_L4 X v1 fu v2 v3 = some res), zG p l e (headSpec wsX6_cleanedAt (zrm 4)).room s m args below meth c 4 D A 0 0 (MQ below (va_Qi (fun (r : Int32) (_ : Unit) => r = res) (fun _ t => zB D (zTy cy) A (zW cy ad shM E X) t) A) args s 0 0 A) (zW cy ad shM E X) 4 [(0, .ref (ad 0)), (1, .int v1), (2, .int v2), (3, .int v3)] [] := by
  intro fu
  induction fu with
  | zero => intro v2 v3 h; simp [f_X6_cleanedAt_L4] at h
  | succ fu ih =>
    intro v2 v3 h
    rw [f_X6_cleanedAt_L4] at h
    refine g_iload_n (j := 3) C dX6_cleanedAt_4 rfl rfl ?_
    refine g_aload_n (j := 0) C dX6_cleanedAt_5 rfl rfl ?_
    refine g_getr (k := 1) (N := 27) C sM_0 rfl in_X6_cleanedAt_RX6 (by decide) rfl fl_X6_cleanedAt_9 rfl dX6_cleanedAt_6 ?_
    refine g_iconst (v := 4) C dX6_cleanedAt_9 (by decide) ?_
    refine g_iald C sM_1 (by decide) dX6_cleanedAt_10 ?_
    refine g_icmp_ge C dX6_cleanedAt_11 (tgt := 61) (by decide) (fun hc_1001 => ?_) (fun hc_1001 => ?_)
    · replace h := (if_pos hc_1001).symm.trans h
      refine g_iload_n (j := 2) C dX6_cleanedAt_61 rfl rfl ?_
      obtain rfl := Option.some.inj h
      exact g_iret rfl C hr rfl dX6_cleanedAt_62
    · replace h := (if_neg hc_1001).symm.trans h
      refine g_iload_n (j := 2) C dX6_cleanedAt_14 rfl rfl ?_
      refine g_aload_n (j := 0) C dX6_cleanedAt_15 rfl rfl ?_
      refine g_iload_n (j := 3) C dX6_cleanedAt_16 rfl rfl ?_
      obtain ⟨q_1002, hq_1003, h⟩ := bind_isome h
      refine g_vi (ws' := (zW cy ad shM E X)) (As := [.int v3]) (rest := [.int v2]) (res := q_1002) C (c_X6_isOther l D cy ad E X v3 hq_1003) gX6_cleanedAt_X6_isOther rfl hd_X6_isOther (zW_get X sM_0) rfl rfl rfl ⟨Nat.le_of_ble_eq_true rfl, Nat.le_of_ble_eq_true rfl⟩ rfl rfl (Nat.le_of_ble_eq_true rfl) ⟨Nat.zero_le _, Nat.zero_le _⟩ dX6_cleanedAt_17 ?_
      refine g_if_eq C dX6_cleanedAt_20 (tgt := 52) (by decide) (fun hc_1004 => ?_) (fun hc_1004 => ?_)
      · replace h := (if_pos hc_1004).symm.trans h
        refine g_iconst (v := 0) C dX6_cleanedAt_52 (by decide) ?_
        refine g_iadd C dX6_cleanedAt_53 ?_
        refine g_istore_n (L' := [(2, .int (v2 + (0 : Int32))), (0, .ref (ad 0)), (1, .int v1), (3, .int v3)]) C dX6_cleanedAt_54 rfl (by decide) rfl ?_
        refine g_iinc (k := 3) (L' := [(3, .int (v3 + 1)), (2, .int (v2 + (0 : Int32))), (0, .ref (ad 0)), (1, .int v1)]) C dX6_cleanedAt_55 rfl (z_iinc (by decide)) (by decide) rfl ?_
        refine g_goto C dX6_cleanedAt_58 (tgt := 4) (by decide) ?_
        refine zG_sub (L' := [(0, .ref (ad 0)), (1, .int v1), (2, .int (v2 + (0 : Int32))), (3, .int (v3 + 1))]) [2, 3, 1, 0] rfl ?_
        exact ih (v2 + (0 : Int32)) (v3 + 1) h
      · replace h := (if_neg hc_1004).symm.trans h
        refine g_iload_n (j := 1) C dX6_cleanedAt_23 rfl rfl ?_
        refine g_aload_n (j := 0) C dX6_cleanedAt_24 rfl rfl ?_
        refine g_iload_n (j := 3) C dX6_cleanedAt_25 rfl rfl ?_
        obtain ⟨q_1005, hq_1006, h⟩ := bind_isome h
        refine g_vi (ws' := (zW cy ad shM E X)) (As := [.int v3]) (rest := [.int v1, .int v2]) (res := q_1005) C (c_X6_endOf l D cy ad E X v3 hq_1006) gX6_cleanedAt_X6_endOf rfl hd_X6_endOf (zW_get X sM_0) rfl rfl rfl ⟨Nat.le_of_ble_eq_true rfl, Nat.le_of_ble_eq_true rfl⟩ rfl rfl (Nat.le_of_ble_eq_true rfl) ⟨Nat.zero_le _, Nat.zero_le _⟩ dX6_cleanedAt_26 ?_
        refine g_aload_n (j := 0) C dX6_cleanedAt_29 rfl rfl ?_
        refine g_iload_n (j := 3) C dX6_cleanedAt_30 rfl rfl ?_
        obtain ⟨q_1007, hq_1008, h⟩ := bind_isome h
        refine g_vi (ws' := (zW cy ad shM E X)) (As := [.int v3]) (rest := [.int q_1005, .int v1, .int v2]) (res := q_1007) C (c_X6_endOf l D cy ad E X v3 hq_1008) gX6_cleanedAt_X6_endOf rfl hd_X6_endOf (zW_get X sM_0) rfl rfl rfl ⟨Nat.le_of_ble_eq_true rfl, Nat.le_of_ble_eq_true rfl⟩ rfl rfl (Nat.le_of_ble_eq_true rfl) ⟨Nat.zero_le _, Nat.zero_le _⟩ dX6_cleanedAt_31 ?_
        refine g_aload_n (j := 0) C dX6_cleanedAt_34 rfl rfl ?_
        refine g_iload_n (j := 3) C dX6_cleanedAt_35 rfl rfl ?_
        obtain ⟨q_1009, hq_1010, h⟩ := bind_isome h
        refine g_vi (ws' := (zW cy ad shM E X)) (As := [.int v3]) (rest := [.int q_1007, .int q_1005, .int v1, .int v2]) (res := q_1009) C (c_X6_cleanOf l D cy ad E X v3 hq_1010) gX6_cleanedAt_X6_cleanOf rfl hd_X6_cleanOf (zW_get X sM_0) rfl rfl rfl ⟨Nat.le_of_ble_eq_true rfl, Nat.le_of_ble_eq_true rfl⟩ rfl rfl (Nat.le_of_ble_eq_true rfl) ⟨Nat.zero_le _, Nat.zero_le _⟩ dX6_cleanedAt_36 ?_
        refine g_iadd C dX6_cleanedAt_39 ?_
        refine g_iconst (v := 1) C dX6_cleanedAt_40 (by decide) ?_
        refine g_isub C dX6_cleanedAt_41 ?_
        refine g_si (ws' := (zW cy ad shM E X)) (As := [.int v1, .int q_1005, .int ((q_1007 + q_1009) - (1 : Int32))]) (rest := [.int v2]) (res := (f_X6_in v1 q_1005 ((q_1007 + q_1009) - (1 : Int32)))) C (c_X6_in l D cy (zW cy ad shM E X) v1 q_1005 ((q_1007 + q_1009) - (1 : Int32))) gX6_cleanedAt_X6_in rfl hd_X6_in rfl rfl ⟨Nat.le_of_ble_eq_true rfl, Nat.le_of_ble_eq_true rfl⟩ rfl rfl (Nat.le_of_ble_eq_true rfl) ⟨Nat.zero_le _, Nat.zero_le _⟩ dX6_cleanedAt_42 ?_
        refine g_if_eq C dX6_cleanedAt_45 (tgt := 52) (by decide) (fun hc_1011 => ?_) (fun hc_1011 => ?_)
        · replace h := (if_pos hc_1011).symm.trans h
          refine g_iconst (v := 0) C dX6_cleanedAt_52 (by decide) ?_
          refine g_iadd C dX6_cleanedAt_53 ?_
          refine g_istore_n (L' := [(2, .int (v2 + (0 : Int32))), (0, .ref (ad 0)), (1, .int v1), (3, .int v3)]) C dX6_cleanedAt_54 rfl (by decide) rfl ?_
          refine g_iinc (k := 3) (L' := [(3, .int (v3 + 1)), (2, .int (v2 + (0 : Int32))), (0, .ref (ad 0)), (1, .int v1)]) C dX6_cleanedAt_55 rfl (z_iinc (by decide)) (by decide) rfl ?_
          refine g_goto C dX6_cleanedAt_58 (tgt := 4) (by decide) ?_
          refine zG_sub (L' := [(0, .ref (ad 0)), (1, .int v1), (2, .int (v2 + (0 : Int32))), (3, .int (v3 + 1))]) [2, 3, 1, 0] rfl ?_
          exact ih (v2 + (0 : Int32)) (v3 + 1) h
        · replace h := (if_neg hc_1011).symm.trans h
          refine g_iconst (v := 1) C dX6_cleanedAt_48 (by decide) ?_
          refine g_goto C dX6_cleanedAt_49 (tgt := 53) (by decide) ?_
          refine g_iadd C dX6_cleanedAt_53 ?_
          refine g_istore_n (L' := [(2, .int (v2 + (1 : Int32))), (0, .ref (ad 0)), (1, .int v1), (3, .int v3)]) C dX6_cleanedAt_54 rfl (by decide) rfl ?_
          refine g_iinc (k := 3) (L' := [(3, .int (v3 + 1)), (2, .int (v2 + (1 : Int32))), (0, .ref (ad 0)), (1, .int v1)]) C dX6_cleanedAt_55 rfl (z_iinc (by decide)) (by decide) rfl ?_
          refine g_goto C dX6_cleanedAt_58 (tgt := 4) (by decide) ?_
          refine zG_sub (L' := [(0, .ref (ad 0)), (1, .int v1), (2, .int (v2 + (1 : Int32))), (3, .int (v3 + 1))]) [2, 3, 1, 0] rfl ?_
          exact ih (v2 + (1 : Int32)) (v3 + 1) h
def f_X6_cleanedAt (X : Nat → Nat → Int32) (v1 : Int32) : Option Int32 := f_X6_cleanedAt_L4 X v1 zFuel (1 : Int32) (0 : Int32)
set_option maxRecDepth 100000 in
set_option maxHeartbeats 4000000 in
theorem c_X6_cleanedAt (l : Launch) (D : va_G) (cy : Nat → ClassId) (ad : Nat → Nat) (E : va_W) (X : Nat → Nat → Int32) (v1 : Int32) {res : Int32} (h : f_X6_cleanedAt X v1 = some res) : zMi l yX6_cleanedAt wsX6_cleanedAt (zrm 4) D (zTy cy) (zW cy ad shM E X) [.ref (ad 0), .int v1] res (zW cy ad shM E X) := by
  refine zMi.of (cc := cX6_cleanedAt) (maxL := 4) (ret := (some .int)) (by decide) rfl (Nat.le_of_ble_eq_true rfl) ?_
  intro p e s m below meth c A C hr
  unfold f_X6_cleanedAt at h
  refine zG_L (L' := [(0, .ref (ad 0)), (1, .int v1)]) rfl ?_
  refine g_iconst (v := 1) C dX6_cleanedAt_0 (by decide) ?_
  refine g_istore_n (L' := [(2, .int (1 : Int32)), (0, .ref (ad 0)), (1, .int v1)]) C dX6_cleanedAt_1 rfl (by decide) rfl ?_
  refine g_iconst (v := 0) C dX6_cleanedAt_2 (by decide) ?_
  refine g_istore_n (L' := [(3, .int (0 : Int32)), (2, .int (1 : Int32)), (0, .ref (ad 0)), (1, .int v1)]) C dX6_cleanedAt_3 rfl (by decide) rfl ?_
  refine zG_sub (L' := [(0, .ref (ad 0)), (1, .int v1), (2, .int (1 : Int32)), (3, .int (0 : Int32))]) [2, 3, 1, 0] rfl ?_
  exact w_X6_cleanedAt_L4 l D cy ad E X v1 C hr zFuel (1 : Int32) (0 : Int32) h
theorem in_X6_tooManyCleaned_RX6 : ∀ w ∈ u_ws RX6 TX6 27, w ∈ wsX6_tooManyCleaned := by decide +kernel
theorem fl_X6_tooManyCleaned_9 : (Cond.fieldLink RX6 9 RX6 (TX6 1).2.1 (TX6 1).2.2.1) ∈ wsX6_tooManyCleaned := by decide +kernel
theorem fl_X6_tooManyCleaned_139 : (Cond.fieldLink RX6 139 RX6 (TX6 19).2.1 (TX6 19).2.2.1) ∈ wsX6_tooManyCleaned := by decide +kernel
theorem fl_X6_tooManyCleaned_142 : (Cond.fieldLink RX6 142 RX6 (TX6 15).2.1 (TX6 15).2.2.1) ∈ wsX6_tooManyCleaned := by decide +kernel
theorem hd_X6_tooManyCleaned : yX6_tooManyCleaned.cls = RX6 ∧ yX6_tooManyCleaned.cls ≠ "java/lang/invoke/MethodHandle" ∧ yX6_tooManyCleaned.cls ≠ "java/lang/invoke/VarHandle" ∧ (parseMethodDescriptor yX6_tooManyCleaned.desc).map (fun d => d.parameters.length) = some 0 := by decide +kernel
def f_X6_tooManyCleaned_L45 (X : Nat → Nat → Int32) (v1 : Int32) : Nat → Int32 → Int32 → Option Int32
  | 0, _, _ => none
  | fu + 1, v2, v3 => (if (X 1 (4 : Int32).toNatClampNeg) ≤ v3 then some v2 else ((f_X6_endOf X v3).bind fun q_1008 => ((f_X6_isOther X v3).bind fun q_1010 => (if q_1010 = 0 then f_X6_tooManyCleaned_L45 X v1 fu v2 (v3 + 1) else (if q_1008 ≤ (X 0 19) then f_X6_tooManyCleaned_L45 X v1 fu v2 (v3 + 1) else (if ((X 0 19) + v1) ≤ q_1008 then f_X6_tooManyCleaned_L45 X v1 fu v2 (v3 + 1) else (if v2 = (-1 : Int32) then ((f_X6_cleanedAt X q_1008).bind fun q_1016 => (if q_1016 ≤ (X 1 (9 : Int32).toNatClampNeg) then f_X6_tooManyCleaned_L45 X v1 fu v2 (v3 + 1) else f_X6_tooManyCleaned_L45 X v1 fu q_1008 (v3 + 1))) else (if v2 ≤ q_1008 then f_X6_tooManyCleaned_L45 X v1 fu v2 (v3 + 1) else ((f_X6_cleanedAt X q_1008).bind fun q_1020 => (if q_1020 ≤ (X 1 (9 : Int32).toNatClampNeg) then f_X6_tooManyCleaned_L45 X v1 fu v2 (v3 + 1) else f_X6_tooManyCleaned_L45 X v1 fu q_1008 (v3 + 1)))))))))))
set_option maxRecDepth 100000 in
set_option maxHeartbeats 4000000 in
theorem w_X6_tooManyCleaned_L45 {p : Program} {e : Env} {s : State} {m : MethodId} {args : Array Value} {below : List Frame} {meth : Method} {c : Code} {A : Nat → Prop} (l : Launch) (D : va_G) (cy : Nat → ClassId) (ad : Nat → Nat) (E : va_W) (X : Nat → Nat → Int32) (v1 : Int32) {res : Int32} (C : zC p s m args meth c cX6_tooManyCleaned 5 RX6 wsX6_tooManyCleaned D (zTy cy) A) (hr : meth.sig.returnType = (some .int)) : ∀ (fu : Nat) (v2 v3 : Int32) (h : f_X6_tooManyCleaned_L45 X v1 fu v2 v3 = some res), zG p l e (headSpec wsX6_tooManyCleaned (zrm 5)).room s m args below meth c 5 D A 0 0 (MQ below (va_Qi (fun (r : Int32) (_ : Unit) => r = res) (fun _ t => zB D (zTy cy) A (zW cy ad shM E X) t) A) args s 0 0 A) (zW cy ad shM E X) 45 [(0, .ref (ad 0)), (1, .int v1), (2, .int v2), (3, .int v3)] [] := by
  intro fu
  induction fu with
  | zero => intro v2 v3 h; simp [f_X6_tooManyCleaned_L45] at h
  | succ fu ih =>
    intro v2 v3 h
    rw [f_X6_tooManyCleaned_L45] at h
    refine g_iload_n (j := 3) C dX6_tooManyCleaned_45 rfl rfl ?_
    refine g_aload_n (j := 0) C dX6_tooManyCleaned_46 rfl rfl ?_
    refine g_getr (k := 1) (N := 27) C sM_0 rfl in_X6_tooManyCleaned_RX6 (by decide) rfl fl_X6_tooManyCleaned_9 rfl dX6_tooManyCleaned_47 ?_
    refine g_iconst (v := 4) C dX6_tooManyCleaned_50 (by decide) ?_
    refine g_iald C sM_1 (by decide) dX6_tooManyCleaned_51 ?_
    refine g_icmp_ge C dX6_tooManyCleaned_52 (tgt := 126) (by decide) (fun hc_1007 => ?_) (fun hc_1007 => ?_)
    · replace h := (if_pos hc_1007).symm.trans h
      refine g_iload_n (j := 2) C dX6_tooManyCleaned_126 rfl rfl ?_
      obtain rfl := Option.some.inj h
      exact g_iret rfl C hr rfl dX6_tooManyCleaned_127
    · replace h := (if_neg hc_1007).symm.trans h
      refine g_aload_n (j := 0) C dX6_tooManyCleaned_55 rfl rfl ?_
      refine g_iload_n (j := 3) C dX6_tooManyCleaned_56 rfl rfl ?_
      obtain ⟨q_1008, hq_1009, h⟩ := bind_isome h
      refine g_vi (ws' := (zW cy ad shM E X)) (As := [.int v3]) (rest := []) (res := q_1008) C (c_X6_endOf l D cy ad E X v3 hq_1009) gX6_tooManyCleaned_X6_endOf rfl hd_X6_endOf (zW_get X sM_0) rfl rfl rfl ⟨Nat.le_of_ble_eq_true rfl, Nat.le_of_ble_eq_true rfl⟩ rfl rfl (Nat.le_of_ble_eq_true rfl) ⟨Nat.zero_le _, Nat.zero_le _⟩ dX6_tooManyCleaned_57 ?_
      refine g_istore (L' := [(4, .int q_1008), (0, .ref (ad 0)), (1, .int v1), (2, .int v2), (3, .int v3)]) C dX6_tooManyCleaned_60 (by decide) rfl ?_
      refine g_aload_n (j := 1) C dX6_tooManyCleaned_62 rfl rfl ?_
      refine g_iload_n (j := 4) C dX6_tooManyCleaned_63 rfl rfl ?_
      obtain ⟨q_1010, hq_1011, h⟩ := bind_isome h
      refine g_vi (ws' := (zW cy ad shM E X)) (As := [.int v3]) (rest := []) (res := q_1010) C (c_X6_isOther l D cy ad E X v3 hq_1011) gX6_tooManyCleaned_X6_isOther rfl hd_X6_isOther (zW_get X sM_0) rfl rfl rfl ⟨Nat.le_of_ble_eq_true rfl, Nat.le_of_ble_eq_true rfl⟩ rfl rfl (Nat.le_of_ble_eq_true rfl) ⟨Nat.zero_le _, Nat.zero_le _⟩ dX6_tooManyCleaned_64 ?_
      refine g_if_eq C dX6_tooManyCleaned_67 (tgt := 120) (by decide) (fun hc_1012 => ?_) (fun hc_1012 => ?_)
      · replace h := (if_pos hc_1012).symm.trans h
        refine g_iinc (k := 4) (L' := [(3, .int (v3 + 1)), (4, .int q_1008), (0, .ref (ad 0)), (1, .int v1), (2, .int v2)]) C dX6_tooManyCleaned_120 rfl (z_iinc (by decide)) (by decide) rfl ?_
        refine g_goto C dX6_tooManyCleaned_123 (tgt := 45) (by decide) ?_
        refine zG_sub (L' := [(0, .ref (ad 0)), (1, .int v1), (2, .int v2), (3, .int (v3 + 1))]) [2, 3, 4, 0] rfl ?_
        exact ih v2 (v3 + 1) h
      · replace h := (if_neg hc_1012).symm.trans h
        refine g_iload (j := 0) C dX6_tooManyCleaned_70 rfl ?_
        refine g_aload_n (j := 1) C dX6_tooManyCleaned_72 rfl rfl ?_
        refine g_geti (k := 19) (N := 27) C sM_0 rfl in_X6_tooManyCleaned_RX6 (by decide) rfl fl_X6_tooManyCleaned_139 rfl dX6_tooManyCleaned_73 ?_
        refine g_icmp_le C dX6_tooManyCleaned_76 (tgt := 120) (by decide) (fun hc_1013 => ?_) (fun hc_1013 => ?_)
        · replace h := (if_pos hc_1013).symm.trans h
          refine g_iinc (k := 4) (L' := [(3, .int (v3 + 1)), (4, .int q_1008), (0, .ref (ad 0)), (1, .int v1), (2, .int v2)]) C dX6_tooManyCleaned_120 rfl (z_iinc (by decide)) (by decide) rfl ?_
          refine g_goto C dX6_tooManyCleaned_123 (tgt := 45) (by decide) ?_
          refine zG_sub (L' := [(0, .ref (ad 0)), (1, .int v1), (2, .int v2), (3, .int (v3 + 1))]) [2, 3, 4, 0] rfl ?_
          exact ih v2 (v3 + 1) h
        · replace h := (if_neg hc_1013).symm.trans h
          refine g_iload (j := 0) C dX6_tooManyCleaned_79 rfl ?_
          refine g_aload_n (j := 1) C dX6_tooManyCleaned_81 rfl rfl ?_
          refine g_geti (k := 19) (N := 27) C sM_0 rfl in_X6_tooManyCleaned_RX6 (by decide) rfl fl_X6_tooManyCleaned_139 rfl dX6_tooManyCleaned_82 ?_
          refine g_iload_n (j := 2) C dX6_tooManyCleaned_85 rfl rfl ?_
          refine g_iadd C dX6_tooManyCleaned_86 ?_
          refine g_icmp_ge C dX6_tooManyCleaned_87 (tgt := 120) (by decide) (fun hc_1014 => ?_) (fun hc_1014 => ?_)
          · replace h := (if_pos hc_1014).symm.trans h
            refine g_iinc (k := 4) (L' := [(3, .int (v3 + 1)), (4, .int q_1008), (0, .ref (ad 0)), (1, .int v1), (2, .int v2)]) C dX6_tooManyCleaned_120 rfl (z_iinc (by decide)) (by decide) rfl ?_
            refine g_goto C dX6_tooManyCleaned_123 (tgt := 45) (by decide) ?_
            refine zG_sub (L' := [(0, .ref (ad 0)), (1, .int v1), (2, .int v2), (3, .int (v3 + 1))]) [2, 3, 4, 0] rfl ?_
            exact ih v2 (v3 + 1) h
          · replace h := (if_neg hc_1014).symm.trans h
            refine g_iload_n (j := 3) C dX6_tooManyCleaned_90 rfl rfl ?_
            refine g_iconst (v := -1) C dX6_tooManyCleaned_91 (by decide) ?_
            refine g_icmp_eq C dX6_tooManyCleaned_92 (tgt := 101) (by decide) (fun hc_1015 => ?_) (fun hc_1015 => ?_)
            · replace h := (if_pos hc_1015).symm.trans h
              refine g_aload_n (j := 1) C dX6_tooManyCleaned_101 rfl rfl ?_
              refine g_iload (j := 0) C dX6_tooManyCleaned_102 rfl ?_
              obtain ⟨q_1016, hq_1017, h⟩ := bind_isome h
              refine g_vi (ws' := (zW cy ad shM E X)) (As := [.int q_1008]) (rest := []) (res := q_1016) C (c_X6_cleanedAt l D cy ad E X q_1008 hq_1017) gX6_tooManyCleaned_X6_cleanedAt rfl hd_X6_cleanedAt (zW_get X sM_0) rfl rfl rfl ⟨Nat.le_of_ble_eq_true rfl, Nat.le_of_ble_eq_true rfl⟩ rfl rfl (Nat.le_of_ble_eq_true rfl) ⟨Nat.zero_le _, Nat.zero_le _⟩ dX6_tooManyCleaned_104 ?_
              refine g_aload_n (j := 1) C dX6_tooManyCleaned_107 rfl rfl ?_
              refine g_getr (k := 1) (N := 27) C sM_0 rfl in_X6_tooManyCleaned_RX6 (by decide) rfl fl_X6_tooManyCleaned_9 rfl dX6_tooManyCleaned_108 ?_
              refine g_bipush (v := 9) C dX6_tooManyCleaned_111 (by decide) ?_
              refine g_iald C sM_1 (by decide) dX6_tooManyCleaned_113 ?_
              refine g_icmp_le C dX6_tooManyCleaned_114 (tgt := 120) (by decide) (fun hc_1018 => ?_) (fun hc_1018 => ?_)
              · replace h := (if_pos hc_1018).symm.trans h
                refine g_iinc (k := 4) (L' := [(3, .int (v3 + 1)), (4, .int q_1008), (0, .ref (ad 0)), (1, .int v1), (2, .int v2)]) C dX6_tooManyCleaned_120 rfl (z_iinc (by decide)) (by decide) rfl ?_
                refine g_goto C dX6_tooManyCleaned_123 (tgt := 45) (by decide) ?_
                refine zG_sub (L' := [(0, .ref (ad 0)), (1, .int v1), (2, .int v2), (3, .int (v3 + 1))]) [2, 3, 4, 0] rfl ?_
                exact ih v2 (v3 + 1) h
              · replace h := (if_neg hc_1018).symm.trans h
                refine g_iload (j := 0) C dX6_tooManyCleaned_117 rfl ?_
                refine g_istore_n (L' := [(2, .int q_1008), (4, .int q_1008), (0, .ref (ad 0)), (1, .int v1), (3, .int v3)]) C dX6_tooManyCleaned_119 rfl (by decide) rfl ?_
                refine g_iinc (k := 4) (L' := [(3, .int (v3 + 1)), (2, .int q_1008), (4, .int q_1008), (0, .ref (ad 0)), (1, .int v1)]) C dX6_tooManyCleaned_120 rfl (z_iinc (by decide)) (by decide) rfl ?_
                refine g_goto C dX6_tooManyCleaned_123 (tgt := 45) (by decide) ?_
                refine zG_sub (L' := [(0, .ref (ad 0)), (1, .int v1), (2, .int q_1008), (3, .int (v3 + 1))]) [3, 4, 1, 0] rfl ?_
                exact ih q_1008 (v3 + 1) h
            · replace h := (if_neg hc_1015).symm.trans h
              refine g_iload (j := 0) C dX6_tooManyCleaned_95 rfl ?_
              refine g_iload_n (j := 3) C dX6_tooManyCleaned_97 rfl rfl ?_
              refine g_icmp_ge C dX6_tooManyCleaned_98 (tgt := 120) (by decide) (fun hc_1019 => ?_) (fun hc_1019 => ?_)
              · replace h := (if_pos hc_1019).symm.trans h
                refine g_iinc (k := 4) (L' := [(3, .int (v3 + 1)), (4, .int q_1008), (0, .ref (ad 0)), (1, .int v1), (2, .int v2)]) C dX6_tooManyCleaned_120 rfl (z_iinc (by decide)) (by decide) rfl ?_
                refine g_goto C dX6_tooManyCleaned_123 (tgt := 45) (by decide) ?_
                refine zG_sub (L' := [(0, .ref (ad 0)), (1, .int v1), (2, .int v2), (3, .int (v3 + 1))]) [2, 3, 4, 0] rfl ?_
                exact ih v2 (v3 + 1) h
              · replace h := (if_neg hc_1019).symm.trans h
                refine g_aload_n (j := 1) C dX6_tooManyCleaned_101 rfl rfl ?_
                refine g_iload (j := 0) C dX6_tooManyCleaned_102 rfl ?_
                obtain ⟨q_1020, hq_1021, h⟩ := bind_isome h
                refine g_vi (ws' := (zW cy ad shM E X)) (As := [.int q_1008]) (rest := []) (res := q_1020) C (c_X6_cleanedAt l D cy ad E X q_1008 hq_1021) gX6_tooManyCleaned_X6_cleanedAt rfl hd_X6_cleanedAt (zW_get X sM_0) rfl rfl rfl ⟨Nat.le_of_ble_eq_true rfl, Nat.le_of_ble_eq_true rfl⟩ rfl rfl (Nat.le_of_ble_eq_true rfl) ⟨Nat.zero_le _, Nat.zero_le _⟩ dX6_tooManyCleaned_104 ?_
                refine g_aload_n (j := 1) C dX6_tooManyCleaned_107 rfl rfl ?_
                refine g_getr (k := 1) (N := 27) C sM_0 rfl in_X6_tooManyCleaned_RX6 (by decide) rfl fl_X6_tooManyCleaned_9 rfl dX6_tooManyCleaned_108 ?_
                refine g_bipush (v := 9) C dX6_tooManyCleaned_111 (by decide) ?_
                refine g_iald C sM_1 (by decide) dX6_tooManyCleaned_113 ?_
                refine g_icmp_le C dX6_tooManyCleaned_114 (tgt := 120) (by decide) (fun hc_1022 => ?_) (fun hc_1022 => ?_)
                · replace h := (if_pos hc_1022).symm.trans h
                  refine g_iinc (k := 4) (L' := [(3, .int (v3 + 1)), (4, .int q_1008), (0, .ref (ad 0)), (1, .int v1), (2, .int v2)]) C dX6_tooManyCleaned_120 rfl (z_iinc (by decide)) (by decide) rfl ?_
                  refine g_goto C dX6_tooManyCleaned_123 (tgt := 45) (by decide) ?_
                  refine zG_sub (L' := [(0, .ref (ad 0)), (1, .int v1), (2, .int v2), (3, .int (v3 + 1))]) [2, 3, 4, 0] rfl ?_
                  exact ih v2 (v3 + 1) h
                · replace h := (if_neg hc_1022).symm.trans h
                  refine g_iload (j := 0) C dX6_tooManyCleaned_117 rfl ?_
                  refine g_istore_n (L' := [(2, .int q_1008), (4, .int q_1008), (0, .ref (ad 0)), (1, .int v1), (3, .int v3)]) C dX6_tooManyCleaned_119 rfl (by decide) rfl ?_
                  refine g_iinc (k := 4) (L' := [(3, .int (v3 + 1)), (2, .int q_1008), (4, .int q_1008), (0, .ref (ad 0)), (1, .int v1)]) C dX6_tooManyCleaned_120 rfl (z_iinc (by decide)) (by decide) rfl ?_
                  refine g_goto C dX6_tooManyCleaned_123 (tgt := 45) (by decide) ?_
                  refine zG_sub (L' := [(0, .ref (ad 0)), (1, .int v1), (2, .int q_1008), (3, .int (v3 + 1))]) [3, 4, 1, 0] rfl ?_
                  exact ih q_1008 (v3 + 1) h
def f_X6_tooManyCleaned (X : Nat → Nat → Int32) : Option Int32 := ((f_X6_hallAt X (X 0 15) (1 : Int32)).bind fun q_1 => (if q_1 = 0 then some (-1 : Int32) else ((f_X6_cleanedAt X (X 0 19)).bind fun q_4 => (if q_4 ≤ (X 1 (9 : Int32).toNatClampNeg) then f_X6_tooManyCleaned_L45 X q_1 zFuel (-1 : Int32) (0 : Int32) else f_X6_tooManyCleaned_L45 X q_1 zFuel (X 0 19) (0 : Int32)))))
set_option maxRecDepth 100000 in
set_option maxHeartbeats 4000000 in
theorem c_X6_tooManyCleaned (l : Launch) (D : va_G) (cy : Nat → ClassId) (ad : Nat → Nat) (E : va_W) (X : Nat → Nat → Int32) {res : Int32} (h : f_X6_tooManyCleaned X = some res) : zMi l yX6_tooManyCleaned wsX6_tooManyCleaned (zrm 5) D (zTy cy) (zW cy ad shM E X) [.ref (ad 0)] res (zW cy ad shM E X) := by
  refine zMi.of (cc := cX6_tooManyCleaned) (maxL := 5) (ret := (some .int)) (by decide) rfl (Nat.le_of_ble_eq_true rfl) ?_
  intro p e s m below meth c A C hr
  unfold f_X6_tooManyCleaned at h
  refine zG_L (L' := [(0, .ref (ad 0))]) rfl ?_
  refine g_aload_n (j := 0) C dX6_tooManyCleaned_0 rfl rfl ?_
  refine g_aload_n (j := 0) C dX6_tooManyCleaned_1 rfl rfl ?_
  refine g_geti (k := 15) (N := 27) C sM_0 rfl in_X6_tooManyCleaned_RX6 (by decide) rfl fl_X6_tooManyCleaned_142 rfl dX6_tooManyCleaned_2 ?_
  refine g_iconst (v := 1) C dX6_tooManyCleaned_5 (by decide) ?_
  obtain ⟨q_1, hq_2, h⟩ := bind_isome h
  refine g_vi (ws' := (zW cy ad shM E X)) (As := [.int (X 0 15), .int (1 : Int32)]) (rest := []) (res := q_1) C (c_X6_hallAt l D cy ad E X (X 0 15) (1 : Int32) hq_2) gX6_tooManyCleaned_X6_hallAt rfl hd_X6_hallAt (zW_get X sM_0) rfl rfl rfl ⟨Nat.le_of_ble_eq_true rfl, Nat.le_of_ble_eq_true rfl⟩ rfl rfl (Nat.le_of_ble_eq_true rfl) ⟨Nat.zero_le _, Nat.zero_le _⟩ dX6_tooManyCleaned_6 ?_
  refine g_istore_n (L' := [(1, .int q_1), (0, .ref (ad 0))]) C dX6_tooManyCleaned_9 rfl (by decide) rfl ?_
  refine g_iload_n (j := 0) C dX6_tooManyCleaned_10 rfl rfl ?_
  refine g_if_ne C dX6_tooManyCleaned_11 (tgt := 16) (by decide) (fun hc_3 => ?_) (fun hc_3 => ?_)
  · replace h := (if_neg hc_3).symm.trans h
    refine g_aload_n (j := 1) C dX6_tooManyCleaned_16 rfl rfl ?_
    refine g_aload_n (j := 1) C dX6_tooManyCleaned_17 rfl rfl ?_
    refine g_geti (k := 19) (N := 27) C sM_0 rfl in_X6_tooManyCleaned_RX6 (by decide) rfl fl_X6_tooManyCleaned_139 rfl dX6_tooManyCleaned_18 ?_
    obtain ⟨q_4, hq_5, h⟩ := bind_isome h
    refine g_vi (ws' := (zW cy ad shM E X)) (As := [.int (X 0 19)]) (rest := []) (res := q_4) C (c_X6_cleanedAt l D cy ad E X (X 0 19) hq_5) gX6_tooManyCleaned_X6_cleanedAt rfl hd_X6_cleanedAt (zW_get X sM_0) rfl rfl rfl ⟨Nat.le_of_ble_eq_true rfl, Nat.le_of_ble_eq_true rfl⟩ rfl rfl (Nat.le_of_ble_eq_true rfl) ⟨Nat.zero_le _, Nat.zero_le _⟩ dX6_tooManyCleaned_21 ?_
    refine g_aload_n (j := 1) C dX6_tooManyCleaned_24 rfl rfl ?_
    refine g_getr (k := 1) (N := 27) C sM_0 rfl in_X6_tooManyCleaned_RX6 (by decide) rfl fl_X6_tooManyCleaned_9 rfl dX6_tooManyCleaned_25 ?_
    refine g_bipush (v := 9) C dX6_tooManyCleaned_28 (by decide) ?_
    refine g_iald C sM_1 (by decide) dX6_tooManyCleaned_30 ?_
    refine g_icmp_le C dX6_tooManyCleaned_31 (tgt := 41) (by decide) (fun hc_6 => ?_) (fun hc_6 => ?_)
    · replace h := (if_pos hc_6).symm.trans h
      refine g_iconst (v := -1) C dX6_tooManyCleaned_41 (by decide) ?_
      refine g_istore_n (L' := [(2, .int (-1 : Int32)), (1, .int q_1), (0, .ref (ad 0))]) C dX6_tooManyCleaned_42 rfl (by decide) rfl ?_
      refine g_iconst (v := 0) C dX6_tooManyCleaned_43 (by decide) ?_
      refine g_istore_n (L' := [(3, .int (0 : Int32)), (2, .int (-1 : Int32)), (1, .int q_1), (0, .ref (ad 0))]) C dX6_tooManyCleaned_44 rfl (by decide) rfl ?_
      refine zG_sub (L' := [(0, .ref (ad 0)), (1, .int q_1), (2, .int (-1 : Int32)), (3, .int (0 : Int32))]) [3, 2, 1, 0] rfl ?_
      exact w_X6_tooManyCleaned_L45 l D cy ad E X q_1 C hr zFuel (-1 : Int32) (0 : Int32) h
    · replace h := (if_neg hc_6).symm.trans h
      refine g_aload_n (j := 1) C dX6_tooManyCleaned_34 rfl rfl ?_
      refine g_geti (k := 19) (N := 27) C sM_0 rfl in_X6_tooManyCleaned_RX6 (by decide) rfl fl_X6_tooManyCleaned_139 rfl dX6_tooManyCleaned_35 ?_
      refine g_goto C dX6_tooManyCleaned_38 (tgt := 42) (by decide) ?_
      refine g_istore_n (L' := [(2, .int (X 0 19)), (1, .int q_1), (0, .ref (ad 0))]) C dX6_tooManyCleaned_42 rfl (by decide) rfl ?_
      refine g_iconst (v := 0) C dX6_tooManyCleaned_43 (by decide) ?_
      refine g_istore_n (L' := [(3, .int (0 : Int32)), (2, .int (X 0 19)), (1, .int q_1), (0, .ref (ad 0))]) C dX6_tooManyCleaned_44 rfl (by decide) rfl ?_
      refine zG_sub (L' := [(0, .ref (ad 0)), (1, .int q_1), (2, .int (X 0 19)), (3, .int (0 : Int32))]) [3, 2, 1, 0] rfl ?_
      exact w_X6_tooManyCleaned_L45 l D cy ad E X q_1 C hr zFuel (X 0 19) (0 : Int32) h
  · replace h := (if_pos hc_3).symm.trans h
    refine g_iconst (v := -1) C dX6_tooManyCleaned_14 (by decide) ?_
    obtain rfl := Option.some.inj h
    exact g_iret rfl C hr rfl dX6_tooManyCleaned_15
theorem hd_X6_isClosed : yX6_isClosed.cls = RX6 ∧ yX6_isClosed.cls ≠ "java/lang/invoke/MethodHandle" ∧ yX6_isClosed.cls ≠ "java/lang/invoke/VarHandle" ∧ (parseMethodDescriptor yX6_isClosed.desc).map (fun d => d.parameters.length) = some 2 := by decide +kernel
def f_X6_isClosed (X : Nat → Nat → Int32) (v1 v2 : Int32) : Option Int32 := ((f_X6_hallAt X v1 (3 : Int32)).bind fun q_1 => (if q_1 = (-1 : Int32) then some (0 : Int32) else ((f_X6_hallAt X v1 (3 : Int32)).bind fun q_4 => (if v2 < q_4 then some (0 : Int32) else some (1 : Int32)))))
set_option maxRecDepth 100000 in
set_option maxHeartbeats 4000000 in
theorem c_X6_isClosed (l : Launch) (D : va_G) (cy : Nat → ClassId) (ad : Nat → Nat) (E : va_W) (X : Nat → Nat → Int32) (v1 v2 : Int32) {res : Int32} (h : f_X6_isClosed X v1 v2 = some res) : zMi l yX6_isClosed wsX6_isClosed (zrm 2) D (zTy cy) (zW cy ad shM E X) [.ref (ad 0), .int v1, .int v2] res (zW cy ad shM E X) := by
  refine zMi.of (cc := cX6_isClosed) (maxL := 3) (ret := (some .boolean)) (by decide) rfl (Nat.le_of_ble_eq_true rfl) ?_
  intro p e s m below meth c A C hr
  unfold f_X6_isClosed at h
  refine zG_L (L' := [(0, .ref (ad 0)), (1, .int v1), (2, .int v2)]) rfl ?_
  refine g_aload_n (j := 0) C dX6_isClosed_0 rfl rfl ?_
  refine g_iload_n (j := 1) C dX6_isClosed_1 rfl rfl ?_
  refine g_iconst (v := 3) C dX6_isClosed_2 (by decide) ?_
  obtain ⟨q_1, hq_2, h⟩ := bind_isome h
  refine g_vi (ws' := (zW cy ad shM E X)) (As := [.int v1, .int (3 : Int32)]) (rest := []) (res := q_1) C (c_X6_hallAt l D cy ad E X v1 (3 : Int32) hq_2) gX6_isClosed_X6_hallAt rfl hd_X6_hallAt (zW_get X sM_0) rfl rfl rfl ⟨Nat.le_of_ble_eq_true rfl, Nat.le_of_ble_eq_true rfl⟩ rfl rfl (Nat.le_of_ble_eq_true rfl) ⟨Nat.zero_le _, Nat.zero_le _⟩ dX6_isClosed_3 ?_
  refine g_iconst (v := -1) C dX6_isClosed_6 (by decide) ?_
  refine g_icmp_eq C dX6_isClosed_7 (tgt := 24) (by decide) (fun hc_3 => ?_) (fun hc_3 => ?_)
  · replace h := (if_pos hc_3).symm.trans h
    refine g_iconst (v := 0) C dX6_isClosed_24 (by decide) ?_
    obtain rfl := Option.some.inj h
    exact g_iret rfl C hr (z_nb (Or.inl rfl)) dX6_isClosed_25
  · replace h := (if_neg hc_3).symm.trans h
    refine g_iload_n (j := 2) C dX6_isClosed_10 rfl rfl ?_
    refine g_aload_n (j := 0) C dX6_isClosed_11 rfl rfl ?_
    refine g_iload_n (j := 1) C dX6_isClosed_12 rfl rfl ?_
    refine g_iconst (v := 3) C dX6_isClosed_13 (by decide) ?_
    obtain ⟨q_4, hq_5, h⟩ := bind_isome h
    refine g_vi (ws' := (zW cy ad shM E X)) (As := [.int v1, .int (3 : Int32)]) (rest := [.int v2]) (res := q_4) C (c_X6_hallAt l D cy ad E X v1 (3 : Int32) hq_5) gX6_isClosed_X6_hallAt rfl hd_X6_hallAt (zW_get X sM_0) rfl rfl rfl ⟨Nat.le_of_ble_eq_true rfl, Nat.le_of_ble_eq_true rfl⟩ rfl rfl (Nat.le_of_ble_eq_true rfl) ⟨Nat.zero_le _, Nat.zero_le _⟩ dX6_isClosed_14 ?_
    refine g_icmp_lt C dX6_isClosed_17 (tgt := 24) (by decide) (fun hc_6 => ?_) (fun hc_6 => ?_)
    · replace h := (if_pos hc_6).symm.trans h
      refine g_iconst (v := 0) C dX6_isClosed_24 (by decide) ?_
      obtain rfl := Option.some.inj h
      exact g_iret rfl C hr (z_nb (Or.inl rfl)) dX6_isClosed_25
    · replace h := (if_neg hc_6).symm.trans h
      refine g_iconst (v := 1) C dX6_isClosed_20 (by decide) ?_
      refine g_goto C dX6_isClosed_21 (tgt := 25) (by decide) ?_
      obtain rfl := Option.some.inj h
      exact g_iret rfl C hr (z_nb (Or.inr rfl)) dX6_isClosed_25
theorem in_X6_broken_RX6 : ∀ w ∈ u_ws RX6 TX6 27, w ∈ wsX6_broken := by decide +kernel
theorem fl_X6_broken_166 : (Cond.fieldLink RX6 166 RX6 (TX6 21).2.1 (TX6 21).2.2.1) ∈ wsX6_broken := by decide +kernel
theorem hd_X6_broken : yX6_broken.cls = RX6 ∧ yX6_broken.cls ≠ "java/lang/invoke/MethodHandle" ∧ yX6_broken.cls ≠ "java/lang/invoke/VarHandle" ∧ (parseMethodDescriptor yX6_broken.desc).map (fun d => d.parameters.length) = some 2 := by decide +kernel
def f_X6_broken (X : Nat → Nat → Int32) (v1 v2 : Int32) : Int32 × (Nat → Nat → Int32) := (zlet (zU X 0 21 v2) fun X_1 => (v1, X_1))
set_option maxRecDepth 100000 in
set_option maxHeartbeats 4000000 in
theorem c_X6_broken (l : Launch) (D : va_G) (cy : Nat → ClassId) (ad : Nat → Nat) (E : va_W) (X : Nat → Nat → Int32) (v1 v2 : Int32) : zMi l yX6_broken wsX6_broken (zrm 1) D (zTy cy) (zW cy ad shM E X) [.ref (ad 0), .int v1, .int v2] ((f_X6_broken X v1 v2).1) (zW cy ad shM E (f_X6_broken X v1 v2).2) := by
  refine zMi.of (cc := cX6_broken) (maxL := 3) (ret := (some .int)) (by decide) rfl (Nat.le_of_ble_eq_true rfl) ?_
  intro p e s m below meth c A C hr
  generalize h : f_X6_broken X v1 v2 = res
  unfold f_X6_broken at h
  refine zG_L (L' := [(0, .ref (ad 0)), (1, .int v1), (2, .int v2)]) rfl ?_
  refine g_aload_n (j := 0) C dX6_broken_0 rfl rfl ?_
  refine g_iload_n (j := 2) C dX6_broken_1 rfl rfl ?_
  refine g_puti (k := 21) (N := 27) (ty := .int) C sM_0 rfl in_X6_broken_RX6 (by decide) rfl fl_X6_broken_166 rfl tyX6_ok nmX6 rfl (by decide +kernel) rfl rfl dX6_broken_2 ?_
  obtain ⟨X_1, e_2, h⟩ := zlet_ex h
  rw [← e_2]
  refine g_iload_n (j := 1) C dX6_broken_5 rfl rfl ?_
  subst h
  exact g_iret rfl C hr rfl dX6_broken_6
theorem in_X6_breaks_RX6 : ∀ w ∈ u_ws RX6 TX6 27, w ∈ wsX6_breaks := by decide +kernel
theorem fl_X6_breaks_9 : (Cond.fieldLink RX6 9 RX6 (TX6 1).2.1 (TX6 1).2.2.1) ∈ wsX6_breaks := by decide +kernel
theorem fl_X6_breaks_133 : (Cond.fieldLink RX6 133 RX6 (TX6 20).2.1 (TX6 20).2.2.1) ∈ wsX6_breaks := by decide +kernel
theorem fl_X6_breaks_136 : (Cond.fieldLink RX6 136 RX6 (TX6 17).2.1 (TX6 17).2.2.1) ∈ wsX6_breaks := by decide +kernel
theorem fl_X6_breaks_139 : (Cond.fieldLink RX6 139 RX6 (TX6 19).2.1 (TX6 19).2.2.1) ∈ wsX6_breaks := by decide +kernel
theorem fl_X6_breaks_142 : (Cond.fieldLink RX6 142 RX6 (TX6 15).2.1 (TX6 15).2.2.1) ∈ wsX6_breaks := by decide +kernel
theorem fl_X6_breaks_148 : (Cond.fieldLink RX6 148 RX6 (TX6 18).2.1 (TX6 18).2.2.1) ∈ wsX6_breaks := by decide +kernel
theorem fl_X6_breaks_157 : (Cond.fieldLink RX6 157 RX6 (TX6 16).2.1 (TX6 16).2.2.1) ∈ wsX6_breaks := by decide +kernel
theorem hd_X6_breaks : yX6_breaks.cls = RX6 ∧ yX6_breaks.cls ≠ "java/lang/invoke/MethodHandle" ∧ yX6_breaks.cls ≠ "java/lang/invoke/VarHandle" ∧ (parseMethodDescriptor yX6_breaks.desc).map (fun d => d.parameters.length) = some 6 := by decide +kernel
def f_X6_breaks (X : Nat → Nat → Int32) (v1 v2 v3 v4 v5 v6 : Int32) : Option (Int32 × (Nat → Nat → Int32)) := (zlet (zU X 0 15 v1) fun X_1 => (zlet (zU X_1 0 16 v2) fun X_3 => (zlet (zU X_3 0 17 v3) fun X_5 => (zlet (zU X_5 0 18 v4) fun X_7 => (zlet (zU X_7 0 19 (v4 + v5)) fun X_9 => (zlet (zU X_9 0 20 v6) fun X_11 => (if (X_11 1 (0 : Int32).toNatClampNeg) ≤ v3 then ((f_X6_isClosed X_11 v1 v3).bind fun q_14 => (if q_14 = 0 then ((f_X6_filmAt X_11 v2 (4 : Int32)).bind fun q_17 => (if q_17 ≤ v3 then ((f_X6_filmAt X_11 v2 (1 : Int32)).bind fun q_20 => (if ((14 : Int32) + (v4 / (60 : Int32))) < 0 ∨ 580 ≤ ((14 : Int32) + (v4 / (60 : Int32))).toNatClampNeg then none else (if q_20 ≤ (X_11 1 ((14 : Int32) + (v4 / (60 : Int32))).toNatClampNeg) then (if (X_11 0 19) ≤ (960 : Int32) then ((f_X6_meetsInHall X_11).bind fun q_25 => (if q_25 = (-1 : Int32) then ((f_X6_tooManyCopies X_11).bind fun q_28 => (if q_28 = (-1 : Int32) then ((f_X6_meetsAtExit X_11).bind fun q_31 => (if q_31 = (-1 : Int32) then ((f_X6_tooManyCleaned X_11).bind fun q_34 => (if q_34 = (-1 : Int32) then (zlet (f_X6_broken X_11 (0 : Int32) (-1 : Int32)) fun q_37 => some (q_37.1, q_37.2)) else (zlet (f_X6_broken X_11 (9 : Int32) q_34) fun q_39 => some (q_39.1, q_39.2)))) else (zlet (f_X6_broken X_11 (8 : Int32) q_31) fun q_41 => some (q_41.1, q_41.2)))) else (zlet (f_X6_broken X_11 (7 : Int32) q_28) fun q_43 => some (q_43.1, q_43.2)))) else (zlet (f_X6_broken X_11 (6 : Int32) q_25) fun q_45 => some (q_45.1, q_45.2)))) else (zlet (f_X6_broken X_11 (5 : Int32) (X_11 0 19)) fun q_47 => some (q_47.1, q_47.2))) else (if ((14 : Int32) + (v4 / (60 : Int32))) < 0 ∨ 580 ≤ ((14 : Int32) + (v4 / (60 : Int32))).toNatClampNeg then none else (zlet (f_X6_broken X_11 (4 : Int32) (X_11 1 ((14 : Int32) + (v4 / (60 : Int32))).toNatClampNeg)) fun q_50 => some (q_50.1, q_50.2)))))) else ((f_X6_filmAt X_11 v2 (4 : Int32)).bind fun q_52 => (zlet (f_X6_broken X_11 (3 : Int32) q_52) fun q_54 => some (q_54.1, q_54.2))))) else (zlet (f_X6_broken X_11 (2 : Int32) v1) fun q_56 => some (q_56.1, q_56.2)))) else (zlet (f_X6_broken X_11 (1 : Int32) (X_11 1 (0 : Int32).toNatClampNeg)) fun q_58 => some (q_58.1, q_58.2)))))))))
set_option maxRecDepth 100000 in
set_option maxHeartbeats 4000000 in
theorem c_X6_breaks (l : Launch) (D : va_G) (cy : Nat → ClassId) (ad : Nat → Nat) (E : va_W) (X : Nat → Nat → Int32) (v1 v2 v3 v4 v5 v6 : Int32) {res : Int32 × (Nat → Nat → Int32)} (h : f_X6_breaks X v1 v2 v3 v4 v5 v6 = some res) : zMi l yX6_breaks wsX6_breaks (zrm 6) D (zTy cy) (zW cy ad shM E X) [.ref (ad 0), .int v1, .int v2, .int v3, .int v4, .int v5, .int v6] res.1 (zW cy ad shM E res.2) := by
  refine zMi.of (cc := cX6_breaks) (maxL := 11) (ret := (some .int)) (by decide) rfl (Nat.le_of_ble_eq_true rfl) ?_
  intro p e s m below meth c A C hr
  unfold f_X6_breaks at h
  refine zG_L (L' := [(0, .ref (ad 0)), (1, .int v1), (2, .int v2), (3, .int v3), (4, .int v4), (5, .int v5), (6, .int v6)]) rfl ?_
  refine g_aload_n (j := 0) C dX6_breaks_0 rfl rfl ?_
  refine g_iload_n (j := 1) C dX6_breaks_1 rfl rfl ?_
  refine g_puti (k := 15) (N := 27) (ty := .int) C sM_0 rfl in_X6_breaks_RX6 (by decide) rfl fl_X6_breaks_142 rfl tyX6_ok nmX6 rfl (by decide +kernel) rfl rfl dX6_breaks_2 ?_
  obtain ⟨X_1, e_2, h⟩ := zlet_ex h
  rw [← e_2]
  refine g_aload_n (j := 0) C dX6_breaks_5 rfl rfl ?_
  refine g_iload_n (j := 2) C dX6_breaks_6 rfl rfl ?_
  refine g_puti (k := 16) (N := 27) (ty := .int) C sM_0 rfl in_X6_breaks_RX6 (by decide) rfl fl_X6_breaks_157 rfl tyX6_ok nmX6 rfl (by decide +kernel) rfl rfl dX6_breaks_7 ?_
  obtain ⟨X_3, e_4, h⟩ := zlet_ex h
  rw [← e_4]
  refine g_aload_n (j := 0) C dX6_breaks_10 rfl rfl ?_
  refine g_iload_n (j := 3) C dX6_breaks_11 rfl rfl ?_
  refine g_puti (k := 17) (N := 27) (ty := .int) C sM_0 rfl in_X6_breaks_RX6 (by decide) rfl fl_X6_breaks_136 rfl tyX6_ok nmX6 rfl (by decide +kernel) rfl rfl dX6_breaks_12 ?_
  obtain ⟨X_5, e_6, h⟩ := zlet_ex h
  rw [← e_6]
  refine g_aload_n (j := 0) C dX6_breaks_15 rfl rfl ?_
  refine g_iload (j := 4) C dX6_breaks_16 rfl ?_
  refine g_puti (k := 18) (N := 27) (ty := .int) C sM_0 rfl in_X6_breaks_RX6 (by decide) rfl fl_X6_breaks_148 rfl tyX6_ok nmX6 rfl (by decide +kernel) rfl rfl dX6_breaks_18 ?_
  obtain ⟨X_7, e_8, h⟩ := zlet_ex h
  rw [← e_8]
  refine g_aload_n (j := 0) C dX6_breaks_21 rfl rfl ?_
  refine g_iload (j := 4) C dX6_breaks_22 rfl ?_
  refine g_iload (j := 5) C dX6_breaks_24 rfl ?_
  refine g_iadd C dX6_breaks_26 ?_
  refine g_puti (k := 19) (N := 27) (ty := .int) C sM_0 rfl in_X6_breaks_RX6 (by decide) rfl fl_X6_breaks_139 rfl tyX6_ok nmX6 rfl (by decide +kernel) rfl rfl dX6_breaks_27 ?_
  obtain ⟨X_9, e_10, h⟩ := zlet_ex h
  rw [← e_10]
  refine g_aload_n (j := 0) C dX6_breaks_30 rfl rfl ?_
  refine g_iload (j := 6) C dX6_breaks_31 rfl ?_
  refine g_puti (k := 20) (N := 27) (ty := .int) C sM_0 rfl in_X6_breaks_RX6 (by decide) rfl fl_X6_breaks_133 rfl tyX6_ok nmX6 rfl (by decide +kernel) rfl rfl dX6_breaks_33 ?_
  obtain ⟨X_11, e_12, h⟩ := zlet_ex h
  rw [← e_12]
  refine g_iload_n (j := 3) C dX6_breaks_36 rfl rfl ?_
  refine g_aload_n (j := 0) C dX6_breaks_37 rfl rfl ?_
  refine g_getr (k := 1) (N := 27) C sM_0 rfl in_X6_breaks_RX6 (by decide) rfl fl_X6_breaks_9 rfl dX6_breaks_38 ?_
  refine g_iconst (v := 0) C dX6_breaks_41 (by decide) ?_
  refine g_iald C sM_1 (by decide) dX6_breaks_42 ?_
  refine g_icmp_ge C dX6_breaks_43 (tgt := 58) (by decide) (fun hc_13 => ?_) (fun hc_13 => ?_)
  · replace h := (if_pos hc_13).symm.trans h
    refine g_aload_n (j := 0) C dX6_breaks_58 rfl rfl ?_
    refine g_iload_n (j := 1) C dX6_breaks_59 rfl rfl ?_
    refine g_iload_n (j := 3) C dX6_breaks_60 rfl rfl ?_
    obtain ⟨q_14, hq_15, h⟩ := bind_isome h
    refine g_vi (ws' := (zW cy ad shM E X_11)) (As := [.int v1, .int v3]) (rest := []) (res := q_14) C (c_X6_isClosed l D cy ad E X_11 v1 v3 hq_15) gX6_breaks_X6_isClosed rfl hd_X6_isClosed (zW_get X_11 sM_0) rfl rfl rfl ⟨Nat.le_of_ble_eq_true rfl, Nat.le_of_ble_eq_true rfl⟩ rfl rfl (Nat.le_of_ble_eq_true rfl) ⟨Nat.zero_le _, Nat.zero_le _⟩ dX6_breaks_61 ?_
    refine g_if_eq C dX6_breaks_64 (tgt := 74) (by decide) (fun hc_16 => ?_) (fun hc_16 => ?_)
    · replace h := (if_pos hc_16).symm.trans h
      refine g_iload_n (j := 3) C dX6_breaks_74 rfl rfl ?_
      refine g_aload_n (j := 0) C dX6_breaks_75 rfl rfl ?_
      refine g_iload_n (j := 2) C dX6_breaks_76 rfl rfl ?_
      refine g_iconst (v := 4) C dX6_breaks_77 (by decide) ?_
      obtain ⟨q_17, hq_18, h⟩ := bind_isome h
      refine g_vi (ws' := (zW cy ad shM E X_11)) (As := [.int v2, .int (4 : Int32)]) (rest := [.int v3]) (res := q_17) C (c_X6_filmAt l D cy ad E X_11 v2 (4 : Int32) hq_18) gX6_breaks_X6_filmAt rfl hd_X6_filmAt (zW_get X_11 sM_0) rfl rfl rfl ⟨Nat.le_of_ble_eq_true rfl, Nat.le_of_ble_eq_true rfl⟩ rfl rfl (Nat.le_of_ble_eq_true rfl) ⟨Nat.zero_le _, Nat.zero_le _⟩ dX6_breaks_78 ?_
      refine g_icmp_ge C dX6_breaks_81 (tgt := 96) (by decide) (fun hc_19 => ?_) (fun hc_19 => ?_)
      · replace h := (if_pos hc_19).symm.trans h
        refine g_aload_n (j := 0) C dX6_breaks_96 rfl rfl ?_
        refine g_iload_n (j := 2) C dX6_breaks_97 rfl rfl ?_
        refine g_iconst (v := 1) C dX6_breaks_98 (by decide) ?_
        obtain ⟨q_20, hq_21, h⟩ := bind_isome h
        refine g_vi (ws' := (zW cy ad shM E X_11)) (As := [.int v2, .int (1 : Int32)]) (rest := []) (res := q_20) C (c_X6_filmAt l D cy ad E X_11 v2 (1 : Int32) hq_21) gX6_breaks_X6_filmAt rfl hd_X6_filmAt (zW_get X_11 sM_0) rfl rfl rfl ⟨Nat.le_of_ble_eq_true rfl, Nat.le_of_ble_eq_true rfl⟩ rfl rfl (Nat.le_of_ble_eq_true rfl) ⟨Nat.zero_le _, Nat.zero_le _⟩ dX6_breaks_99 ?_
        refine g_aload_n (j := 0) C dX6_breaks_102 rfl rfl ?_
        refine g_getr (k := 1) (N := 27) C sM_0 rfl in_X6_breaks_RX6 (by decide) rfl fl_X6_breaks_9 rfl dX6_breaks_103 ?_
        refine g_bipush (v := 14) C dX6_breaks_106 (by decide) ?_
        refine g_iload (j := 4) C dX6_breaks_108 rfl ?_
        refine g_bipush (v := 60) C dX6_breaks_110 (by decide) ?_
        refine g_idiv C dX6_breaks_112 (by decide) ?_
        refine g_iadd C dX6_breaks_113 ?_
        obtain ⟨hi_22, h⟩ := ite_inone h
        refine g_iald C sM_1 hi_22 dX6_breaks_114 ?_
        refine g_icmp_le C dX6_breaks_115 (tgt := 137) (by decide) (fun hc_23 => ?_) (fun hc_23 => ?_)
        · replace h := (if_pos hc_23).symm.trans h
          refine g_aload_n (j := 0) C dX6_breaks_137 rfl rfl ?_
          refine g_geti (k := 19) (N := 27) C sM_0 rfl in_X6_breaks_RX6 (by decide) rfl fl_X6_breaks_139 rfl dX6_breaks_138 ?_
          refine g_sipush (v := 960) C dX6_breaks_141 (by decide) ?_
          refine g_icmp_le C dX6_breaks_144 (tgt := 157) (by decide) (fun hc_24 => ?_) (fun hc_24 => ?_)
          · replace h := (if_pos hc_24).symm.trans h
            refine g_aload_n (j := 0) C dX6_breaks_157 rfl rfl ?_
            obtain ⟨q_25, hq_26, h⟩ := bind_isome h
            refine g_vi (ws' := (zW cy ad shM E X_11)) (As := []) (rest := []) (res := q_25) C (c_X6_meetsInHall l D cy ad E X_11 hq_26) gX6_breaks_X6_meetsInHall rfl hd_X6_meetsInHall (zW_get X_11 sM_0) rfl rfl rfl ⟨Nat.le_of_ble_eq_true rfl, Nat.le_of_ble_eq_true rfl⟩ rfl rfl (Nat.le_of_ble_eq_true rfl) ⟨Nat.zero_le _, Nat.zero_le _⟩ dX6_breaks_158 ?_
            refine g_istore (L' := [(7, .int q_25), (0, .ref (ad 0)), (1, .int v1), (2, .int v2), (3, .int v3), (4, .int v4), (5, .int v5), (6, .int v6)]) C dX6_breaks_161 (by decide) rfl ?_
            refine g_iload (j := 0) C dX6_breaks_163 rfl ?_
            refine g_iconst (v := -1) C dX6_breaks_165 (by decide) ?_
            refine g_icmp_eq C dX6_breaks_166 (tgt := 178) (by decide) (fun hc_27 => ?_) (fun hc_27 => ?_)
            · replace h := (if_pos hc_27).symm.trans h
              refine g_aload_n (j := 1) C dX6_breaks_178 rfl rfl ?_
              obtain ⟨q_28, hq_29, h⟩ := bind_isome h
              refine g_vi (ws' := (zW cy ad shM E X_11)) (As := []) (rest := []) (res := q_28) C (c_X6_tooManyCopies l D cy ad E X_11 hq_29) gX6_breaks_X6_tooManyCopies rfl hd_X6_tooManyCopies (zW_get X_11 sM_0) rfl rfl rfl ⟨Nat.le_of_ble_eq_true rfl, Nat.le_of_ble_eq_true rfl⟩ rfl rfl (Nat.le_of_ble_eq_true rfl) ⟨Nat.zero_le _, Nat.zero_le _⟩ dX6_breaks_179 ?_
              refine g_istore (L' := [(8, .int q_28), (7, .int q_25), (0, .ref (ad 0)), (1, .int v1), (2, .int v2), (3, .int v3), (4, .int v4), (5, .int v5), (6, .int v6)]) C dX6_breaks_182 (by decide) rfl ?_
              refine g_iload (j := 0) C dX6_breaks_184 rfl ?_
              refine g_iconst (v := -1) C dX6_breaks_186 (by decide) ?_
              refine g_icmp_eq C dX6_breaks_187 (tgt := 199) (by decide) (fun hc_30 => ?_) (fun hc_30 => ?_)
              · replace h := (if_pos hc_30).symm.trans h
                refine g_aload_n (j := 2) C dX6_breaks_199 rfl rfl ?_
                obtain ⟨q_31, hq_32, h⟩ := bind_isome h
                refine g_vi (ws' := (zW cy ad shM E X_11)) (As := []) (rest := []) (res := q_31) C (c_X6_meetsAtExit l D cy ad E X_11 hq_32) gX6_breaks_X6_meetsAtExit rfl hd_X6_meetsAtExit (zW_get X_11 sM_0) rfl rfl rfl ⟨Nat.le_of_ble_eq_true rfl, Nat.le_of_ble_eq_true rfl⟩ rfl rfl (Nat.le_of_ble_eq_true rfl) ⟨Nat.zero_le _, Nat.zero_le _⟩ dX6_breaks_200 ?_
                refine g_istore (L' := [(9, .int q_31), (8, .int q_28), (7, .int q_25), (0, .ref (ad 0)), (1, .int v1), (2, .int v2), (3, .int v3), (4, .int v4), (5, .int v5), (6, .int v6)]) C dX6_breaks_203 (by decide) rfl ?_
                refine g_iload (j := 0) C dX6_breaks_205 rfl ?_
                refine g_iconst (v := -1) C dX6_breaks_207 (by decide) ?_
                refine g_icmp_eq C dX6_breaks_208 (tgt := 220) (by decide) (fun hc_33 => ?_) (fun hc_33 => ?_)
                · replace h := (if_pos hc_33).symm.trans h
                  refine g_aload_n (j := 3) C dX6_breaks_220 rfl rfl ?_
                  obtain ⟨q_34, hq_35, h⟩ := bind_isome h
                  refine g_vi (ws' := (zW cy ad shM E X_11)) (As := []) (rest := []) (res := q_34) C (c_X6_tooManyCleaned l D cy ad E X_11 hq_35) gX6_breaks_X6_tooManyCleaned rfl hd_X6_tooManyCleaned (zW_get X_11 sM_0) rfl rfl rfl ⟨Nat.le_of_ble_eq_true rfl, Nat.le_of_ble_eq_true rfl⟩ rfl rfl (Nat.le_of_ble_eq_true rfl) ⟨Nat.zero_le _, Nat.zero_le _⟩ dX6_breaks_221 ?_
                  refine g_istore (L' := [(10, .int q_34), (9, .int q_31), (8, .int q_28), (7, .int q_25), (0, .ref (ad 0)), (1, .int v1), (2, .int v2), (3, .int v3), (4, .int v4), (5, .int v5), (6, .int v6)]) C dX6_breaks_224 (by decide) rfl ?_
                  refine g_iload (j := 0) C dX6_breaks_226 rfl ?_
                  refine g_iconst (v := -1) C dX6_breaks_228 (by decide) ?_
                  refine g_icmp_eq C dX6_breaks_229 (tgt := 243) (by decide) (fun hc_36 => ?_) (fun hc_36 => ?_)
                  · replace h := (if_pos hc_36).symm.trans h
                    refine g_aload_n (j := 4) C dX6_breaks_243 rfl rfl ?_
                    refine g_iconst (v := 0) C dX6_breaks_244 (by decide) ?_
                    refine g_iconst (v := -1) C dX6_breaks_245 (by decide) ?_
                    obtain ⟨q_37, e_38, h⟩ := zlet_ex h
                    refine g_vi (ws' := (zW cy ad shM E q_37.2)) (As := [.int (0 : Int32), .int (-1 : Int32)]) (rest := []) (res := q_37.1) C ((by rw [e_38]; exact c_X6_broken l D cy ad E X_11 (0 : Int32) (-1 : Int32))) gX6_breaks_X6_broken rfl hd_X6_broken (zW_get X_11 sM_0) rfl rfl rfl ⟨Nat.le_of_ble_eq_true rfl, Nat.le_of_ble_eq_true rfl⟩ rfl rfl (Nat.le_of_ble_eq_true rfl) ⟨Nat.zero_le _, Nat.zero_le _⟩ dX6_breaks_246 ?_
                    obtain rfl := Option.some.inj h
                    exact g_iret rfl C hr rfl dX6_breaks_249
                  · replace h := (if_neg hc_36).symm.trans h
                    refine g_aload_n (j := 4) C dX6_breaks_232 rfl rfl ?_
                    refine g_bipush (v := 9) C dX6_breaks_233 (by decide) ?_
                    refine g_iload (j := 0) C dX6_breaks_235 rfl ?_
                    obtain ⟨q_39, e_40, h⟩ := zlet_ex h
                    refine g_vi (ws' := (zW cy ad shM E q_39.2)) (As := [.int (9 : Int32), .int q_34]) (rest := []) (res := q_39.1) C ((by rw [e_40]; exact c_X6_broken l D cy ad E X_11 (9 : Int32) q_34)) gX6_breaks_X6_broken rfl hd_X6_broken (zW_get X_11 sM_0) rfl rfl rfl ⟨Nat.le_of_ble_eq_true rfl, Nat.le_of_ble_eq_true rfl⟩ rfl rfl (Nat.le_of_ble_eq_true rfl) ⟨Nat.zero_le _, Nat.zero_le _⟩ dX6_breaks_237 ?_
                    refine g_goto C dX6_breaks_240 (tgt := 249) (by decide) ?_
                    obtain rfl := Option.some.inj h
                    exact g_iret rfl C hr rfl dX6_breaks_249
                · replace h := (if_neg hc_33).symm.trans h
                  refine g_aload_n (j := 3) C dX6_breaks_211 rfl rfl ?_
                  refine g_bipush (v := 8) C dX6_breaks_212 (by decide) ?_
                  refine g_iload (j := 0) C dX6_breaks_214 rfl ?_
                  obtain ⟨q_41, e_42, h⟩ := zlet_ex h
                  refine g_vi (ws' := (zW cy ad shM E q_41.2)) (As := [.int (8 : Int32), .int q_31]) (rest := []) (res := q_41.1) C ((by rw [e_42]; exact c_X6_broken l D cy ad E X_11 (8 : Int32) q_31)) gX6_breaks_X6_broken rfl hd_X6_broken (zW_get X_11 sM_0) rfl rfl rfl ⟨Nat.le_of_ble_eq_true rfl, Nat.le_of_ble_eq_true rfl⟩ rfl rfl (Nat.le_of_ble_eq_true rfl) ⟨Nat.zero_le _, Nat.zero_le _⟩ dX6_breaks_216 ?_
                  obtain rfl := Option.some.inj h
                  exact g_iret rfl C hr rfl dX6_breaks_219
              · replace h := (if_neg hc_30).symm.trans h
                refine g_aload_n (j := 2) C dX6_breaks_190 rfl rfl ?_
                refine g_bipush (v := 7) C dX6_breaks_191 (by decide) ?_
                refine g_iload (j := 0) C dX6_breaks_193 rfl ?_
                obtain ⟨q_43, e_44, h⟩ := zlet_ex h
                refine g_vi (ws' := (zW cy ad shM E q_43.2)) (As := [.int (7 : Int32), .int q_28]) (rest := []) (res := q_43.1) C ((by rw [e_44]; exact c_X6_broken l D cy ad E X_11 (7 : Int32) q_28)) gX6_breaks_X6_broken rfl hd_X6_broken (zW_get X_11 sM_0) rfl rfl rfl ⟨Nat.le_of_ble_eq_true rfl, Nat.le_of_ble_eq_true rfl⟩ rfl rfl (Nat.le_of_ble_eq_true rfl) ⟨Nat.zero_le _, Nat.zero_le _⟩ dX6_breaks_195 ?_
                obtain rfl := Option.some.inj h
                exact g_iret rfl C hr rfl dX6_breaks_198
            · replace h := (if_neg hc_27).symm.trans h
              refine g_aload_n (j := 1) C dX6_breaks_169 rfl rfl ?_
              refine g_bipush (v := 6) C dX6_breaks_170 (by decide) ?_
              refine g_iload (j := 0) C dX6_breaks_172 rfl ?_
              obtain ⟨q_45, e_46, h⟩ := zlet_ex h
              refine g_vi (ws' := (zW cy ad shM E q_45.2)) (As := [.int (6 : Int32), .int q_25]) (rest := []) (res := q_45.1) C ((by rw [e_46]; exact c_X6_broken l D cy ad E X_11 (6 : Int32) q_25)) gX6_breaks_X6_broken rfl hd_X6_broken (zW_get X_11 sM_0) rfl rfl rfl ⟨Nat.le_of_ble_eq_true rfl, Nat.le_of_ble_eq_true rfl⟩ rfl rfl (Nat.le_of_ble_eq_true rfl) ⟨Nat.zero_le _, Nat.zero_le _⟩ dX6_breaks_174 ?_
              obtain rfl := Option.some.inj h
              exact g_iret rfl C hr rfl dX6_breaks_177
          · replace h := (if_neg hc_24).symm.trans h
            refine g_aload_n (j := 0) C dX6_breaks_147 rfl rfl ?_
            refine g_iconst (v := 5) C dX6_breaks_148 (by decide) ?_
            refine g_aload_n (j := 0) C dX6_breaks_149 rfl rfl ?_
            refine g_geti (k := 19) (N := 27) C sM_0 rfl in_X6_breaks_RX6 (by decide) rfl fl_X6_breaks_139 rfl dX6_breaks_150 ?_
            obtain ⟨q_47, e_48, h⟩ := zlet_ex h
            refine g_vi (ws' := (zW cy ad shM E q_47.2)) (As := [.int (5 : Int32), .int (X_11 0 19)]) (rest := []) (res := q_47.1) C ((by rw [e_48]; exact c_X6_broken l D cy ad E X_11 (5 : Int32) (X_11 0 19))) gX6_breaks_X6_broken rfl hd_X6_broken (zW_get X_11 sM_0) rfl rfl rfl ⟨Nat.le_of_ble_eq_true rfl, Nat.le_of_ble_eq_true rfl⟩ rfl rfl (Nat.le_of_ble_eq_true rfl) ⟨Nat.zero_le _, Nat.zero_le _⟩ dX6_breaks_153 ?_
            obtain rfl := Option.some.inj h
            exact g_iret rfl C hr rfl dX6_breaks_156
        · replace h := (if_neg hc_23).symm.trans h
          refine g_aload_n (j := 0) C dX6_breaks_118 rfl rfl ?_
          refine g_iconst (v := 4) C dX6_breaks_119 (by decide) ?_
          refine g_aload_n (j := 0) C dX6_breaks_120 rfl rfl ?_
          refine g_getr (k := 1) (N := 27) C sM_0 rfl in_X6_breaks_RX6 (by decide) rfl fl_X6_breaks_9 rfl dX6_breaks_121 ?_
          refine g_bipush (v := 14) C dX6_breaks_124 (by decide) ?_
          refine g_iload (j := 4) C dX6_breaks_126 rfl ?_
          refine g_bipush (v := 60) C dX6_breaks_128 (by decide) ?_
          refine g_idiv C dX6_breaks_130 (by decide) ?_
          refine g_iadd C dX6_breaks_131 ?_
          obtain ⟨hi_49, h⟩ := ite_inone h
          refine g_iald C sM_1 hi_49 dX6_breaks_132 ?_
          obtain ⟨q_50, e_51, h⟩ := zlet_ex h
          refine g_vi (ws' := (zW cy ad shM E q_50.2)) (As := [.int (4 : Int32), .int (X_11 1 ((14 : Int32) + (v4 / (60 : Int32))).toNatClampNeg)]) (rest := []) (res := q_50.1) C ((by rw [e_51]; exact c_X6_broken l D cy ad E X_11 (4 : Int32) (X_11 1 ((14 : Int32) + (v4 / (60 : Int32))).toNatClampNeg))) gX6_breaks_X6_broken rfl hd_X6_broken (zW_get X_11 sM_0) rfl rfl rfl ⟨Nat.le_of_ble_eq_true rfl, Nat.le_of_ble_eq_true rfl⟩ rfl rfl (Nat.le_of_ble_eq_true rfl) ⟨Nat.zero_le _, Nat.zero_le _⟩ dX6_breaks_133 ?_
          obtain rfl := Option.some.inj h
          exact g_iret rfl C hr rfl dX6_breaks_136
      · replace h := (if_neg hc_19).symm.trans h
        refine g_aload_n (j := 0) C dX6_breaks_84 rfl rfl ?_
        refine g_iconst (v := 3) C dX6_breaks_85 (by decide) ?_
        refine g_aload_n (j := 0) C dX6_breaks_86 rfl rfl ?_
        refine g_iload_n (j := 2) C dX6_breaks_87 rfl rfl ?_
        refine g_iconst (v := 4) C dX6_breaks_88 (by decide) ?_
        obtain ⟨q_52, hq_53, h⟩ := bind_isome h
        refine g_vi (ws' := (zW cy ad shM E X_11)) (As := [.int v2, .int (4 : Int32)]) (rest := [.int (3 : Int32), .ref (ad 0)]) (res := q_52) C (c_X6_filmAt l D cy ad E X_11 v2 (4 : Int32) hq_53) gX6_breaks_X6_filmAt rfl hd_X6_filmAt (zW_get X_11 sM_0) rfl rfl rfl ⟨Nat.le_of_ble_eq_true rfl, Nat.le_of_ble_eq_true rfl⟩ rfl rfl (Nat.le_of_ble_eq_true rfl) ⟨Nat.zero_le _, Nat.zero_le _⟩ dX6_breaks_89 ?_
        obtain ⟨q_54, e_55, h⟩ := zlet_ex h
        refine g_vi (ws' := (zW cy ad shM E q_54.2)) (As := [.int (3 : Int32), .int q_52]) (rest := []) (res := q_54.1) C ((by rw [e_55]; exact c_X6_broken l D cy ad E X_11 (3 : Int32) q_52)) gX6_breaks_X6_broken rfl hd_X6_broken (zW_get X_11 sM_0) rfl rfl rfl ⟨Nat.le_of_ble_eq_true rfl, Nat.le_of_ble_eq_true rfl⟩ rfl rfl (Nat.le_of_ble_eq_true rfl) ⟨Nat.zero_le _, Nat.zero_le _⟩ dX6_breaks_92 ?_
        obtain rfl := Option.some.inj h
        exact g_iret rfl C hr rfl dX6_breaks_95
    · replace h := (if_neg hc_16).symm.trans h
      refine g_aload_n (j := 0) C dX6_breaks_67 rfl rfl ?_
      refine g_iconst (v := 2) C dX6_breaks_68 (by decide) ?_
      refine g_iload_n (j := 1) C dX6_breaks_69 rfl rfl ?_
      obtain ⟨q_56, e_57, h⟩ := zlet_ex h
      refine g_vi (ws' := (zW cy ad shM E q_56.2)) (As := [.int (2 : Int32), .int v1]) (rest := []) (res := q_56.1) C ((by rw [e_57]; exact c_X6_broken l D cy ad E X_11 (2 : Int32) v1)) gX6_breaks_X6_broken rfl hd_X6_broken (zW_get X_11 sM_0) rfl rfl rfl ⟨Nat.le_of_ble_eq_true rfl, Nat.le_of_ble_eq_true rfl⟩ rfl rfl (Nat.le_of_ble_eq_true rfl) ⟨Nat.zero_le _, Nat.zero_le _⟩ dX6_breaks_70 ?_
      obtain rfl := Option.some.inj h
      exact g_iret rfl C hr rfl dX6_breaks_73
  · replace h := (if_neg hc_13).symm.trans h
    refine g_aload_n (j := 0) C dX6_breaks_46 rfl rfl ?_
    refine g_iconst (v := 1) C dX6_breaks_47 (by decide) ?_
    refine g_aload_n (j := 0) C dX6_breaks_48 rfl rfl ?_
    refine g_getr (k := 1) (N := 27) C sM_0 rfl in_X6_breaks_RX6 (by decide) rfl fl_X6_breaks_9 rfl dX6_breaks_49 ?_
    refine g_iconst (v := 0) C dX6_breaks_52 (by decide) ?_
    refine g_iald C sM_1 (by decide) dX6_breaks_53 ?_
    obtain ⟨q_58, e_59, h⟩ := zlet_ex h
    refine g_vi (ws' := (zW cy ad shM E q_58.2)) (As := [.int (1 : Int32), .int (X_11 1 (0 : Int32).toNatClampNeg)]) (rest := []) (res := q_58.1) C ((by rw [e_59]; exact c_X6_broken l D cy ad E X_11 (1 : Int32) (X_11 1 (0 : Int32).toNatClampNeg))) gX6_breaks_X6_broken rfl hd_X6_broken (zW_get X_11 sM_0) rfl rfl rfl ⟨Nat.le_of_ble_eq_true rfl, Nat.le_of_ble_eq_true rfl⟩ rfl rfl (Nat.le_of_ble_eq_true rfl) ⟨Nat.zero_le _, Nat.zero_le _⟩ dX6_breaks_54 ?_
    obtain rfl := Option.some.inj h
    exact g_iret rfl C hr rfl dX6_breaks_57
theorem hd_X6_breaksNew : yX6_breaksNew.cls = RX6 ∧ yX6_breaksNew.cls ≠ "java/lang/invoke/MethodHandle" ∧ yX6_breaksNew.cls ≠ "java/lang/invoke/VarHandle" ∧ (parseMethodDescriptor yX6_breaksNew.desc).map (fun d => d.parameters.length) = some 4 := by decide +kernel
def f_X6_breaksNew (X : Nat → Nat → Int32) (v1 v2 v3 v4 : Int32) : Option (Int32 × (Nat → Nat → Int32)) := ((f_X6_bestReel X v2 v3).bind fun q_1 => ((f_X6_lengthOf X q_1).bind fun q_3 => ((f_X6_filmAt X v2 (0 : Int32)).bind fun q_5 => ((f_X6_breaks X v1 v2 v3 v4 (q_3 + q_5) (-1 : Int32)).bind fun q_7 => some (q_7.1, q_7.2)))))
set_option maxRecDepth 100000 in
set_option maxHeartbeats 4000000 in
theorem c_X6_breaksNew (l : Launch) (D : va_G) (cy : Nat → ClassId) (ad : Nat → Nat) (E : va_W) (X : Nat → Nat → Int32) (v1 v2 v3 v4 : Int32) {res : Int32 × (Nat → Nat → Int32)} (h : f_X6_breaksNew X v1 v2 v3 v4 = some res) : zMi l yX6_breaksNew wsX6_breaksNew (zrm 7) D (zTy cy) (zW cy ad shM E X) [.ref (ad 0), .int v1, .int v2, .int v3, .int v4] res.1 (zW cy ad shM E res.2) := by
  refine zMi.of (cc := cX6_breaksNew) (maxL := 5) (ret := (some .int)) (by decide) rfl (Nat.le_of_ble_eq_true rfl) ?_
  intro p e s m below meth c A C hr
  unfold f_X6_breaksNew at h
  refine zG_L (L' := [(0, .ref (ad 0)), (1, .int v1), (2, .int v2), (3, .int v3), (4, .int v4)]) rfl ?_
  refine g_aload_n (j := 0) C dX6_breaksNew_0 rfl rfl ?_
  refine g_iload_n (j := 1) C dX6_breaksNew_1 rfl rfl ?_
  refine g_iload_n (j := 2) C dX6_breaksNew_2 rfl rfl ?_
  refine g_iload_n (j := 3) C dX6_breaksNew_3 rfl rfl ?_
  refine g_iload (j := 4) C dX6_breaksNew_4 rfl ?_
  refine g_aload_n (j := 0) C dX6_breaksNew_6 rfl rfl ?_
  refine g_aload_n (j := 0) C dX6_breaksNew_7 rfl rfl ?_
  refine g_iload_n (j := 2) C dX6_breaksNew_8 rfl rfl ?_
  refine g_iload_n (j := 3) C dX6_breaksNew_9 rfl rfl ?_
  obtain ⟨q_1, hq_2, h⟩ := bind_isome h
  refine g_vi (ws' := (zW cy ad shM E X)) (As := [.int v2, .int v3]) (rest := [.ref (ad 0), .int v4, .int v3, .int v2, .int v1, .ref (ad 0)]) (res := q_1) C (c_X6_bestReel l D cy ad E X v2 v3 hq_2) gX6_breaksNew_X6_bestReel rfl hd_X6_bestReel (zW_get X sM_0) rfl rfl rfl ⟨Nat.le_of_ble_eq_true rfl, Nat.le_of_ble_eq_true rfl⟩ rfl rfl (Nat.le_of_ble_eq_true rfl) ⟨Nat.zero_le _, Nat.zero_le _⟩ dX6_breaksNew_10 ?_
  obtain ⟨q_3, hq_4, h⟩ := bind_isome h
  refine g_vi (ws' := (zW cy ad shM E X)) (As := [.int q_1]) (rest := [.int v4, .int v3, .int v2, .int v1, .ref (ad 0)]) (res := q_3) C (c_X6_lengthOf l D cy ad E X q_1 hq_4) gX6_breaksNew_X6_lengthOf rfl hd_X6_lengthOf (zW_get X sM_0) rfl rfl rfl ⟨Nat.le_of_ble_eq_true rfl, Nat.le_of_ble_eq_true rfl⟩ rfl rfl (Nat.le_of_ble_eq_true rfl) ⟨Nat.zero_le _, Nat.zero_le _⟩ dX6_breaksNew_13 ?_
  refine g_aload_n (j := 0) C dX6_breaksNew_16 rfl rfl ?_
  refine g_iload_n (j := 2) C dX6_breaksNew_17 rfl rfl ?_
  refine g_iconst (v := 0) C dX6_breaksNew_18 (by decide) ?_
  obtain ⟨q_5, hq_6, h⟩ := bind_isome h
  refine g_vi (ws' := (zW cy ad shM E X)) (As := [.int v2, .int (0 : Int32)]) (rest := [.int q_3, .int v4, .int v3, .int v2, .int v1, .ref (ad 0)]) (res := q_5) C (c_X6_filmAt l D cy ad E X v2 (0 : Int32) hq_6) gX6_breaksNew_X6_filmAt rfl hd_X6_filmAt (zW_get X sM_0) rfl rfl rfl ⟨Nat.le_of_ble_eq_true rfl, Nat.le_of_ble_eq_true rfl⟩ rfl rfl (Nat.le_of_ble_eq_true rfl) ⟨Nat.zero_le _, Nat.zero_le _⟩ dX6_breaksNew_19 ?_
  refine g_iadd C dX6_breaksNew_22 ?_
  refine g_iconst (v := -1) C dX6_breaksNew_23 (by decide) ?_
  obtain ⟨q_7, hq_8, h⟩ := bind_isome h
  refine g_vi (ws' := (zW cy ad shM E q_7.2)) (As := [.int v1, .int v2, .int v3, .int v4, .int (q_3 + q_5), .int (-1 : Int32)]) (rest := []) (res := q_7.1) C (c_X6_breaks l D cy ad E X v1 v2 v3 v4 (q_3 + q_5) (-1 : Int32) hq_8) gX6_breaksNew_X6_breaks rfl hd_X6_breaks (zW_get X sM_0) rfl rfl rfl ⟨Nat.le_of_ble_eq_true rfl, Nat.le_of_ble_eq_true rfl⟩ rfl rfl (Nat.le_of_ble_eq_true rfl) ⟨Nat.zero_le _, Nat.zero_le _⟩ dX6_breaksNew_24 ?_
  obtain rfl := Option.some.inj h
  exact g_iret rfl C hr rfl dX6_breaksNew_27
theorem hd_X6_isPlace : yX6_isPlace.cls ≠ "java/lang/invoke/MethodHandle" ∧ yX6_isPlace.cls ≠ "java/lang/invoke/VarHandle" ∧ (parseMethodDescriptor yX6_isPlace.desc).map (fun d => d.parameters.length) = some 2 := by decide +kernel
def f_X6_isPlace (v0 v1 : Int32) : Int32 := (if (f_X6_isDay v0) = 0 then (0 : Int32) else (if (f_X6_in v1 (0 : Int32) (959 : Int32)) = 0 then (0 : Int32) else (1 : Int32)))
theorem b_X6_isPlace (v0 v1 : Int32) : f_X6_isPlace v0 v1 = 0 ∨ f_X6_isPlace v0 v1 = 1 := by
  unfold f_X6_isPlace
  repeat' split
  all_goals first | exact Or.inl rfl | exact Or.inr rfl | apply b_X6_in | apply b_X6_isDay
set_option maxRecDepth 100000 in
set_option maxHeartbeats 4000000 in
theorem c_X6_isPlace (l : Launch) (D : va_G) (cy : Nat → ClassId) (ws : va_W) (v0 v1 : Int32) : zMi l yX6_isPlace wsX6_isPlace (zrm 3) D (zTy cy) ws [.int v0, .int v1] (f_X6_isPlace v0 v1) ws := by
  refine zMi.of (cc := cX6_isPlace) (maxL := 2) (ret := (some .boolean)) (by decide) rfl (Nat.le_of_ble_eq_true rfl) ?_
  intro p e s m below meth c A C hr
  generalize h : f_X6_isPlace v0 v1 = res
  unfold f_X6_isPlace at h
  refine zG_L (L' := [(0, .int v0), (1, .int v1)]) rfl ?_
  refine g_iload_n (j := 0) C dX6_isPlace_0 rfl rfl ?_
  refine g_si (ws' := ws) (As := [.int v0]) (rest := []) (res := (f_X6_isDay v0)) C (c_X6_isDay l D cy ws v0) gX6_isPlace_X6_isDay rfl hd_X6_isDay rfl rfl ⟨Nat.le_of_ble_eq_true rfl, Nat.le_of_ble_eq_true rfl⟩ rfl rfl (Nat.le_of_ble_eq_true rfl) ⟨Nat.zero_le _, Nat.zero_le _⟩ dX6_isPlace_1 ?_
  refine g_if_eq C dX6_isPlace_4 (tgt := 22) (by decide) (fun hc_1 => ?_) (fun hc_1 => ?_)
  · replace h := (if_pos hc_1).symm.trans h
    refine g_iconst (v := 0) C dX6_isPlace_22 (by decide) ?_
    subst h
    exact g_iret rfl C hr (z_nb (Or.inl rfl)) dX6_isPlace_23
  · replace h := (if_neg hc_1).symm.trans h
    refine g_iload_n (j := 1) C dX6_isPlace_7 rfl rfl ?_
    refine g_iconst (v := 0) C dX6_isPlace_8 (by decide) ?_
    refine g_sipush (v := 959) C dX6_isPlace_9 (by decide) ?_
    refine g_si (ws' := ws) (As := [.int v1, .int (0 : Int32), .int (959 : Int32)]) (rest := []) (res := (f_X6_in v1 (0 : Int32) (959 : Int32))) C (c_X6_in l D cy ws v1 (0 : Int32) (959 : Int32)) gX6_isPlace_X6_in rfl hd_X6_in rfl rfl ⟨Nat.le_of_ble_eq_true rfl, Nat.le_of_ble_eq_true rfl⟩ rfl rfl (Nat.le_of_ble_eq_true rfl) ⟨Nat.zero_le _, Nat.zero_le _⟩ dX6_isPlace_12 ?_
    refine g_if_eq C dX6_isPlace_15 (tgt := 22) (by decide) (fun hc_2 => ?_) (fun hc_2 => ?_)
    · replace h := (if_pos hc_2).symm.trans h
      refine g_iconst (v := 0) C dX6_isPlace_22 (by decide) ?_
      subst h
      exact g_iret rfl C hr (z_nb (Or.inl rfl)) dX6_isPlace_23
    · replace h := (if_neg hc_2).symm.trans h
      refine g_iconst (v := 1) C dX6_isPlace_18 (by decide) ?_
      refine g_goto C dX6_isPlace_19 (tgt := 23) (by decide) ?_
      subst h
      exact g_iret rfl C hr (z_nb (Or.inr rfl)) dX6_isPlace_23
