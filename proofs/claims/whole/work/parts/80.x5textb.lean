/-! THE CLASS'S METHODS WITH TEXTS, 2 (laid by wip/whole/mkx5.py) -/
def zlo (v : Int32) : Int32 := zLo.getD v.toNatClampNeg 0
def zhi (v : Int32) : Int32 := zHi.getD v.toNatClampNeg 0
def f_X5_set (X : Nat → Nat → Int32) (v1 v2 : Int32) : Nat × Int32 × (Nat → Nat → Int32) := if v1 < 0 then (3, 0, X) else if nI 6 ≤ v1 then (3, 0, X) else if f_X5_isWithin v2 (zlo v1) (zhi v1) = 0 then (1, 0, X) else (0, f_X3_exchangeSetting (f_X0_keep X) v1 v2)
set_option maxRecDepth 100000 in
set_option maxHeartbeats 8000000 in
theorem c_X5_set (l : Launch) (hlt : l.stackTraces = false) (D : va_G) (cy : Nat → ClassId) (ad : Nat → Nat) (E : va_W) (X : Nat → Nat → Int32) (v1 v2 : Int32) : zMy l yX5_set cX5_set 3 (some .int) (zrmy 6 1 6) D (zTy cy) zE5 (zW cy ad shC E X) [.ref (ad 0), .int v1, .int v2] 1 6 (fun r w => (f_X5_set X v1 v2).1 = 0 ∧ r = (f_X5_set X v1 v2).2.1 ∧ w = zW cy ad shC E (f_X5_set X v1 v2).2.2) (fun c w => c = (f_X5_set X v1 v2).1 ∧ w = zW cy ad shC E (f_X5_set X v1 v2).2.2) := by
  refine zMy.of (by decide) (Nat.le_of_ble_eq_true rfl) ?_
  intro p e s m below meth c A C hr hE hout
  obtain ⟨tl, hl1, hl2⟩ := hE.2.2.2.2.1
  obtain ⟨th, hh1, hh2⟩ := hE.2.2.2.2.2
  refine zG_L (L' := [(0, .ref (ad 0)), (1, .int v1), (2, .int v2)]) rfl ?_
  refine g_iload_n (j := 1) C dX5_set_0 rfl rfl ?_
  refine g_if_lt C dX5_set_1 (tgt := 20) (by decide) (fun h1 => ?_) (fun h1 => ?_)
  · have hf9 : f_X5_set X v1 v2 = (3, 0, X) := if_pos h1
    exact y_throw 3 ⟨by rw [hf9], by rw [hf9]⟩ C hE.2.1 (hE.2.1.1 _ (List.mem_of_getElem? (i := 6) rfl)) hlt hout (by decide) ⟨by decide +kernel, by decide +kernel⟩ zcl_119 zini_3 zat_123 zgw_123 dX5_set_20 dX5_set_23 dX5_set_24 dX5_set_26 dX5_set_29 ⟨Nat.le_of_ble_eq_true rfl, Nat.le_of_ble_eq_true rfl⟩ (by show 0 + 1 ≤ 1; omega) (by show 0 + 6 ≤ 6; omega) (by show 0 + 1 ≤ 1; omega) (by show 0 + 6 ≤ 6; omega)
  refine g_iload_n (j := 1) C dX5_set_4 rfl rfl ?_
  refine p_gets (v := .ref tl) C hl1 zfs_RX5_135 dX5_set_5 ?_
  refine p_tlen (N := 6) C hl2 dX5_set_8 ?_
  refine g_icmp_ge C dX5_set_9 (tgt := 20) (by decide) (fun h2 => ?_) (fun h2 => ?_)
  · have hf9 : f_X5_set X v1 v2 = (3, 0, X) := (if_neg h1).trans (if_pos h2)
    exact y_throw 3 ⟨by rw [hf9], by rw [hf9]⟩ C hE.2.1 (hE.2.1.1 _ (List.mem_of_getElem? (i := 6) rfl)) hlt hout (by decide) ⟨by decide +kernel, by decide +kernel⟩ zcl_119 zini_3 zat_123 zgw_123 dX5_set_20 dX5_set_23 dX5_set_24 dX5_set_26 dX5_set_29 ⟨Nat.le_of_ble_eq_true rfl, Nat.le_of_ble_eq_true rfl⟩ (by show 0 + 1 ≤ 1; omega) (by show 0 + 6 ≤ 6; omega) (by show 0 + 1 ≤ 1; omega) (by show 0 + 6 ≤ 6; omega)
  refine g_iload_n (j := 1) C dX5_set_12 rfl rfl ?_
  refine p_gets (v := .ref th) C hh1 zfs_RX5_139 dX5_set_13 ?_
  refine p_tlen (N := 6) C hh2 dX5_set_16 ?_
  refine g_icmp_lt C dX5_set_17 (tgt := 30) (by decide) (fun h3 => ?_) (fun h3 => ?_)
  · have hin : vp_in v1 6 := by
      rcases pk_ix v1 (show 6 < 2 ^ 31 by decide) with h | h | ⟨i, hi, rfl⟩
      · exact absurd h h1
      · exact absurd h h2
      · exact vp_in_nI hi (by decide)
    refine g_iload_n (j := 2) C dX5_set_30 rfl rfl ?_
    refine p_gets (v := .ref tl) C hl1 zfs_RX5_135 dX5_set_31 ?_
    refine g_iload_n (j := 1) C dX5_set_34 rfl rfl ?_
    refine p_ti (v := .int (zlo v1)) C hl2 hin rfl dX5_set_35 ?_
    refine p_gets (v := .ref th) C hh1 zfs_RX5_139 dX5_set_36 ?_
    refine g_iload_n (j := 1) C dX5_set_39 rfl rfl ?_
    refine p_ti (v := .int (zhi v1)) C hh2 hin rfl dX5_set_40 ?_
    refine g_si (ws' := (zW cy ad shC E X)) (As := [.int v2, .int (zlo v1), .int (zhi v1)]) (rest := []) (res := (f_X5_isWithin v2 (zlo v1) (zhi v1))) C (c_X5_isWithin l D cy (zW cy ad shC E X) v2 (zlo v1) (zhi v1)) zml_RX5_64 zcs_X5_isWithin rfl rfl ⟨Nat.le_of_ble_eq_true rfl, Nat.le_of_ble_eq_true rfl⟩ rfl rfl (Nat.le_of_ble_eq_true rfl) ⟨Nat.zero_le _, Nat.zero_le _⟩ dX5_set_41 ?_
    refine g_if_ne C dX5_set_44 (tgt := 57) (by decide) (fun h4 => ?_) (fun h4 => ?_)
    · have hf9 : f_X5_set X v1 v2 = (0, f_X3_exchangeSetting (f_X0_keep X) v1 v2) := (if_neg h1).trans ((if_neg h2).trans (if_neg h4))
      refine g_aload_n (j := 0) C dX5_set_57 rfl rfl ?_
      refine g_getr (k := 2) (N := 11) C sC_0 rfl zin_RX5 (by decide) rfl zfl_RX5_22 rfl dX5_set_58 ?_
      refine g_aload_n (j := 0) C dX5_set_61 rfl rfl ?_
      refine g_getr (k := 0) (N := 11) C sC_0 rfl zin_RX5 (by decide) rfl zfl_RX5_10 rfl dX5_set_62 ?_
      refine g_vv (ws' := (zW cy ad shC E (f_X0_keep X))) (As := [.ref (ad 1)]) (rest := []) C (c_X0_keep l D cy ad E X) zml_RX5_90 zcv_X0_keep (zW_get _ sC_27) rfl rfl rfl ⟨Nat.le_of_ble_eq_true rfl, Nat.le_of_ble_eq_true rfl⟩ rfl rfl (Nat.le_of_ble_eq_true rfl) ⟨Nat.zero_le _, Nat.zero_le _⟩ dX5_set_65 ?_
      refine g_aload_n (j := 0) C dX5_set_68 rfl rfl ?_
      refine g_getr (k := 0) (N := 11) C sC_0 rfl zin_RX5 (by decide) rfl zfl_RX5_10 rfl dX5_set_69 ?_
      refine g_iload_n (j := 1) C dX5_set_72 rfl rfl ?_
      refine g_iload_n (j := 2) C dX5_set_73 rfl rfl ?_
      refine g_vi (ws' := (zW cy ad shC E (f_X3_exchangeSetting (f_X0_keep X) v1 v2).2)) (As := [.int v1, .int v2]) (rest := []) (res := (f_X3_exchangeSetting (f_X0_keep X) v1 v2).1) C (c_X3_exchangeSetting l D cy ad E (f_X0_keep X) v1 v2) zml_RX5_146 zcv_X3_exchangeSetting (zW_get _ sC_1) rfl rfl rfl ⟨Nat.le_of_ble_eq_true rfl, Nat.le_of_ble_eq_true rfl⟩ rfl rfl (Nat.le_of_ble_eq_true rfl) ⟨Nat.zero_le _, Nat.zero_le _⟩ dX5_set_74 ?_
      exact y_xret C hr rfl ⟨by rw [hf9], by rw [hf9], by rw [hf9]⟩ (by show 0 + 0 + 0 + 0 ≤ 1; omega) (by show 0 + 0 + 0 + 0 ≤ 6; omega) dX5_set_77
    · have hf9 : f_X5_set X v1 v2 = (1, 0, X) := (if_neg h1).trans ((if_neg h2).trans (if_pos h4))
      exact y_throw 1 ⟨by rw [hf9], by rw [hf9]⟩ C hE.2.1 (hE.2.1.1 _ (List.mem_of_getElem? (i := 7) rfl)) hlt hout (by decide) ⟨by decide +kernel, by decide +kernel⟩ zcl_68 zini_1 zat_72 zgw_72 dX5_set_47 dX5_set_50 dX5_set_51 dX5_set_53 dX5_set_56 ⟨Nat.le_of_ble_eq_true rfl, Nat.le_of_ble_eq_true rfl⟩ (by show 0 + 0 + 1 ≤ 1; omega) (by show 0 + 0 + 6 ≤ 6; omega) (by show 0 + 0 + 1 ≤ 1; omega) (by show 0 + 0 + 6 ≤ 6; omega)
  · exact absurd h2 (fun h9 => h3 (Int32.not_le.mp h9))
def f_X5_perform_L59 : Nat → (Nat → Nat → Int32) → Int32 → Option (Nat × Int32 × (Nat → Nat → Int32))
  | 0, _, _ => none
  | fu + 1, X, v2 => if f_X4_size X 150 40 ≤ v2 then some (0, f_X4_size (f_X0_countSpare X) 150 40, f_X0_countSpare X) else (f_X5_isCarriedOut X v2).bind fun q => if q.1 = 0 then some (5, 0, f_X0_bringSpareBack q.2) else f_X5_perform_L59 fu q.2 (v2 + 1)
def f_X5_perform (kT : Nat) (fT : Nat → Int32) (X : Nat → Nat → Int32) : Option (Nat × Int32 × (Nat → Nat → Int32)) :=
  (f_X1_isText kT fT X).bind fun q => if q.1 = 0 then some (1, 0, zU q.2 0 10 (q.2 149 1)) else f_X5_perform_L59 zFuel (f_X0_keepSpare q.2) (nI 0)
set_option maxRecDepth 100000 in
set_option maxHeartbeats 8000000 in
theorem w_X5_perform_L59 {p : Program} {e : Env} {s : State} {m : MethodId} {args : Array Value} {below : List Frame} {meth : Method} {c : Code} {A : Nat → Prop} (l : Launch) (hlt : l.stackTraces = false) (D : va_G) (cy : Nat → ClassId) (ad : Nat → Nat) (E : va_W) (v1 : Int32) (v n k : Nat) (z : Int32) (f : Nat → Int32) (z2 : Int32) {res : Nat × Int32 × (Nat → Nat → Int32)} (C : zC p s m args meth c cX5_perform 3 RX5 D (zTy cy) A) (hE : zE5 A s s.heap) (hout : ∀ x ∈ c.exceptionTable.toList, False) (hr : meth.sig.returnType = (some .int)) : ∀ (fu : Nat) (X : Nat → Nat → Int32) (v2 : Int32) (h : f_X5_perform_L59 fu X v2 = some res), zG p l e (zrmy 12 1 6) s m args below meth c 3 D A 0 0 (zQy below args s (fun r w => res.1 = 0 ∧ r = res.2.1 ∧ ∃ z2, w = zW cy ad shC (tB cy (ad 152) v n z2 0 f ++ E) res.2.2) (fun c w => c = res.1 ∧ ∃ z2, w = zW cy ad shC (tB cy (ad 152) v n z2 0 f ++ E) res.2.2) D (zTy cy) A 1 6) (zW cy ad shC (tB cy (ad 152) v n z2 0 f ++ E) X) 59 [(2, .int v2), (1, .int v1), (0, .ref (ad 0))] [] := by
  intro fu
  induction fu with
  | zero => intro X v2 h; simp [f_X5_perform_L59] at h
  | succ fu ih =>
    intro X v2 h
    rw [f_X5_perform_L59] at h
    refine g_iload_n (j := 0) C dX5_perform_59 rfl rfl ?_
    refine g_aload_n (j := 2) C dX5_perform_60 rfl rfl ?_
    refine g_getr (k := 4) (N := 11) C sC_0 rfl zin_RX5 (by decide) rfl zfl_RX5_36 rfl dX5_perform_61 ?_
    refine g_getr (k := 0) (N := 2) C sC_149 rfl zin_RX1 (by decide) rfl zfl_RX5_392 rfl dX5_perform_64 ?_
    refine g_vi (ws' := (zW cy ad shC (tB cy (ad 152) v n z2 0 f ++ E) X)) (As := []) (rest := [.int v2]) (res := (f_X4_size X 150 40)) C (c_X4_size l D cy ad (tB cy (ad 152) v n z2 0 f ++ E) X 150 40 sC_150 sC_151 (by decide)) zml_RX5_79 zcv_X4_size (zW_get _ sC_150) rfl rfl rfl ⟨Nat.le_of_ble_eq_true rfl, Nat.le_of_ble_eq_true rfl⟩ rfl rfl (Nat.le_of_ble_eq_true rfl) ⟨Nat.zero_le _, Nat.zero_le _⟩ dX5_perform_67 ?_
    refine g_icmp_ge C dX5_perform_70 (tgt := 109) (by decide) (fun h1 => ?_) (fun h1 => ?_)
    · replace h := (if_pos h1).symm.trans h
      obtain rfl := Option.some.inj h
      refine g_aload_n (j := 2) C dX5_perform_109 rfl rfl ?_
      refine g_getr (k := 2) (N := 11) C sC_0 rfl zin_RX5 (by decide) rfl zfl_RX5_22 rfl dX5_perform_110 ?_
      refine g_vv (ws' := (zW cy ad shC (tB cy (ad 152) v n z2 0 f ++ E) (f_X0_countSpare X))) (As := []) (rest := []) C (c_X0_countSpare l D cy ad (tB cy (ad 152) v n z2 0 f ++ E) X) zml_RX5_403 zcv_X0_countSpare (zW_get _ sC_27) rfl rfl rfl ⟨Nat.le_of_ble_eq_true rfl, Nat.le_of_ble_eq_true rfl⟩ rfl rfl (Nat.le_of_ble_eq_true rfl) ⟨Nat.zero_le _, Nat.zero_le _⟩ dX5_perform_113 ?_
      refine g_aload_n (j := 2) C dX5_perform_116 rfl rfl ?_
      refine g_getr (k := 4) (N := 11) C sC_0 rfl zin_RX5 (by decide) rfl zfl_RX5_36 rfl dX5_perform_117 ?_
      refine g_getr (k := 0) (N := 2) C sC_149 rfl zin_RX1 (by decide) rfl zfl_RX5_392 rfl dX5_perform_120 ?_
      refine g_vi (ws' := (zW cy ad shC (tB cy (ad 152) v n z2 0 f ++ E) (f_X0_countSpare X))) (As := []) (rest := []) (res := (f_X4_size (f_X0_countSpare X) 150 40)) C (c_X4_size l D cy ad (tB cy (ad 152) v n z2 0 f ++ E) (f_X0_countSpare X) 150 40 sC_150 sC_151 (by decide)) zml_RX5_79 zcv_X4_size (zW_get _ sC_150) rfl rfl rfl ⟨Nat.le_of_ble_eq_true rfl, Nat.le_of_ble_eq_true rfl⟩ rfl rfl (Nat.le_of_ble_eq_true rfl) ⟨Nat.zero_le _, Nat.zero_le _⟩ dX5_perform_123 ?_
      exact y_xret C hr rfl ⟨rfl, rfl, z2, rfl⟩ (Nat.zero_le _) (Nat.zero_le _) dX5_perform_126
    · replace h := (if_neg h1).symm.trans h
      obtain ⟨q, hq, h⟩ := bind_isome h
      refine g_aload_n (j := 2) C dX5_perform_73 rfl rfl ?_
      refine g_iload_n (j := 0) C dX5_perform_74 rfl rfl ?_
      refine g_vi (ws' := (zW cy ad shC (tB cy (ad 152) v n z2 0 f ++ E) q.2)) (As := [.int v2]) (rest := []) (res := q.1) C (c_X5_isCarriedOut l D cy ad (tB cy (ad 152) v n z2 0 f ++ E) X v2 hq) zml_RX5_395 zcv_X5_isCarriedOut (zW_get _ sC_0) rfl rfl rfl ⟨Nat.le_of_ble_eq_true rfl, Nat.le_of_ble_eq_true rfl⟩ rfl rfl (Nat.le_of_ble_eq_true rfl) ⟨Nat.zero_le _, Nat.zero_le _⟩ dX5_perform_75 ?_
      refine g_if_ne C dX5_perform_78 (tgt := 103) (by decide) (fun h2 => ?_) (fun h2 => ?_)
      · replace h := (if_neg h2).symm.trans h
        refine g_iinc (k := 0) (L' := [(2, .int (v2 + 1)), (1, .int v1), (0, .ref (ad 0))]) C dX5_perform_103 rfl (z_iinc (by decide)) (by decide) rfl ?_
        refine g_goto C dX5_perform_106 (tgt := 59) (by decide) ?_
        exact ih q.2 (v2 + 1) h
      · replace h := (if_pos h2).symm.trans h
        obtain rfl := Option.some.inj h
        refine g_aload_n (j := 2) C dX5_perform_81 rfl rfl ?_
        refine g_getr (k := 2) (N := 11) C sC_0 rfl zin_RX5 (by decide) rfl zfl_RX5_22 rfl dX5_perform_82 ?_
        refine g_aload_n (j := 2) C dX5_perform_85 rfl rfl ?_
        refine g_getr (k := 0) (N := 11) C sC_0 rfl zin_RX5 (by decide) rfl zfl_RX5_10 rfl dX5_perform_86 ?_
        refine g_vv (ws' := (zW cy ad shC (tB cy (ad 152) v n z2 0 f ++ E) (f_X0_bringSpareBack q.2))) (As := [.ref (ad 1)]) (rest := []) C (c_X0_bringSpareBack l D cy ad (tB cy (ad 152) v n z2 0 f ++ E) q.2) zml_RX5_398 zcv_X0_bringSpareBack (zW_get _ sC_27) rfl rfl rfl ⟨Nat.le_of_ble_eq_true rfl, Nat.le_of_ble_eq_true rfl⟩ rfl rfl (Nat.le_of_ble_eq_true rfl) ⟨Nat.zero_le _, Nat.zero_le _⟩ dX5_perform_89 ?_
        exact y_throwW 5 ⟨rfl, z2, rfl⟩ C hE.2.1 (hE.2.2.1 _ (List.mem_of_getElem? (i := 5) rfl)) hlt hout (by decide) ⟨by decide +kernel, by decide +kernel⟩ zcl_202 zini_5 zat_206 zgw_206 dX5_perform_92 dX5_perform_95 dX5_perform_96 dX5_perform_99 dX5_perform_102 ⟨Nat.le_of_ble_eq_true rfl, Nat.le_of_ble_eq_true rfl⟩ (by show 0 + 1 ≤ 1; omega) (by show 0 + 6 ≤ 6; omega) (by show 0 + 1 ≤ 1; omega) (by show 0 + 6 ≤ 6; omega)
set_option maxRecDepth 100000 in
set_option maxHeartbeats 8000000 in
theorem c_X5_perform (l : Launch) (hlt : l.stackTraces = false) (D : va_G) (cy : Nat → ClassId) (ad : Nat → Nat) (E : va_W) (X : Nat → Nat → Int32) (v n k : Nat) (z : Int32) (f : Nat → Int32) (hkn : k ≤ n) (hn : n < 2 ^ 28) {res : Nat × Int32 × (Nat → Nat → Int32)} (h : f_X5_perform k f X = some res) : zMy l yX5_perform cX5_perform 3 (some .int) (zrmy 12 1 6) D (zTy cy) zE5 (zW cy ad shC (tB cy (ad 152) v n z k f ++ E) X) [.ref (ad 0)] 1 6 (fun r w => res.1 = 0 ∧ r = res.2.1 ∧ ∃ z2, w = zW cy ad shC (tB cy (ad 152) v n z2 0 f ++ E) res.2.2) (fun c w => c = res.1 ∧ ∃ z2, w = zW cy ad shC (tB cy (ad 152) v n z2 0 f ++ E) res.2.2) := by
  refine zMy.of (by decide) (Nat.le_of_ble_eq_true rfl) ?_
  intro p e s m below meth c A C hr hE hout
  refine zG_L (L' := [(0, .ref (ad 0))]) rfl ?_
  obtain ⟨q, hq, h⟩ := bind_isome h
  refine g_aload_n (j := 0) C dX5_perform_0 rfl rfl ?_
  refine g_getr (k := 4) (N := 11) C sC_0 rfl zin_RX5 (by decide) rfl zfl_RX5_36 rfl dX5_perform_1 ?_
  refine g_aload_n (j := 0) C dX5_perform_4 rfl rfl ?_
  refine g_getr (k := 5) (N := 11) C sC_0 rfl zin_RX5 (by decide) rfl zfl_RX5_43 rfl dX5_perform_5 ?_
  refine t_Vi (As := [.ref (ad 152)]) (rest := []) zEr_ge hE.1 C (c_X1_isText l D cy v n z k f hkn (by omega) ad E X hq) zml_RX5_380 zcv_X1_isText (zRec.of C rfl (zW_get X sC_149)) rfl rfl ⟨Nat.le_of_ble_eq_true rfl, Nat.le_of_ble_eq_true rfl⟩ rfl rfl (Nat.le_of_ble_eq_true rfl) ⟨Nat.zero_le _, Nat.zero_le _⟩ dX5_perform_8 ?_
  intro r w h9
  obtain ⟨h9a, rfl⟩ := h9
  subst r
  refine g_istore_n (L' := [(1, .int q.1), (0, .ref (ad 0))]) C dX5_perform_11 rfl (by decide) rfl ?_
  refine g_aload_n (j := 1) C dX5_perform_12 rfl rfl ?_
  refine g_getr (k := 5) (N := 11) C sC_0 rfl zin_RX5 (by decide) rfl zfl_RX5_43 rfl dX5_perform_13 ?_
  refine g_iconst (v := (nI 0)) C dX5_perform_16 (by decide) ?_
  refine zG.less (ws' := (tB cy (ad 152) v n z k f ++ (z_rend cy ad q.2 0 shC ++ E))) (l' := (zW cy ad shC (tB cy (ad 152) v n z k f ++ E) q.2)) (zpT _ _ _) (List.Sublist.refl _) ?_
  refine t_Vv (As := [.int (nI 0)]) (rest := []) zEn_ge hE.1.1 C (c_setLen l D cy (z_rend cy ad q.2 0 shC ++ E) (ad 152) v n k z f (by omega) (by omega)) zml_RX5_343 zcv_J4_setLength_d00df (zRec.of C (ci := 1) (q0 := 0) rfl rfl) rfl rfl ⟨Nat.le_of_ble_eq_true rfl, Nat.le_of_ble_eq_true rfl⟩ rfl rfl (Nat.le_of_ble_eq_true rfl) ⟨Nat.zero_le _, Nat.zero_le _⟩ dX5_perform_17 ?_
  intro w h9
  obtain ⟨z2, rfl⟩ := h9
  refine zG.less (ws' := (zW cy ad shC (tB cy (ad 152) v n z2 0 f ++ E) q.2)) (l' := (tB cy (ad 152) v n z2 0 f ++ (z_rend cy ad q.2 0 shC ++ E))) (zpT _ _ _).symm (List.Sublist.refl _) ?_
  refine g_iload_n (j := 0) C dX5_perform_20 rfl rfl ?_
  refine g_if_ne C dX5_perform_21 (tgt := 46) (by decide) (fun h1 => ?_) (fun h1 => ?_)
  · replace h := (if_neg h1).symm.trans h
    refine g_aload_n (j := 1) C dX5_perform_46 rfl rfl ?_
    refine g_getr (k := 2) (N := 11) C sC_0 rfl zin_RX5 (by decide) rfl zfl_RX5_22 rfl dX5_perform_47 ?_
    refine g_aload_n (j := 1) C dX5_perform_50 rfl rfl ?_
    refine g_getr (k := 0) (N := 11) C sC_0 rfl zin_RX5 (by decide) rfl zfl_RX5_10 rfl dX5_perform_51 ?_
    refine g_vv (ws' := (zW cy ad shC (tB cy (ad 152) v n z2 0 f ++ E) (f_X0_keepSpare q.2))) (As := [.ref (ad 1)]) (rest := []) C (c_X0_keepSpare l D cy ad (tB cy (ad 152) v n z2 0 f ++ E) q.2) zml_RX5_389 zcv_X0_keepSpare (zW_get _ sC_27) rfl rfl rfl ⟨Nat.le_of_ble_eq_true rfl, Nat.le_of_ble_eq_true rfl⟩ rfl rfl (Nat.le_of_ble_eq_true rfl) ⟨Nat.zero_le _, Nat.zero_le _⟩ dX5_perform_54 ?_
    refine g_iconst (v := (nI 0)) C dX5_perform_57 (by decide) ?_
    refine g_istore_n (L' := [(2, .int (nI 0)), (1, .int q.1), (0, .ref (ad 0))]) C dX5_perform_58 rfl (by decide) rfl ?_
    exact w_X5_perform_L59 l hlt D cy ad E q.1 v n k z f z2 C hE hout hr zFuel _ (nI 0) h
  · replace h := (if_pos h1).symm.trans h
    obtain rfl := Option.some.inj h
    refine g_aload_n (j := 1) C dX5_perform_24 rfl rfl ?_
    refine g_aload_n (j := 1) C dX5_perform_25 rfl rfl ?_
    refine g_getr (k := 4) (N := 11) C sC_0 rfl zin_RX5 (by decide) rfl zfl_RX5_36 rfl dX5_perform_26 ?_
    refine g_geti (k := 1) (N := 2) C sC_149 rfl zin_RX1 (by decide) rfl zfl_RX5_384 rfl dX5_perform_29 ?_
    refine g_puti (k := 10) (N := 11) (ty := .int) C sC_0 rfl zin_RX5 (by decide) rfl zfl_RX5_61 rfl tyX5_ok nmX5 rfl (by decide +kernel) rfl rfl dX5_perform_32 ?_
    exact y_throwW 1 ⟨rfl, z2, rfl⟩ C hE.2.1 (hE.2.2.1 _ (List.mem_of_getElem? (i := 4) rfl)) hlt hout (by decide) ⟨by decide +kernel, by decide +kernel⟩ zcl_68 zini_1 zat_72 zgw_72 dX5_perform_35 dX5_perform_38 dX5_perform_39 dX5_perform_42 dX5_perform_45 ⟨Nat.le_of_ble_eq_true rfl, Nat.le_of_ble_eq_true rfl⟩ (by show 0 + 1 ≤ 1; omega) (by show 0 + 6 ≤ 6; omega) (by show 0 + 1 ≤ 1; omega) (by show 0 + 6 ≤ 6; omega)
