/-! THE REFERENCE'S METHODS WITH TEXTS (laid by wip/whole/mkx6.py) -/
abbrev zT280 : List Int32 := [nI 112, nI 108, nI 97, nI 110]
abbrev zT282 : List Int32 := [nI 115, nI 101, nI 108, nI 108]
abbrev zT284 : List Int32 := [nI 100, nI 114, nI 111, nI 112]
abbrev zT286 : List Int32 := [nI 102, nI 97, nI 105, nI 108]
abbrev zT288 : List Int32 := [nI 100, nI 97, nI 121, nI 115]
def zK6 (ix : Nat) (text : String) (l : List Int32) : zEV := fun A U H => ∃ a, vk_R RX6 ix text a U ∧ zS a l A U H
theorem zK6_ge (ix : Nat) (text : String) (l : List Int32) : zGE (zK6 ix text l) :=
  ⟨fun A s U H hW ⟨a, h1, h2⟩ => ⟨a, vk_R.warm hW h1, (zS_ge a l).1 A s U H hW h2⟩, fun A U H H1 ⟨a, h1, h2⟩ hq => ⟨a, h1, (zS_ge a l).2.1 A U H H1 h2 hq⟩, fun A B U H ⟨a, h1, h2⟩ hq => ⟨a, h1, (zS_ge a l).2.2.1 A B U H h2 hq⟩, fun A u U H hv ⟨a, h1, h2⟩ => ⟨a, vk_R.same hv h1, (zS_ge a l).2.2.2 A u U H hv h2⟩⟩
/-- what the reference's methods with texts rest on -/
def zEm : zEV := fun A U H => zEn A U H ∧ (zK6 255 "closed: " zT351 A U H ∧ zK6 264 "none" zT357 A U H ∧ zK6 270 " f" zT449 A U H ∧ zK6 272 ", " zT359 A U H) ∧ zK6 280 "plan" zT280 A U H ∧ zK6 282 "sell" zT282 A U H ∧ zK6 284 "drop" zT284 A U H ∧ zK6 286 "fail" zT286 A U H ∧ zK6 288 "days" zT288 A U H
theorem zEm_ge : zGE zEm := zEn_ge.and (((zK6_ge _ _ _).and ((zK6_ge _ _ _).and ((zK6_ge _ _ _).and (zK6_ge _ _ _)))).and ((zK6_ge _ _ _).and ((zK6_ge _ _ _).and ((zK6_ge _ _ _).and ((zK6_ge _ _ _).and (zK6_ge _ _ _))))))
def f_X6_writesWord_L2 (ls : List Int32) : Nat → (Nat → Nat → Int32) → Int32 → Option (Nat → Nat → Int32)
  | 0, _, _ => none
  | fu + 1, X, v2 => if nI ls.length ≤ v2 then some X else if v2 < 0 then none else (f_X6_writesLetter X (zChr ls v2)).bind fun X2 => f_X6_writesWord_L2 ls fu X2 (v2 + 1)
def f_X6_writesWord (ls : List Int32) (X : Nat → Nat → Int32) : Option (Nat → Nat → Int32) := f_X6_writesWord_L2 ls zFuel X (nI 0)
set_option maxRecDepth 100000 in
set_option maxHeartbeats 4000000 in
theorem w_X6_writesWord_L2 {p : Program} {e : Env} {s : State} {m : MethodId} {args : Array Value} {below : List Frame} {meth : Method} {c : Code} {A : Nat → Prop} (l : Launch) (D : va_G) (cy : Nat → ClassId) (ad : Nat → Nat) (E : va_W) (a0 : Nat) (ls : List Int32) (hN : ls.length < 2 ^ 31) {res : Nat → Nat → Int32} (C : zC p s m args meth c cX6_writesWord 3 RX6 D (zTy cy) A) (hE : zES a0 ls A s s.heap) (hr : meth.sig.returnType = none) : ∀ (fu : Nat) (X : Nat → Nat → Int32) (v2 : Int32) (h : f_X6_writesWord_L2 ls fu X v2 = some res), zG p l e (zrm 5) s m args below meth c 3 D A 0 0 (MQ below (tV D (zTy cy) (fun w => w = zW cy ad shM E res) A) args s 0 0 A) (zW cy ad shM E X) 2 [(2, .int v2), (0, .ref (ad 0)), (1, .ref a0)] [] := by
  intro fu
  induction fu with
  | zero => intro X v2 h; simp [f_X6_writesWord_L2] at h
  | succ fu ih =>
    intro X v2 h
    rw [f_X6_writesWord_L2] at h
    refine g_iload_n (j := 0) C dX6_writesWord_2 rfl rfl ?_
    refine g_aload_n (j := 2) C dX6_writesWord_3 rfl rfl ?_
    refine t_Vi (As := []) (rest := [.int v2]) (zES_ge a0 ls) hE C (c_strLen l D cy (zW cy ad shM E X) a0 ls) zml_RX6_242 zcv_J0_length_8abf5 (zrec_S hE.2) rfl rfl ⟨Nat.le_of_ble_eq_true rfl, Nat.le_of_ble_eq_true rfl⟩ rfl rfl (Nat.le_of_ble_eq_true rfl) ⟨Nat.zero_le _, Nat.zero_le _⟩ dX6_writesWord_4 ?_
    intro r w h9
    obtain ⟨rfl, rfl⟩ := h9
    refine g_icmp_ge C dX6_writesWord_7 (tgt := 25) (by decide) (fun h1 => ?_) (fun h1 => ?_)
    · replace h := (if_pos h1).symm.trans h
      obtain rfl := Option.some.inj h
      exact t_vret C hr rfl (Nat.le_refl _) (Nat.le_refl _) dX6_writesWord_25
    · replace h := (if_neg h1).symm.trans h
      obtain ⟨h2, h⟩ := ite_inone h
      obtain ⟨X2, hq, h⟩ := bind_isome h
      refine g_aload_n (j := 1) C dX6_writesWord_10 rfl rfl ?_
      refine g_aload_n (j := 2) C dX6_writesWord_11 rfl rfl ?_
      refine g_iload_n (j := 0) C dX6_writesWord_12 rfl rfl ?_
      refine t_Vi (As := [.int v2]) (rest := [.ref (ad 0)]) (zES_ge a0 ls) hE C (c_strAtV l D cy (zW cy ad shM E X) a0 ls v2 h2 h1 hN) zml_RX6_247 zcv_J0_charAt_5068e (zrec_S hE.2) rfl rfl ⟨Nat.le_of_ble_eq_true rfl, Nat.le_of_ble_eq_true rfl⟩ rfl rfl (Nat.le_of_ble_eq_true rfl) ⟨Nat.zero_le _, Nat.zero_le _⟩ dX6_writesWord_13 ?_
      intro r w h9
      obtain ⟨rfl, rfl⟩ := h9
      refine g_vv (ws' := (zW cy ad shM E X2)) (As := [.int (zChr ls v2)]) (rest := []) C (c_X6_writesLetter l D cy ad E X (zChr ls v2) hq) zml_RX6_251 zcv_X6_writesLetter (zW_get X sM_0) rfl rfl rfl ⟨Nat.le_of_ble_eq_true rfl, Nat.le_of_ble_eq_true rfl⟩ rfl rfl (Nat.le_of_ble_eq_true rfl) ⟨Nat.zero_le _, Nat.zero_le _⟩ dX6_writesWord_16 ?_
      refine g_iinc (k := 0) (L' := [(2, .int (v2 + 1)), (0, .ref (ad 0)), (1, .ref a0)]) C dX6_writesWord_19 rfl (z_iinc (by decide)) (by decide) rfl ?_
      refine g_goto C dX6_writesWord_22 (tgt := 2) (by decide) ?_
      exact ih X2 (v2 + 1) h
set_option maxRecDepth 100000 in
set_option maxHeartbeats 4000000 in
theorem c_X6_writesWord (l : Launch) (D : va_G) (cy : Nat → ClassId) (ad : Nat → Nat) (E : va_W) (X : Nat → Nat → Int32) (a0 : Nat) (ls : List Int32) (hN : ls.length < 2 ^ 31) {res : Nat → Nat → Int32} (h : f_X6_writesWord ls X = some res) : zMt l yX6_writesWord cX6_writesWord 3 none (zrm 5) D (zTy cy) (zES a0 ls) (zW cy ad shM E X) [.ref (ad 0), .ref a0] 0 0 (tV D (zTy cy) (fun w => w = zW cy ad shM E res)) := by
  refine zMt.of (by decide) (Nat.le_of_ble_eq_true rfl) ?_
  intro p e s m below meth c A C hr hE
  refine zG_L (L' := [(0, .ref (ad 0)), (1, .ref a0)]) rfl ?_
  refine g_iconst (v := (nI 0)) C dX6_writesWord_0 (by decide) ?_
  refine g_istore_n (L' := [(2, .int (nI 0)), (0, .ref (ad 0)), (1, .ref a0)]) C dX6_writesWord_1 rfl (by decide) rfl ?_
  exact w_X6_writesWord_L2 l D cy ad E a0 ls hN C hE hr zFuel X (nI 0) h
def f_X6_letterOf (v0 v1 : Int32) : Option Int32 := (if v0 = 0 then (if v1 < 0 then none else (if nI zT280.length ≤ v1 then none else some (zChr zT280 v1))) else (if v0 = (nI 1) then (if v1 < 0 then none else (if nI zT282.length ≤ v1 then none else some (zChr zT282 v1))) else (if v0 = (nI 2) then (if v1 < 0 then none else (if nI zT284.length ≤ v1 then none else some (zChr zT284 v1))) else (if v0 = (nI 3) then (if v1 < 0 then none else (if nI zT286.length ≤ v1 then none else some (zChr zT286 v1))) else (if v1 < 0 then none else (if nI zT288.length ≤ v1 then none else some (zChr zT288 v1)))))))
set_option maxRecDepth 100000 in
set_option maxHeartbeats 4000000 in
theorem c_X6_letterOf (l : Launch) (D : va_G) (cy : Nat → ClassId) (ad : Nat → Nat) (E : va_W) (X : Nat → Nat → Int32) (v0 v1 : Int32) {res : Int32} (h : f_X6_letterOf v0 v1 = some res) : zMt l yX6_letterOf cX6_letterOf 3 (some .int) (zrm 6) D (zTy cy) zEm (zW cy ad shM E X) [.int v0, .int v1] 0 0 (tI D (zTy cy) (fun r w => r = res ∧ w = (zW cy ad shM E X))) := by
  refine zMt.of (by decide) (Nat.le_of_ble_eq_true rfl) ?_
  intro p e s m below meth c A C hr hE
  unfold f_X6_letterOf at h
  refine zG_L (L' := [(0, .int v0), (1, .int v1)]) rfl ?_
  refine g_iload_n (j := 0) C dX6_letterOf_0 rfl rfl ?_
  refine g_if_ne C dX6_letterOf_1 (tgt := 10) (by decide) (fun hc_1 => ?_) (fun hc_1 => ?_)
  · replace h := (if_neg hc_1).symm.trans h
    refine g_iload_n (j := 0) C dX6_letterOf_10 rfl rfl ?_
    refine g_iconst (v := (nI 1)) C dX6_letterOf_11 (by decide) ?_
    refine g_icmp_ne C dX6_letterOf_12 (tgt := 21) (by decide) (fun hc_2 => ?_) (fun hc_2 => ?_)
    · replace h := (if_neg hc_2).symm.trans h
      refine g_iload_n (j := 0) C dX6_letterOf_21 rfl rfl ?_
      refine g_iconst (v := (nI 2)) C dX6_letterOf_22 (by decide) ?_
      refine g_icmp_ne C dX6_letterOf_23 (tgt := 32) (by decide) (fun hc_3 => ?_) (fun hc_3 => ?_)
      · replace h := (if_neg hc_3).symm.trans h
        refine g_iload_n (j := 0) C dX6_letterOf_32 rfl rfl ?_
        refine g_iconst (v := (nI 3)) C dX6_letterOf_33 (by decide) ?_
        refine g_icmp_ne C dX6_letterOf_34 (tgt := 43) (by decide) (fun hc_4 => ?_) (fun hc_4 => ?_)
        · replace h := (if_neg hc_4).symm.trans h
          obtain ⟨aW_5, hW_6, hS_7⟩ := hE.2.2.2.2.2.2
          refine p_ldcSW C hW_6 dX6_letterOf_43 ?_
          refine g_astore_n (L' := [(2, .ref aW_5), (0, .int v0), (1, .int v1)]) C dX6_letterOf_46 rfl (by decide) rfl ?_
          refine g_aload_n (j := 0) C dX6_letterOf_47 rfl rfl ?_
          refine g_iload_n (j := 2) C dX6_letterOf_48 rfl rfl ?_
          obtain ⟨hi_8, h⟩ := ite_inone h
          obtain ⟨hi_9, h⟩ := ite_inone h
          refine t_Vi (As := [.int v1]) (rest := []) (zES_ge _ _) ⟨hE.1, hS_7⟩ C (c_strAtV l D cy (zW cy ad shM E X) aW_5 zT288 v1 hi_8 hi_9 (by decide)) zml_RX6_247 zcv_J0_charAt_5068e (zrec_S hS_7) rfl rfl ⟨Nat.le_of_ble_eq_true rfl, Nat.le_of_ble_eq_true rfl⟩ rfl rfl (Nat.le_of_ble_eq_true rfl) ⟨Nat.zero_le _, Nat.zero_le _⟩ dX6_letterOf_49 ?_
          intro r w h9
          obtain ⟨rfl, rfl⟩ := h9
          obtain rfl := Option.some.inj h
          exact t_iret C hr rfl ⟨rfl, rfl⟩ (Nat.le_refl _) (Nat.le_refl _) dX6_letterOf_52
        · replace h := (if_pos hc_4).symm.trans h
          obtain ⟨aW_10, hW_11, hS_12⟩ := hE.2.2.2.2.2.1
          refine p_ldcSW C hW_11 dX6_letterOf_37 ?_
          refine g_goto C dX6_letterOf_40 (tgt := 46) (by decide) ?_
          refine g_astore_n (L' := [(2, .ref aW_10), (0, .int v0), (1, .int v1)]) C dX6_letterOf_46 rfl (by decide) rfl ?_
          refine g_aload_n (j := 0) C dX6_letterOf_47 rfl rfl ?_
          refine g_iload_n (j := 2) C dX6_letterOf_48 rfl rfl ?_
          obtain ⟨hi_13, h⟩ := ite_inone h
          obtain ⟨hi_14, h⟩ := ite_inone h
          refine t_Vi (As := [.int v1]) (rest := []) (zES_ge _ _) ⟨hE.1, hS_12⟩ C (c_strAtV l D cy (zW cy ad shM E X) aW_10 zT286 v1 hi_13 hi_14 (by decide)) zml_RX6_247 zcv_J0_charAt_5068e (zrec_S hS_12) rfl rfl ⟨Nat.le_of_ble_eq_true rfl, Nat.le_of_ble_eq_true rfl⟩ rfl rfl (Nat.le_of_ble_eq_true rfl) ⟨Nat.zero_le _, Nat.zero_le _⟩ dX6_letterOf_49 ?_
          intro r w h9
          obtain ⟨rfl, rfl⟩ := h9
          obtain rfl := Option.some.inj h
          exact t_iret C hr rfl ⟨rfl, rfl⟩ (Nat.le_refl _) (Nat.le_refl _) dX6_letterOf_52
      · replace h := (if_pos hc_3).symm.trans h
        obtain ⟨aW_15, hW_16, hS_17⟩ := hE.2.2.2.2.1
        refine p_ldcSW C hW_16 dX6_letterOf_26 ?_
        refine g_goto C dX6_letterOf_29 (tgt := 46) (by decide) ?_
        refine g_astore_n (L' := [(2, .ref aW_15), (0, .int v0), (1, .int v1)]) C dX6_letterOf_46 rfl (by decide) rfl ?_
        refine g_aload_n (j := 0) C dX6_letterOf_47 rfl rfl ?_
        refine g_iload_n (j := 2) C dX6_letterOf_48 rfl rfl ?_
        obtain ⟨hi_18, h⟩ := ite_inone h
        obtain ⟨hi_19, h⟩ := ite_inone h
        refine t_Vi (As := [.int v1]) (rest := []) (zES_ge _ _) ⟨hE.1, hS_17⟩ C (c_strAtV l D cy (zW cy ad shM E X) aW_15 zT284 v1 hi_18 hi_19 (by decide)) zml_RX6_247 zcv_J0_charAt_5068e (zrec_S hS_17) rfl rfl ⟨Nat.le_of_ble_eq_true rfl, Nat.le_of_ble_eq_true rfl⟩ rfl rfl (Nat.le_of_ble_eq_true rfl) ⟨Nat.zero_le _, Nat.zero_le _⟩ dX6_letterOf_49 ?_
        intro r w h9
        obtain ⟨rfl, rfl⟩ := h9
        obtain rfl := Option.some.inj h
        exact t_iret C hr rfl ⟨rfl, rfl⟩ (Nat.le_refl _) (Nat.le_refl _) dX6_letterOf_52
    · replace h := (if_pos hc_2).symm.trans h
      obtain ⟨aW_20, hW_21, hS_22⟩ := hE.2.2.2.1
      refine p_ldcSW C hW_21 dX6_letterOf_15 ?_
      refine g_goto C dX6_letterOf_18 (tgt := 46) (by decide) ?_
      refine g_astore_n (L' := [(2, .ref aW_20), (0, .int v0), (1, .int v1)]) C dX6_letterOf_46 rfl (by decide) rfl ?_
      refine g_aload_n (j := 0) C dX6_letterOf_47 rfl rfl ?_
      refine g_iload_n (j := 2) C dX6_letterOf_48 rfl rfl ?_
      obtain ⟨hi_23, h⟩ := ite_inone h
      obtain ⟨hi_24, h⟩ := ite_inone h
      refine t_Vi (As := [.int v1]) (rest := []) (zES_ge _ _) ⟨hE.1, hS_22⟩ C (c_strAtV l D cy (zW cy ad shM E X) aW_20 zT282 v1 hi_23 hi_24 (by decide)) zml_RX6_247 zcv_J0_charAt_5068e (zrec_S hS_22) rfl rfl ⟨Nat.le_of_ble_eq_true rfl, Nat.le_of_ble_eq_true rfl⟩ rfl rfl (Nat.le_of_ble_eq_true rfl) ⟨Nat.zero_le _, Nat.zero_le _⟩ dX6_letterOf_49 ?_
      intro r w h9
      obtain ⟨rfl, rfl⟩ := h9
      obtain rfl := Option.some.inj h
      exact t_iret C hr rfl ⟨rfl, rfl⟩ (Nat.le_refl _) (Nat.le_refl _) dX6_letterOf_52
  · replace h := (if_pos hc_1).symm.trans h
    obtain ⟨aW_25, hW_26, hS_27⟩ := hE.2.2.1
    refine p_ldcSW C hW_26 dX6_letterOf_4 ?_
    refine g_goto C dX6_letterOf_7 (tgt := 46) (by decide) ?_
    refine g_astore_n (L' := [(2, .ref aW_25), (0, .int v0), (1, .int v1)]) C dX6_letterOf_46 rfl (by decide) rfl ?_
    refine g_aload_n (j := 0) C dX6_letterOf_47 rfl rfl ?_
    refine g_iload_n (j := 2) C dX6_letterOf_48 rfl rfl ?_
    obtain ⟨hi_28, h⟩ := ite_inone h
    obtain ⟨hi_29, h⟩ := ite_inone h
    refine t_Vi (As := [.int v1]) (rest := []) (zES_ge _ _) ⟨hE.1, hS_27⟩ C (c_strAtV l D cy (zW cy ad shM E X) aW_25 zT280 v1 hi_28 hi_29 (by decide)) zml_RX6_247 zcv_J0_charAt_5068e (zrec_S hS_27) rfl rfl ⟨Nat.le_of_ble_eq_true rfl, Nat.le_of_ble_eq_true rfl⟩ rfl rfl (Nat.le_of_ble_eq_true rfl) ⟨Nat.zero_le _, Nat.zero_le _⟩ dX6_letterOf_49 ?_
    intro r w h9
    obtain ⟨rfl, rfl⟩ := h9
    obtain rfl := Option.some.inj h
    exact t_iret C hr rfl ⟨rfl, rfl⟩ (Nat.le_refl _) (Nat.le_refl _) dX6_letterOf_52
def f_X6_readsWord_L15 (k : Int32 → Option (Int32 × (Nat → Nat → Int32))) (X : Nat → Nat → Int32) (v1 : Int32) (v2 : Int32) : Nat → Int32 → Int32 → Option (Int32 × (Nat → Nat → Int32))
  | 0, _, _ => none
  | fu + 1, v3, v4 => (if (nI 5) ≤ v4 then k v3 else (if ((v1 >>> (v4 &&& 31)) &&& (nI 1)) = (nI 1) then ((f_X6_letterOf v4 v2).bind fun q_2004 => ((f_X6_here X).bind fun q_2006 => (if q_2004 = q_2006 then f_X6_readsWord_L15 k X v1 v2 fu (v3 ||| ((nI 1) <<< (v4 &&& 31))) (v4 + 1) else f_X6_readsWord_L15 k X v1 v2 fu (v3 ||| (nI 0)) (v4 + 1)))) else f_X6_readsWord_L15 k X v1 v2 fu (v3 ||| (nI 0)) (v4 + 1)))
set_option maxRecDepth 100000 in
set_option maxHeartbeats 4000000 in
theorem w_X6_readsWord_L15 {p : Program} {e : Env} {s : State} {m : MethodId} {args : Array Value} {below : List Frame} {meth : Method} {c : Code} {A : Nat → Prop} (l : Launch) (D : va_G) (cy : Nat → ClassId) (ad : Nat → Nat) (E : va_W) (k : Int32 → Option (Int32 × (Nat → Nat → Int32))) (X : Nat → Nat → Int32) (v1 : Int32) (v2 : Int32) {res : Int32 × (Nat → Nat → Int32)} (C : zC p s m args meth c cX6_readsWord 5 RX6 D (zTy cy) A) (hE : zEm A s s.heap) (hr : meth.sig.returnType = (some .int)) : ∀ (fu : Nat) (v3 v4 : Int32) (h : f_X6_readsWord_L15 k X v1 v2 fu v3 v4 = some res) (hk : ∀ (v3 : Int32), k v3 = some res → zG p l e (zrm 7) s m args below meth c 5 D A 0 0 (MQ below (tI D (zTy cy) (fun r w => r = res.1 ∧ w = (zW cy ad shM E res.2)) A) args s 0 0 A) (zW cy ad shM E X) 61 [(0, .ref (ad 0)), (2, .int v2), (3, .int v3)] []), zG p l e (zrm 7) s m args below meth c 5 D A 0 0 (MQ below (tI D (zTy cy) (fun r w => r = res.1 ∧ w = (zW cy ad shM E res.2)) A) args s 0 0 A) (zW cy ad shM E X) 15 [(0, .ref (ad 0)), (1, .int v1), (2, .int v2), (3, .int v3), (4, .int v4)] [] := by
  intro fu
  induction fu with
  | zero => intro v3 v4 h hk; simp [f_X6_readsWord_L15] at h
  | succ fu ih =>
    intro v3 v4 h hk
    rw [f_X6_readsWord_L15] at h
    refine g_iload (j := 4) C dX6_readsWord_15 rfl ?_
    refine g_iconst (v := (nI 5)) C dX6_readsWord_17 (by decide) ?_
    refine g_icmp_ge C dX6_readsWord_18 (tgt := 61) (by decide) (fun hc_2002 => ?_) (fun hc_2002 => ?_)
    · replace h := (if_pos hc_2002).symm.trans h
      refine zG_sub (L' := [(0, .ref (ad 0)), (2, .int v2), (3, .int v3)]) [0, 2, 3] rfl ?_
      exact hk v3 h
    · replace h := (if_neg hc_2002).symm.trans h
      refine g_iload_n (j := 3) C dX6_readsWord_21 rfl rfl ?_
      refine g_iload_n (j := 1) C dX6_readsWord_22 rfl rfl ?_
      refine g_iload (j := 4) C dX6_readsWord_23 rfl ?_
      refine g_ishr C dX6_readsWord_25 ?_
      refine g_iconst (v := (nI 1)) C dX6_readsWord_26 (by decide) ?_
      refine g_iand C dX6_readsWord_27 ?_
      refine g_iconst (v := (nI 1)) C dX6_readsWord_28 (by decide) ?_
      refine g_icmp_ne C dX6_readsWord_29 (tgt := 52) (by decide) (fun hc_2003 => ?_) (fun hc_2003 => ?_)
      · replace h := (if_neg hc_2003).symm.trans h
        refine g_iconst (v := (nI 0)) C dX6_readsWord_52 (by decide) ?_
        refine g_ior C dX6_readsWord_53 ?_
        refine g_istore_n (L' := [(3, .int (v3 ||| (nI 0))), (0, .ref (ad 0)), (1, .int v1), (2, .int v2), (4, .int v4)]) C dX6_readsWord_54 rfl (by decide) rfl ?_
        refine g_iinc (k := 4) (L' := [(4, .int (v4 + 1)), (3, .int (v3 ||| (nI 0))), (0, .ref (ad 0)), (1, .int v1), (2, .int v2)]) C dX6_readsWord_55 rfl (z_iinc (by decide)) (by decide) rfl ?_
        refine g_goto C dX6_readsWord_58 (tgt := 15) (by decide) ?_
        refine zG_sub (L' := [(0, .ref (ad 0)), (1, .int v1), (2, .int v2), (3, .int (v3 ||| (nI 0))), (4, .int (v4 + 1))]) [2, 3, 4, 1, 0] rfl ?_
        exact ih (v3 ||| (nI 0)) (v4 + 1) h hk
      · replace h := (if_pos hc_2003).symm.trans h
        refine g_iload (j := 4) C dX6_readsWord_32 rfl ?_
        refine g_iload_n (j := 2) C dX6_readsWord_34 rfl rfl ?_
        obtain ⟨q_2004, hq_2005, h⟩ := bind_isome h
        refine t_Si (As := [.int v4, .int v2]) (rest := [.int v3]) zEm_ge hE C (c_X6_letterOf l D cy ad E X v4 v2 hq_2005) zml_RX6_290 zcs_X6_letterOf rfl rfl ⟨Nat.le_of_ble_eq_true rfl, Nat.le_of_ble_eq_true rfl⟩ rfl rfl (Nat.le_of_ble_eq_true rfl) ⟨Nat.zero_le _, Nat.zero_le _⟩ dX6_readsWord_35 ?_
        intro r w h9
        obtain ⟨h9a, rfl⟩ := h9
        subst r
        refine g_aload_n (j := 0) C dX6_readsWord_38 rfl rfl ?_
        obtain ⟨q_2006, hq_2007, h⟩ := bind_isome h
        refine g_vi (ws' := (zW cy ad shM E X)) (As := []) (rest := [.int q_2004, .int v3]) (res := q_2006) C (c_X6_here l D cy ad E X hq_2007) zml_RX6_293 zcv_X6_here (zW_get X sM_0) rfl rfl rfl ⟨Nat.le_of_ble_eq_true rfl, Nat.le_of_ble_eq_true rfl⟩ rfl rfl (Nat.le_of_ble_eq_true rfl) ⟨Nat.zero_le _, Nat.zero_le _⟩ dX6_readsWord_39 ?_
        refine g_icmp_ne C dX6_readsWord_42 (tgt := 52) (by decide) (fun hc_2008 => ?_) (fun hc_2008 => ?_)
        · replace h := (if_neg hc_2008).symm.trans h
          refine g_iconst (v := (nI 0)) C dX6_readsWord_52 (by decide) ?_
          refine g_ior C dX6_readsWord_53 ?_
          refine g_istore_n (L' := [(3, .int (v3 ||| (nI 0))), (0, .ref (ad 0)), (1, .int v1), (2, .int v2), (4, .int v4)]) C dX6_readsWord_54 rfl (by decide) rfl ?_
          refine g_iinc (k := 4) (L' := [(4, .int (v4 + 1)), (3, .int (v3 ||| (nI 0))), (0, .ref (ad 0)), (1, .int v1), (2, .int v2)]) C dX6_readsWord_55 rfl (z_iinc (by decide)) (by decide) rfl ?_
          refine g_goto C dX6_readsWord_58 (tgt := 15) (by decide) ?_
          refine zG_sub (L' := [(0, .ref (ad 0)), (1, .int v1), (2, .int v2), (3, .int (v3 ||| (nI 0))), (4, .int (v4 + 1))]) [2, 3, 4, 1, 0] rfl ?_
          exact ih (v3 ||| (nI 0)) (v4 + 1) h hk
        · replace h := (if_pos hc_2008).symm.trans h
          refine g_iconst (v := (nI 1)) C dX6_readsWord_45 (by decide) ?_
          refine g_iload (j := 4) C dX6_readsWord_46 rfl ?_
          refine g_ishl C dX6_readsWord_48 ?_
          refine g_goto C dX6_readsWord_49 (tgt := 53) (by decide) ?_
          refine g_ior C dX6_readsWord_53 ?_
          refine g_istore_n (L' := [(3, .int (v3 ||| ((nI 1) <<< (v4 &&& 31)))), (0, .ref (ad 0)), (1, .int v1), (2, .int v2), (4, .int v4)]) C dX6_readsWord_54 rfl (by decide) rfl ?_
          refine g_iinc (k := 4) (L' := [(4, .int (v4 + 1)), (3, .int (v3 ||| ((nI 1) <<< (v4 &&& 31)))), (0, .ref (ad 0)), (1, .int v1), (2, .int v2)]) C dX6_readsWord_55 rfl (z_iinc (by decide)) (by decide) rfl ?_
          refine g_goto C dX6_readsWord_58 (tgt := 15) (by decide) ?_
          refine zG_sub (L' := [(0, .ref (ad 0)), (1, .int v1), (2, .int v2), (3, .int (v3 ||| ((nI 1) <<< (v4 &&& 31)))), (4, .int (v4 + 1))]) [2, 3, 4, 1, 0] rfl ?_
          exact ih (v3 ||| ((nI 1) <<< (v4 &&& 31))) (v4 + 1) h hk
def f_X6_readsWord_L5 (k : (Nat → Nat → Int32) → Int32 → Option (Int32 × (Nat → Nat → Int32))) : Nat → (Nat → Nat → Int32) → Int32 → Int32 → Option (Int32 × (Nat → Nat → Int32))
  | 0, _, _, _ => none
  | fu + 1, X, v1, v2 => (if (nI 4) ≤ v2 then k X v1 else f_X6_readsWord_L15 (fun v3_2009 => (if v3_2009 = 0 then some ((-1 : Int32), X) else (zlet (zU X 0 24 ((X 0 24) + (nI 1))) fun X_2011 => f_X6_readsWord_L5 k fu X_2011 v3_2009 (v2 + 1)))) X v1 v2 zFuel (nI 0) (nI 0))
set_option maxRecDepth 100000 in
set_option maxHeartbeats 4000000 in
theorem w_X6_readsWord_L5 {p : Program} {e : Env} {s : State} {m : MethodId} {args : Array Value} {below : List Frame} {meth : Method} {c : Code} {A : Nat → Prop} (l : Launch) (D : va_G) (cy : Nat → ClassId) (ad : Nat → Nat) (E : va_W) (k : (Nat → Nat → Int32) → Int32 → Option (Int32 × (Nat → Nat → Int32))) {res : Int32 × (Nat → Nat → Int32)} (C : zC p s m args meth c cX6_readsWord 5 RX6 D (zTy cy) A) (hE : zEm A s s.heap) (hr : meth.sig.returnType = (some .int)) : ∀ (fu : Nat) (X : Nat → Nat → Int32) (v1 v2 : Int32) (h : f_X6_readsWord_L5 k fu X v1 v2 = some res) (hk : ∀ (X : Nat → Nat → Int32) (v1 : Int32), k X v1 = some res → zG p l e (zrm 7) s m args below meth c 5 D A 0 0 (MQ below (tI D (zTy cy) (fun r w => r = res.1 ∧ w = (zW cy ad shM E res.2)) A) args s 0 0 A) (zW cy ad shM E X) 85 [(1, .int v1)] []), zG p l e (zrm 7) s m args below meth c 5 D A 0 0 (MQ below (tI D (zTy cy) (fun r w => r = res.1 ∧ w = (zW cy ad shM E res.2)) A) args s 0 0 A) (zW cy ad shM E X) 5 [(0, .ref (ad 0)), (1, .int v1), (2, .int v2)] [] := by
  intro fu
  induction fu with
  | zero => intro X v1 v2 h hk; simp [f_X6_readsWord_L5] at h
  | succ fu ih =>
    intro X v1 v2 h hk
    rw [f_X6_readsWord_L5] at h
    refine g_iload_n (j := 2) C dX6_readsWord_5 rfl rfl ?_
    refine g_iconst (v := (nI 4)) C dX6_readsWord_6 (by decide) ?_
    refine g_icmp_ge C dX6_readsWord_7 (tgt := 85) (by decide) (fun hc_1001 => ?_) (fun hc_1001 => ?_)
    · replace h := (if_pos hc_1001).symm.trans h
      refine zG_sub (L' := [(1, .int v1)]) [1] rfl ?_
      exact hk X v1 h
    · replace h := (if_neg hc_1001).symm.trans h
      refine g_iconst (v := (nI 0)) C dX6_readsWord_10 (by decide) ?_
      refine g_istore_n (L' := [(3, .int (nI 0)), (0, .ref (ad 0)), (1, .int v1), (2, .int v2)]) C dX6_readsWord_11 rfl (by decide) rfl ?_
      refine g_iconst (v := (nI 0)) C dX6_readsWord_12 (by decide) ?_
      refine g_istore (L' := [(4, .int (nI 0)), (3, .int (nI 0)), (0, .ref (ad 0)), (1, .int v1), (2, .int v2)]) C dX6_readsWord_13 (by decide) rfl ?_
      refine zG_sub (L' := [(0, .ref (ad 0)), (1, .int v1), (2, .int v2), (3, .int (nI 0)), (4, .int (nI 0))]) [2, 3, 4, 1, 0] rfl ?_
      refine w_X6_readsWord_L15 l D cy ad E _ X v1 v2 C hE hr zFuel (nI 0) (nI 0) h ?_
      intro v3_2009 h
      refine g_iload_n (j := 2) C dX6_readsWord_61 rfl rfl ?_
      refine g_if_ne C dX6_readsWord_62 (tgt := 67) (by decide) (fun hc_2010 => ?_) (fun hc_2010 => ?_)
      · replace h := (if_neg hc_2010).symm.trans h
        refine g_iload_n (j := 2) C dX6_readsWord_67 rfl rfl ?_
        refine g_istore_n (L' := [(1, .int v3_2009), (0, .ref (ad 0)), (2, .int v2), (3, .int v3_2009)]) C dX6_readsWord_68 rfl (by decide) rfl ?_
        refine g_aload_n (j := 1) C dX6_readsWord_69 rfl rfl ?_
        refine g_dup C dX6_readsWord_70 rfl ?_
        refine g_geti (k := 24) (N := 27) C sM_0 rfl zin_RX6 (by decide) rfl zfl_RX6_277 rfl dX6_readsWord_71 ?_
        refine g_iconst (v := (nI 1)) C dX6_readsWord_74 (by decide) ?_
        refine g_iadd C dX6_readsWord_75 ?_
        refine g_puti (k := 24) (N := 27) (ty := .int) C sM_0 rfl zin_RX6 (by decide) rfl zfl_RX6_277 rfl tyX6_ok nmX6 rfl (by decide +kernel) rfl rfl dX6_readsWord_76 ?_
        obtain ⟨X_2011, e_2012, h⟩ := zlet_ex h
        rw [← e_2012]
        refine g_iinc (k := 2) (L' := [(2, .int (v2 + 1)), (1, .int v3_2009), (0, .ref (ad 0)), (3, .int v3_2009)]) C dX6_readsWord_79 rfl (z_iinc (by decide)) (by decide) rfl ?_
        refine g_goto C dX6_readsWord_82 (tgt := 5) (by decide) ?_
        refine zG_sub (L' := [(0, .ref (ad 0)), (1, .int v3_2009), (2, .int (v2 + 1))]) [2, 1, 0] rfl ?_
        exact ih X_2011 v3_2009 (v2 + 1) h hk
      · replace h := (if_pos hc_2010).symm.trans h
        refine g_iconst (v := (-1 : Int32)) C dX6_readsWord_65 (by decide) ?_
        obtain rfl := Option.some.inj h
        exact t_iret C hr rfl ⟨rfl, rfl⟩ (Nat.le_refl _) (Nat.le_refl _) dX6_readsWord_66
def f_X6_readsWord (X : Nat → Nat → Int32) : Option (Int32 × (Nat → Nat → Int32)) := f_X6_readsWord_L5 (fun X_2014 v1_2013 => (if v1_2013 = (nI 1) then some ((nI 0), X_2014) else (if v1_2013 = (nI 2) then some ((nI 1), X_2014) else (if v1_2013 = (nI 4) then some ((nI 2), X_2014) else (if v1_2013 = (nI 8) then some ((nI 3), X_2014) else some ((nI 4), X_2014)))))) zFuel X (nI 31) (nI 0)
set_option maxRecDepth 100000 in
set_option maxHeartbeats 4000000 in
theorem c_X6_readsWord (l : Launch) (D : va_G) (cy : Nat → ClassId) (ad : Nat → Nat) (E : va_W) (X : Nat → Nat → Int32) {res : Int32 × (Nat → Nat → Int32)} (h : f_X6_readsWord X = some res) : zMt l yX6_readsWord cX6_readsWord 5 (some .int) (zrm 7) D (zTy cy) zEm (zW cy ad shM E X) [.ref (ad 0)] 0 0 (tI D (zTy cy) (fun r w => r = res.1 ∧ w = (zW cy ad shM E res.2))) := by
  refine zMt.of (by decide) (Nat.le_of_ble_eq_true rfl) ?_
  intro p e s m below meth c A C hr hE
  unfold f_X6_readsWord at h
  refine zG_L (L' := [(0, .ref (ad 0))]) rfl ?_
  refine g_bipush (v := (nI 31)) C dX6_readsWord_0 (by decide) ?_
  refine g_istore_n (L' := [(1, .int (nI 31)), (0, .ref (ad 0))]) C dX6_readsWord_2 rfl (by decide) rfl ?_
  refine g_iconst (v := (nI 0)) C dX6_readsWord_3 (by decide) ?_
  refine g_istore_n (L' := [(2, .int (nI 0)), (1, .int (nI 31)), (0, .ref (ad 0))]) C dX6_readsWord_4 rfl (by decide) rfl ?_
  refine zG_sub (L' := [(0, .ref (ad 0)), (1, .int (nI 31)), (2, .int (nI 0))]) [2, 1, 0] rfl ?_
  refine w_X6_readsWord_L5 l D cy ad E _ C hE hr zFuel X (nI 31) (nI 0) h ?_
  intro X_2014 v1_2013 h
  refine g_iload_n (j := 0) C dX6_readsWord_85 rfl rfl ?_
  refine g_iconst (v := (nI 1)) C dX6_readsWord_86 (by decide) ?_
  refine g_icmp_ne C dX6_readsWord_87 (tgt := 94) (by decide) (fun hc_2015 => ?_) (fun hc_2015 => ?_)
  · replace h := (if_neg hc_2015).symm.trans h
    refine g_iload_n (j := 0) C dX6_readsWord_94 rfl rfl ?_
    refine g_iconst (v := (nI 2)) C dX6_readsWord_95 (by decide) ?_
    refine g_icmp_ne C dX6_readsWord_96 (tgt := 103) (by decide) (fun hc_2016 => ?_) (fun hc_2016 => ?_)
    · replace h := (if_neg hc_2016).symm.trans h
      refine g_iload_n (j := 0) C dX6_readsWord_103 rfl rfl ?_
      refine g_iconst (v := (nI 4)) C dX6_readsWord_104 (by decide) ?_
      refine g_icmp_ne C dX6_readsWord_105 (tgt := 112) (by decide) (fun hc_2017 => ?_) (fun hc_2017 => ?_)
      · replace h := (if_neg hc_2017).symm.trans h
        refine g_iload_n (j := 0) C dX6_readsWord_112 rfl rfl ?_
        refine g_bipush (v := (nI 8)) C dX6_readsWord_113 (by decide) ?_
        refine g_icmp_ne C dX6_readsWord_115 (tgt := 122) (by decide) (fun hc_2018 => ?_) (fun hc_2018 => ?_)
        · replace h := (if_neg hc_2018).symm.trans h
          refine g_iconst (v := (nI 4)) C dX6_readsWord_122 (by decide) ?_
          obtain rfl := Option.some.inj h
          exact t_iret C hr rfl ⟨rfl, rfl⟩ (Nat.le_refl _) (Nat.le_refl _) dX6_readsWord_123
        · replace h := (if_pos hc_2018).symm.trans h
          refine g_iconst (v := (nI 3)) C dX6_readsWord_118 (by decide) ?_
          refine g_goto C dX6_readsWord_119 (tgt := 123) (by decide) ?_
          obtain rfl := Option.some.inj h
          exact t_iret C hr rfl ⟨rfl, rfl⟩ (Nat.le_refl _) (Nat.le_refl _) dX6_readsWord_123
      · replace h := (if_pos hc_2017).symm.trans h
        refine g_iconst (v := (nI 2)) C dX6_readsWord_108 (by decide) ?_
        refine g_goto C dX6_readsWord_109 (tgt := 123) (by decide) ?_
        obtain rfl := Option.some.inj h
        exact t_iret C hr rfl ⟨rfl, rfl⟩ (Nat.le_refl _) (Nat.le_refl _) dX6_readsWord_123
    · replace h := (if_pos hc_2016).symm.trans h
      refine g_iconst (v := (nI 1)) C dX6_readsWord_99 (by decide) ?_
      refine g_goto C dX6_readsWord_100 (tgt := 123) (by decide) ?_
      obtain rfl := Option.some.inj h
      exact t_iret C hr rfl ⟨rfl, rfl⟩ (Nat.le_refl _) (Nat.le_refl _) dX6_readsWord_123
  · replace h := (if_pos hc_2015).symm.trans h
    refine g_iconst (v := (nI 0)) C dX6_readsWord_90 (by decide) ?_
    refine g_goto C dX6_readsWord_91 (tgt := 123) (by decide) ?_
    obtain rfl := Option.some.inj h
    exact t_iret C hr rfl ⟨rfl, rfl⟩ (Nat.le_refl _) (Nat.le_refl _) dX6_readsWord_123
def f_X6_readsCommand_L28 (v1 : Int32) (v2 : Int32) : Nat → (Nat → Nat → Int32) → Int32 → Option (Nat → Nat → Int32)
  | 0, _, _ => none
  | fu + 1, X, v3 => (if (X 0 25) = 0 then (if (f_X6_numbersOf v2) ≤ v3 then some X else ((f_X6_here X).bind fun q_1011 => (if q_1011 = (nI 32) then (zlet (zU X 0 25 (nI 0)) fun X_1014 => (if (X_1014 0 25) = 0 then (zlet (zU X_1014 0 24 ((X_1014 0 24) + (nI 1))) fun X_1017 => (if (X_1017 0 25) = 0 then ((f_X6_readsNumber X_1017).bind fun q_1020 => (if ((v1 + (nI 1)) + v3) < 0 ∨ 300 ≤ ((v1 + (nI 1)) + v3).toNatClampNeg then none else (zlet (zU q_1020.2 7 ((v1 + (nI 1)) + v3).toNatClampNeg q_1020.1) fun X_1023 => f_X6_readsCommand_L28 v1 v2 fu X_1023 (v3 + 1)))) else (if ((v1 + (nI 1)) + v3) < 0 ∨ 300 ≤ ((v1 + (nI 1)) + v3).toNatClampNeg then none else (zlet (zU X_1017 7 ((v1 + (nI 1)) + v3).toNatClampNeg (nI 0)) fun X_1026 => f_X6_readsCommand_L28 v1 v2 fu X_1026 (v3 + 1))))) else (zlet (zU X_1014 0 24 ((X_1014 0 24) + (nI 0))) fun X_1028 => (if (X_1028 0 25) = 0 then ((f_X6_readsNumber X_1028).bind fun q_1031 => (if ((v1 + (nI 1)) + v3) < 0 ∨ 300 ≤ ((v1 + (nI 1)) + v3).toNatClampNeg then none else (zlet (zU q_1031.2 7 ((v1 + (nI 1)) + v3).toNatClampNeg q_1031.1) fun X_1034 => f_X6_readsCommand_L28 v1 v2 fu X_1034 (v3 + 1)))) else (if ((v1 + (nI 1)) + v3) < 0 ∨ 300 ≤ ((v1 + (nI 1)) + v3).toNatClampNeg then none else (zlet (zU X_1028 7 ((v1 + (nI 1)) + v3).toNatClampNeg (nI 0)) fun X_1037 => f_X6_readsCommand_L28 v1 v2 fu X_1037 (v3 + 1))))))) else (zlet (zU X 0 25 (nI 1)) fun X_1039 => (if (X_1039 0 25) = 0 then (zlet (zU X_1039 0 24 ((X_1039 0 24) + (nI 1))) fun X_1042 => (if (X_1042 0 25) = 0 then ((f_X6_readsNumber X_1042).bind fun q_1045 => (if ((v1 + (nI 1)) + v3) < 0 ∨ 300 ≤ ((v1 + (nI 1)) + v3).toNatClampNeg then none else (zlet (zU q_1045.2 7 ((v1 + (nI 1)) + v3).toNatClampNeg q_1045.1) fun X_1048 => f_X6_readsCommand_L28 v1 v2 fu X_1048 (v3 + 1)))) else (if ((v1 + (nI 1)) + v3) < 0 ∨ 300 ≤ ((v1 + (nI 1)) + v3).toNatClampNeg then none else (zlet (zU X_1042 7 ((v1 + (nI 1)) + v3).toNatClampNeg (nI 0)) fun X_1051 => f_X6_readsCommand_L28 v1 v2 fu X_1051 (v3 + 1))))) else (zlet (zU X_1039 0 24 ((X_1039 0 24) + (nI 0))) fun X_1053 => (if (X_1053 0 25) = 0 then ((f_X6_readsNumber X_1053).bind fun q_1056 => (if ((v1 + (nI 1)) + v3) < 0 ∨ 300 ≤ ((v1 + (nI 1)) + v3).toNatClampNeg then none else (zlet (zU q_1056.2 7 ((v1 + (nI 1)) + v3).toNatClampNeg q_1056.1) fun X_1059 => f_X6_readsCommand_L28 v1 v2 fu X_1059 (v3 + 1)))) else (if ((v1 + (nI 1)) + v3) < 0 ∨ 300 ≤ ((v1 + (nI 1)) + v3).toNatClampNeg then none else (zlet (zU X_1053 7 ((v1 + (nI 1)) + v3).toNatClampNeg (nI 0)) fun X_1062 => f_X6_readsCommand_L28 v1 v2 fu X_1062 (v3 + 1)))))))))) else some X)
set_option maxRecDepth 100000 in
set_option maxHeartbeats 4000000 in
theorem w_X6_readsCommand_L28 {p : Program} {e : Env} {s : State} {m : MethodId} {args : Array Value} {below : List Frame} {meth : Method} {c : Code} {A : Nat → Prop} (l : Launch) (D : va_G) (cy : Nat → ClassId) (ad : Nat → Nat) (E : va_W) (v1 : Int32) (v2 : Int32) {res : (Nat → Nat → Int32)} (C : zC p s m args meth c cX6_readsCommand 4 RX6 D (zTy cy) A) (hE : zEm A s s.heap) (hr : meth.sig.returnType = none) : ∀ (fu : Nat) (X : Nat → Nat → Int32) (v3 : Int32) (h : f_X6_readsCommand_L28 v1 v2 fu X v3 = some res), zG p l e (zrm 8) s m args below meth c 4 D A 0 0 (MQ below (tV D (zTy cy) (fun w => w = (zW cy ad shM E res)) A) args s 0 0 A) (zW cy ad shM E X) 28 [(0, .ref (ad 0)), (1, .int v1), (2, .int v2), (3, .int v3)] [] := by
  intro fu
  induction fu with
  | zero => intro X v3 h; simp [f_X6_readsCommand_L28] at h
  | succ fu ih =>
    intro X v3 h
    rw [f_X6_readsCommand_L28] at h
    refine g_aload_n (j := 0) C dX6_readsCommand_28 rfl rfl ?_
    refine g_geti (k := 25) (N := 27) C sM_0 rfl zin_RX6 (by decide) rfl zfl_RX6_296 rfl dX6_readsCommand_29 ?_
    refine g_if_ne C dX6_readsCommand_32 (tgt := 113) (by decide) (fun hc_1009 => ?_) (fun hc_1009 => ?_)
    · replace h := (if_neg hc_1009).symm.trans h
      obtain rfl := Option.some.inj h
      exact t_vret C hr rfl (Nat.le_refl _) (Nat.le_refl _) dX6_readsCommand_113
    · replace h := (if_pos hc_1009).symm.trans h
      refine g_iload_n (j := 3) C dX6_readsCommand_35 rfl rfl ?_
      refine g_iload_n (j := 2) C dX6_readsCommand_36 rfl rfl ?_
      refine g_si (ws' := (zW cy ad shM E X)) (As := [.int v2]) (rest := [.int v3]) (res := (f_X6_numbersOf v2)) C (c_X6_numbersOf l D cy (zW cy ad shM E X) v2) zml_RX6_306 zcs_X6_numbersOf rfl rfl ⟨Nat.le_of_ble_eq_true rfl, Nat.le_of_ble_eq_true rfl⟩ rfl rfl (Nat.le_of_ble_eq_true rfl) ⟨Nat.zero_le _, Nat.zero_le _⟩ dX6_readsCommand_37 ?_
      refine g_icmp_ge C dX6_readsCommand_40 (tgt := 113) (by decide) (fun hc_1010 => ?_) (fun hc_1010 => ?_)
      · replace h := (if_pos hc_1010).symm.trans h
        obtain rfl := Option.some.inj h
        exact t_vret C hr rfl (Nat.le_refl _) (Nat.le_refl _) dX6_readsCommand_113
      · replace h := (if_neg hc_1010).symm.trans h
        refine g_aload_n (j := 0) C dX6_readsCommand_43 rfl rfl ?_
        refine g_aload_n (j := 0) C dX6_readsCommand_44 rfl rfl ?_
        obtain ⟨q_1011, hq_1012, h⟩ := bind_isome h
        refine g_vi (ws' := (zW cy ad shM E X)) (As := []) (rest := [.ref (ad 0)]) (res := q_1011) C (c_X6_here l D cy ad E X hq_1012) zml_RX6_293 zcv_X6_here (zW_get X sM_0) rfl rfl rfl ⟨Nat.le_of_ble_eq_true rfl, Nat.le_of_ble_eq_true rfl⟩ rfl rfl (Nat.le_of_ble_eq_true rfl) ⟨Nat.zero_le _, Nat.zero_le _⟩ dX6_readsCommand_45 ?_
        refine g_bipush (v := (nI 32)) C dX6_readsCommand_48 (by decide) ?_
        refine g_icmp_eq C dX6_readsCommand_50 (tgt := 57) (by decide) (fun hc_1013 => ?_) (fun hc_1013 => ?_)
        · replace h := (if_pos hc_1013).symm.trans h
          refine g_iconst (v := (nI 0)) C dX6_readsCommand_57 (by decide) ?_
          refine g_puti (k := 25) (N := 27) (ty := .boolean) C sM_0 rfl zin_RX6 (by decide) rfl zfl_RX6_296 rfl tyX6_ok nmX6 rfl (by decide +kernel) (z_nb (Or.inl rfl)) (z_fb (Or.inl rfl)) dX6_readsCommand_58 ?_
          obtain ⟨X_1014, e_1015, h⟩ := zlet_ex h
          rw [← e_1015]
          refine g_aload_n (j := 0) C dX6_readsCommand_61 rfl rfl ?_
          refine g_dup C dX6_readsCommand_62 rfl ?_
          refine g_geti (k := 24) (N := 27) C sM_0 rfl zin_RX6 (by decide) rfl zfl_RX6_277 rfl dX6_readsCommand_63 ?_
          refine g_aload_n (j := 0) C dX6_readsCommand_66 rfl rfl ?_
          refine g_geti (k := 25) (N := 27) C sM_0 rfl zin_RX6 (by decide) rfl zfl_RX6_296 rfl dX6_readsCommand_67 ?_
          refine g_if_eq C dX6_readsCommand_70 (tgt := 77) (by decide) (fun hc_1016 => ?_) (fun hc_1016 => ?_)
          · replace h := (if_pos hc_1016).symm.trans h
            refine g_iconst (v := (nI 1)) C dX6_readsCommand_77 (by decide) ?_
            refine g_iadd C dX6_readsCommand_78 ?_
            refine g_puti (k := 24) (N := 27) (ty := .int) C sM_0 rfl zin_RX6 (by decide) rfl zfl_RX6_277 rfl tyX6_ok nmX6 rfl (by decide +kernel) rfl rfl dX6_readsCommand_79 ?_
            obtain ⟨X_1017, e_1018, h⟩ := zlet_ex h
            rw [← e_1018]
            refine g_aload_n (j := 0) C dX6_readsCommand_82 rfl rfl ?_
            refine g_getr (k := 26) (N := 27) C sM_0 rfl zin_RX6 (by decide) rfl zfl_RX6_33 rfl dX6_readsCommand_83 ?_
            refine g_iload_n (j := 1) C dX6_readsCommand_86 rfl rfl ?_
            refine g_iconst (v := (nI 1)) C dX6_readsCommand_87 (by decide) ?_
            refine g_iadd C dX6_readsCommand_88 ?_
            refine g_iload_n (j := 3) C dX6_readsCommand_89 rfl rfl ?_
            refine g_iadd C dX6_readsCommand_90 ?_
            refine g_aload_n (j := 0) C dX6_readsCommand_91 rfl rfl ?_
            refine g_geti (k := 25) (N := 27) C sM_0 rfl zin_RX6 (by decide) rfl zfl_RX6_296 rfl dX6_readsCommand_92 ?_
            refine g_if_eq C dX6_readsCommand_95 (tgt := 102) (by decide) (fun hc_1019 => ?_) (fun hc_1019 => ?_)
            · replace h := (if_pos hc_1019).symm.trans h
              refine g_aload_n (j := 0) C dX6_readsCommand_102 rfl rfl ?_
              obtain ⟨q_1020, hq_1021, h⟩ := bind_isome h
              refine g_vi (ws' := (zW cy ad shM E q_1020.2)) (As := []) (rest := [.int ((v1 + (nI 1)) + v3), .ref (ad 7)]) (res := q_1020.1) C (c_X6_readsNumber l D cy ad E X_1017 hq_1021) zml_RX6_309 zcv_X6_readsNumber (zW_get X_1017 sM_0) rfl rfl rfl ⟨Nat.le_of_ble_eq_true rfl, Nat.le_of_ble_eq_true rfl⟩ rfl rfl (Nat.le_of_ble_eq_true rfl) ⟨Nat.zero_le _, Nat.zero_le _⟩ dX6_readsCommand_103 ?_
              obtain ⟨hi_1022, h⟩ := ite_inone h
              refine g_iast C sM_7 hi_1022 dX6_readsCommand_106 ?_
              obtain ⟨X_1023, e_1024, h⟩ := zlet_ex h
              rw [← e_1024]
              refine g_iinc (k := 3) (L' := [(3, .int (v3 + 1)), (0, .ref (ad 0)), (1, .int v1), (2, .int v2)]) C dX6_readsCommand_107 rfl (z_iinc (by decide)) (by decide) rfl ?_
              refine g_goto C dX6_readsCommand_110 (tgt := 28) (by decide) ?_
              refine zG_sub (L' := [(0, .ref (ad 0)), (1, .int v1), (2, .int v2), (3, .int (v3 + 1))]) [1, 2, 3, 0] rfl ?_
              exact ih X_1023 (v3 + 1) h
            · replace h := (if_neg hc_1019).symm.trans h
              refine g_iconst (v := (nI 0)) C dX6_readsCommand_98 (by decide) ?_
              refine g_goto C dX6_readsCommand_99 (tgt := 106) (by decide) ?_
              obtain ⟨hi_1025, h⟩ := ite_inone h
              refine g_iast C sM_7 hi_1025 dX6_readsCommand_106 ?_
              obtain ⟨X_1026, e_1027, h⟩ := zlet_ex h
              rw [← e_1027]
              refine g_iinc (k := 3) (L' := [(3, .int (v3 + 1)), (0, .ref (ad 0)), (1, .int v1), (2, .int v2)]) C dX6_readsCommand_107 rfl (z_iinc (by decide)) (by decide) rfl ?_
              refine g_goto C dX6_readsCommand_110 (tgt := 28) (by decide) ?_
              refine zG_sub (L' := [(0, .ref (ad 0)), (1, .int v1), (2, .int v2), (3, .int (v3 + 1))]) [1, 2, 3, 0] rfl ?_
              exact ih X_1026 (v3 + 1) h
          · replace h := (if_neg hc_1016).symm.trans h
            refine g_iconst (v := (nI 0)) C dX6_readsCommand_73 (by decide) ?_
            refine g_goto C dX6_readsCommand_74 (tgt := 78) (by decide) ?_
            refine g_iadd C dX6_readsCommand_78 ?_
            refine g_puti (k := 24) (N := 27) (ty := .int) C sM_0 rfl zin_RX6 (by decide) rfl zfl_RX6_277 rfl tyX6_ok nmX6 rfl (by decide +kernel) rfl rfl dX6_readsCommand_79 ?_
            obtain ⟨X_1028, e_1029, h⟩ := zlet_ex h
            rw [← e_1029]
            refine g_aload_n (j := 0) C dX6_readsCommand_82 rfl rfl ?_
            refine g_getr (k := 26) (N := 27) C sM_0 rfl zin_RX6 (by decide) rfl zfl_RX6_33 rfl dX6_readsCommand_83 ?_
            refine g_iload_n (j := 1) C dX6_readsCommand_86 rfl rfl ?_
            refine g_iconst (v := (nI 1)) C dX6_readsCommand_87 (by decide) ?_
            refine g_iadd C dX6_readsCommand_88 ?_
            refine g_iload_n (j := 3) C dX6_readsCommand_89 rfl rfl ?_
            refine g_iadd C dX6_readsCommand_90 ?_
            refine g_aload_n (j := 0) C dX6_readsCommand_91 rfl rfl ?_
            refine g_geti (k := 25) (N := 27) C sM_0 rfl zin_RX6 (by decide) rfl zfl_RX6_296 rfl dX6_readsCommand_92 ?_
            refine g_if_eq C dX6_readsCommand_95 (tgt := 102) (by decide) (fun hc_1030 => ?_) (fun hc_1030 => ?_)
            · replace h := (if_pos hc_1030).symm.trans h
              refine g_aload_n (j := 0) C dX6_readsCommand_102 rfl rfl ?_
              obtain ⟨q_1031, hq_1032, h⟩ := bind_isome h
              refine g_vi (ws' := (zW cy ad shM E q_1031.2)) (As := []) (rest := [.int ((v1 + (nI 1)) + v3), .ref (ad 7)]) (res := q_1031.1) C (c_X6_readsNumber l D cy ad E X_1028 hq_1032) zml_RX6_309 zcv_X6_readsNumber (zW_get X_1028 sM_0) rfl rfl rfl ⟨Nat.le_of_ble_eq_true rfl, Nat.le_of_ble_eq_true rfl⟩ rfl rfl (Nat.le_of_ble_eq_true rfl) ⟨Nat.zero_le _, Nat.zero_le _⟩ dX6_readsCommand_103 ?_
              obtain ⟨hi_1033, h⟩ := ite_inone h
              refine g_iast C sM_7 hi_1033 dX6_readsCommand_106 ?_
              obtain ⟨X_1034, e_1035, h⟩ := zlet_ex h
              rw [← e_1035]
              refine g_iinc (k := 3) (L' := [(3, .int (v3 + 1)), (0, .ref (ad 0)), (1, .int v1), (2, .int v2)]) C dX6_readsCommand_107 rfl (z_iinc (by decide)) (by decide) rfl ?_
              refine g_goto C dX6_readsCommand_110 (tgt := 28) (by decide) ?_
              refine zG_sub (L' := [(0, .ref (ad 0)), (1, .int v1), (2, .int v2), (3, .int (v3 + 1))]) [1, 2, 3, 0] rfl ?_
              exact ih X_1034 (v3 + 1) h
            · replace h := (if_neg hc_1030).symm.trans h
              refine g_iconst (v := (nI 0)) C dX6_readsCommand_98 (by decide) ?_
              refine g_goto C dX6_readsCommand_99 (tgt := 106) (by decide) ?_
              obtain ⟨hi_1036, h⟩ := ite_inone h
              refine g_iast C sM_7 hi_1036 dX6_readsCommand_106 ?_
              obtain ⟨X_1037, e_1038, h⟩ := zlet_ex h
              rw [← e_1038]
              refine g_iinc (k := 3) (L' := [(3, .int (v3 + 1)), (0, .ref (ad 0)), (1, .int v1), (2, .int v2)]) C dX6_readsCommand_107 rfl (z_iinc (by decide)) (by decide) rfl ?_
              refine g_goto C dX6_readsCommand_110 (tgt := 28) (by decide) ?_
              refine zG_sub (L' := [(0, .ref (ad 0)), (1, .int v1), (2, .int v2), (3, .int (v3 + 1))]) [1, 2, 3, 0] rfl ?_
              exact ih X_1037 (v3 + 1) h
        · replace h := (if_neg hc_1013).symm.trans h
          refine g_iconst (v := (nI 1)) C dX6_readsCommand_53 (by decide) ?_
          refine g_goto C dX6_readsCommand_54 (tgt := 58) (by decide) ?_
          refine g_puti (k := 25) (N := 27) (ty := .boolean) C sM_0 rfl zin_RX6 (by decide) rfl zfl_RX6_296 rfl tyX6_ok nmX6 rfl (by decide +kernel) (z_nb (Or.inr rfl)) (z_fb (Or.inr rfl)) dX6_readsCommand_58 ?_
          obtain ⟨X_1039, e_1040, h⟩ := zlet_ex h
          rw [← e_1040]
          refine g_aload_n (j := 0) C dX6_readsCommand_61 rfl rfl ?_
          refine g_dup C dX6_readsCommand_62 rfl ?_
          refine g_geti (k := 24) (N := 27) C sM_0 rfl zin_RX6 (by decide) rfl zfl_RX6_277 rfl dX6_readsCommand_63 ?_
          refine g_aload_n (j := 0) C dX6_readsCommand_66 rfl rfl ?_
          refine g_geti (k := 25) (N := 27) C sM_0 rfl zin_RX6 (by decide) rfl zfl_RX6_296 rfl dX6_readsCommand_67 ?_
          refine g_if_eq C dX6_readsCommand_70 (tgt := 77) (by decide) (fun hc_1041 => ?_) (fun hc_1041 => ?_)
          · replace h := (if_pos hc_1041).symm.trans h
            refine g_iconst (v := (nI 1)) C dX6_readsCommand_77 (by decide) ?_
            refine g_iadd C dX6_readsCommand_78 ?_
            refine g_puti (k := 24) (N := 27) (ty := .int) C sM_0 rfl zin_RX6 (by decide) rfl zfl_RX6_277 rfl tyX6_ok nmX6 rfl (by decide +kernel) rfl rfl dX6_readsCommand_79 ?_
            obtain ⟨X_1042, e_1043, h⟩ := zlet_ex h
            rw [← e_1043]
            refine g_aload_n (j := 0) C dX6_readsCommand_82 rfl rfl ?_
            refine g_getr (k := 26) (N := 27) C sM_0 rfl zin_RX6 (by decide) rfl zfl_RX6_33 rfl dX6_readsCommand_83 ?_
            refine g_iload_n (j := 1) C dX6_readsCommand_86 rfl rfl ?_
            refine g_iconst (v := (nI 1)) C dX6_readsCommand_87 (by decide) ?_
            refine g_iadd C dX6_readsCommand_88 ?_
            refine g_iload_n (j := 3) C dX6_readsCommand_89 rfl rfl ?_
            refine g_iadd C dX6_readsCommand_90 ?_
            refine g_aload_n (j := 0) C dX6_readsCommand_91 rfl rfl ?_
            refine g_geti (k := 25) (N := 27) C sM_0 rfl zin_RX6 (by decide) rfl zfl_RX6_296 rfl dX6_readsCommand_92 ?_
            refine g_if_eq C dX6_readsCommand_95 (tgt := 102) (by decide) (fun hc_1044 => ?_) (fun hc_1044 => ?_)
            · replace h := (if_pos hc_1044).symm.trans h
              refine g_aload_n (j := 0) C dX6_readsCommand_102 rfl rfl ?_
              obtain ⟨q_1045, hq_1046, h⟩ := bind_isome h
              refine g_vi (ws' := (zW cy ad shM E q_1045.2)) (As := []) (rest := [.int ((v1 + (nI 1)) + v3), .ref (ad 7)]) (res := q_1045.1) C (c_X6_readsNumber l D cy ad E X_1042 hq_1046) zml_RX6_309 zcv_X6_readsNumber (zW_get X_1042 sM_0) rfl rfl rfl ⟨Nat.le_of_ble_eq_true rfl, Nat.le_of_ble_eq_true rfl⟩ rfl rfl (Nat.le_of_ble_eq_true rfl) ⟨Nat.zero_le _, Nat.zero_le _⟩ dX6_readsCommand_103 ?_
              obtain ⟨hi_1047, h⟩ := ite_inone h
              refine g_iast C sM_7 hi_1047 dX6_readsCommand_106 ?_
              obtain ⟨X_1048, e_1049, h⟩ := zlet_ex h
              rw [← e_1049]
              refine g_iinc (k := 3) (L' := [(3, .int (v3 + 1)), (0, .ref (ad 0)), (1, .int v1), (2, .int v2)]) C dX6_readsCommand_107 rfl (z_iinc (by decide)) (by decide) rfl ?_
              refine g_goto C dX6_readsCommand_110 (tgt := 28) (by decide) ?_
              refine zG_sub (L' := [(0, .ref (ad 0)), (1, .int v1), (2, .int v2), (3, .int (v3 + 1))]) [1, 2, 3, 0] rfl ?_
              exact ih X_1048 (v3 + 1) h
            · replace h := (if_neg hc_1044).symm.trans h
              refine g_iconst (v := (nI 0)) C dX6_readsCommand_98 (by decide) ?_
              refine g_goto C dX6_readsCommand_99 (tgt := 106) (by decide) ?_
              obtain ⟨hi_1050, h⟩ := ite_inone h
              refine g_iast C sM_7 hi_1050 dX6_readsCommand_106 ?_
              obtain ⟨X_1051, e_1052, h⟩ := zlet_ex h
              rw [← e_1052]
              refine g_iinc (k := 3) (L' := [(3, .int (v3 + 1)), (0, .ref (ad 0)), (1, .int v1), (2, .int v2)]) C dX6_readsCommand_107 rfl (z_iinc (by decide)) (by decide) rfl ?_
              refine g_goto C dX6_readsCommand_110 (tgt := 28) (by decide) ?_
              refine zG_sub (L' := [(0, .ref (ad 0)), (1, .int v1), (2, .int v2), (3, .int (v3 + 1))]) [1, 2, 3, 0] rfl ?_
              exact ih X_1051 (v3 + 1) h
          · replace h := (if_neg hc_1041).symm.trans h
            refine g_iconst (v := (nI 0)) C dX6_readsCommand_73 (by decide) ?_
            refine g_goto C dX6_readsCommand_74 (tgt := 78) (by decide) ?_
            refine g_iadd C dX6_readsCommand_78 ?_
            refine g_puti (k := 24) (N := 27) (ty := .int) C sM_0 rfl zin_RX6 (by decide) rfl zfl_RX6_277 rfl tyX6_ok nmX6 rfl (by decide +kernel) rfl rfl dX6_readsCommand_79 ?_
            obtain ⟨X_1053, e_1054, h⟩ := zlet_ex h
            rw [← e_1054]
            refine g_aload_n (j := 0) C dX6_readsCommand_82 rfl rfl ?_
            refine g_getr (k := 26) (N := 27) C sM_0 rfl zin_RX6 (by decide) rfl zfl_RX6_33 rfl dX6_readsCommand_83 ?_
            refine g_iload_n (j := 1) C dX6_readsCommand_86 rfl rfl ?_
            refine g_iconst (v := (nI 1)) C dX6_readsCommand_87 (by decide) ?_
            refine g_iadd C dX6_readsCommand_88 ?_
            refine g_iload_n (j := 3) C dX6_readsCommand_89 rfl rfl ?_
            refine g_iadd C dX6_readsCommand_90 ?_
            refine g_aload_n (j := 0) C dX6_readsCommand_91 rfl rfl ?_
            refine g_geti (k := 25) (N := 27) C sM_0 rfl zin_RX6 (by decide) rfl zfl_RX6_296 rfl dX6_readsCommand_92 ?_
            refine g_if_eq C dX6_readsCommand_95 (tgt := 102) (by decide) (fun hc_1055 => ?_) (fun hc_1055 => ?_)
            · replace h := (if_pos hc_1055).symm.trans h
              refine g_aload_n (j := 0) C dX6_readsCommand_102 rfl rfl ?_
              obtain ⟨q_1056, hq_1057, h⟩ := bind_isome h
              refine g_vi (ws' := (zW cy ad shM E q_1056.2)) (As := []) (rest := [.int ((v1 + (nI 1)) + v3), .ref (ad 7)]) (res := q_1056.1) C (c_X6_readsNumber l D cy ad E X_1053 hq_1057) zml_RX6_309 zcv_X6_readsNumber (zW_get X_1053 sM_0) rfl rfl rfl ⟨Nat.le_of_ble_eq_true rfl, Nat.le_of_ble_eq_true rfl⟩ rfl rfl (Nat.le_of_ble_eq_true rfl) ⟨Nat.zero_le _, Nat.zero_le _⟩ dX6_readsCommand_103 ?_
              obtain ⟨hi_1058, h⟩ := ite_inone h
              refine g_iast C sM_7 hi_1058 dX6_readsCommand_106 ?_
              obtain ⟨X_1059, e_1060, h⟩ := zlet_ex h
              rw [← e_1060]
              refine g_iinc (k := 3) (L' := [(3, .int (v3 + 1)), (0, .ref (ad 0)), (1, .int v1), (2, .int v2)]) C dX6_readsCommand_107 rfl (z_iinc (by decide)) (by decide) rfl ?_
              refine g_goto C dX6_readsCommand_110 (tgt := 28) (by decide) ?_
              refine zG_sub (L' := [(0, .ref (ad 0)), (1, .int v1), (2, .int v2), (3, .int (v3 + 1))]) [1, 2, 3, 0] rfl ?_
              exact ih X_1059 (v3 + 1) h
            · replace h := (if_neg hc_1055).symm.trans h
              refine g_iconst (v := (nI 0)) C dX6_readsCommand_98 (by decide) ?_
              refine g_goto C dX6_readsCommand_99 (tgt := 106) (by decide) ?_
              obtain ⟨hi_1061, h⟩ := ite_inone h
              refine g_iast C sM_7 hi_1061 dX6_readsCommand_106 ?_
              obtain ⟨X_1062, e_1063, h⟩ := zlet_ex h
              rw [← e_1063]
              refine g_iinc (k := 3) (L' := [(3, .int (v3 + 1)), (0, .ref (ad 0)), (1, .int v1), (2, .int v2)]) C dX6_readsCommand_107 rfl (z_iinc (by decide)) (by decide) rfl ?_
              refine g_goto C dX6_readsCommand_110 (tgt := 28) (by decide) ?_
              refine zG_sub (L' := [(0, .ref (ad 0)), (1, .int v1), (2, .int v2), (3, .int (v3 + 1))]) [1, 2, 3, 0] rfl ?_
              exact ih X_1062 (v3 + 1) h
def f_X6_readsCommand (X : Nat → Nat → Int32) (v1 : Int32) : Option (Nat → Nat → Int32) := ((f_X6_readsWord X).bind fun q_1 => (if q_1.1 = (-1 : Int32) then (zlet (zU q_1.2 0 25 (nI 1)) fun X_1064 => (if v1 < 0 ∨ 300 ≤ v1.toNatClampNeg then none else (zlet (zU X_1064 7 v1.toNatClampNeg q_1.1) fun X_1067 => f_X6_readsCommand_L28 v1 q_1.1 zFuel X_1067 (nI 0)))) else (zlet (zU q_1.2 0 25 (nI 0)) fun X_4 => (if v1 < 0 ∨ 300 ≤ v1.toNatClampNeg then none else (zlet (zU X_4 7 v1.toNatClampNeg q_1.1) fun X_7 => f_X6_readsCommand_L28 v1 q_1.1 zFuel X_7 (nI 0))))))
set_option maxRecDepth 100000 in
set_option maxHeartbeats 4000000 in
theorem c_X6_readsCommand (l : Launch) (D : va_G) (cy : Nat → ClassId) (ad : Nat → Nat) (E : va_W) (X : Nat → Nat → Int32) (v1 : Int32) {res : (Nat → Nat → Int32)} (h : f_X6_readsCommand X v1 = some res) : zMt l yX6_readsCommand cX6_readsCommand 4 none (zrm 8) D (zTy cy) zEm (zW cy ad shM E X) [.ref (ad 0), .int v1] 0 0 (tV D (zTy cy) (fun w => w = (zW cy ad shM E res))) := by
  refine zMt.of (by decide) (Nat.le_of_ble_eq_true rfl) ?_
  intro p e s m below meth c A C hr hE
  unfold f_X6_readsCommand at h
  refine zG_L (L' := [(0, .ref (ad 0)), (1, .int v1)]) rfl ?_
  refine g_aload_n (j := 0) C dX6_readsCommand_0 rfl rfl ?_
  obtain ⟨q_1, hq_2, h⟩ := bind_isome h
  refine t_Vi (As := []) (rest := []) zEm_ge hE C (c_X6_readsWord l D cy ad E X hq_2) zml_RX6_303 zcv_X6_readsWord (zRec.of C rfl (zW_get X sM_0)) rfl rfl ⟨Nat.le_of_ble_eq_true rfl, Nat.le_of_ble_eq_true rfl⟩ rfl rfl (Nat.le_of_ble_eq_true rfl) ⟨Nat.zero_le _, Nat.zero_le _⟩ dX6_readsCommand_1 ?_
  intro r w h9
  obtain ⟨h9a, rfl⟩ := h9
  subst r
  refine g_istore_n (L' := [(2, .int q_1.1), (0, .ref (ad 0)), (1, .int v1)]) C dX6_readsCommand_4 rfl (by decide) rfl ?_
  refine g_aload_n (j := 1) C dX6_readsCommand_5 rfl rfl ?_
  refine g_iload_n (j := 0) C dX6_readsCommand_6 rfl rfl ?_
  refine g_iconst (v := (-1 : Int32)) C dX6_readsCommand_7 (by decide) ?_
  refine g_icmp_ne C dX6_readsCommand_8 (tgt := 15) (by decide) (fun hc_3 => ?_) (fun hc_3 => ?_)
  · replace h := (if_neg hc_3).symm.trans h
    refine g_iconst (v := (nI 0)) C dX6_readsCommand_15 (by decide) ?_
    refine g_puti (k := 25) (N := 27) (ty := .boolean) C sM_0 rfl zin_RX6 (by decide) rfl zfl_RX6_296 rfl tyX6_ok nmX6 rfl (by decide +kernel) (z_nb (Or.inl rfl)) (z_fb (Or.inl rfl)) dX6_readsCommand_16 ?_
    obtain ⟨X_4, e_5, h⟩ := zlet_ex h
    rw [← e_5]
    refine g_aload_n (j := 1) C dX6_readsCommand_19 rfl rfl ?_
    refine g_getr (k := 26) (N := 27) C sM_0 rfl zin_RX6 (by decide) rfl zfl_RX6_33 rfl dX6_readsCommand_20 ?_
    refine g_iload_n (j := 2) C dX6_readsCommand_23 rfl rfl ?_
    refine g_iload_n (j := 0) C dX6_readsCommand_24 rfl rfl ?_
    obtain ⟨hi_6, h⟩ := ite_inone h
    refine g_iast C sM_7 hi_6 dX6_readsCommand_25 ?_
    obtain ⟨X_7, e_8, h⟩ := zlet_ex h
    rw [← e_8]
    refine g_iconst (v := (nI 0)) C dX6_readsCommand_26 (by decide) ?_
    refine g_istore_n (L' := [(3, .int (nI 0)), (2, .int q_1.1), (0, .ref (ad 0)), (1, .int v1)]) C dX6_readsCommand_27 rfl (by decide) rfl ?_
    refine zG_sub (L' := [(0, .ref (ad 0)), (1, .int v1), (2, .int q_1.1), (3, .int (nI 0))]) [2, 3, 1, 0] rfl ?_
    exact w_X6_readsCommand_L28 l D cy ad E v1 q_1.1 C hE hr zFuel X_7 (nI 0) h
  · replace h := (if_pos hc_3).symm.trans h
    refine g_iconst (v := (nI 1)) C dX6_readsCommand_11 (by decide) ?_
    refine g_goto C dX6_readsCommand_12 (tgt := 16) (by decide) ?_
    refine g_puti (k := 25) (N := 27) (ty := .boolean) C sM_0 rfl zin_RX6 (by decide) rfl zfl_RX6_296 rfl tyX6_ok nmX6 rfl (by decide +kernel) (z_nb (Or.inr rfl)) (z_fb (Or.inr rfl)) dX6_readsCommand_16 ?_
    obtain ⟨X_1064, e_1065, h⟩ := zlet_ex h
    rw [← e_1065]
    refine g_aload_n (j := 1) C dX6_readsCommand_19 rfl rfl ?_
    refine g_getr (k := 26) (N := 27) C sM_0 rfl zin_RX6 (by decide) rfl zfl_RX6_33 rfl dX6_readsCommand_20 ?_
    refine g_iload_n (j := 2) C dX6_readsCommand_23 rfl rfl ?_
    refine g_iload_n (j := 0) C dX6_readsCommand_24 rfl rfl ?_
    obtain ⟨hi_1066, h⟩ := ite_inone h
    refine g_iast C sM_7 hi_1066 dX6_readsCommand_25 ?_
    obtain ⟨X_1067, e_1068, h⟩ := zlet_ex h
    rw [← e_1068]
    refine g_iconst (v := (nI 0)) C dX6_readsCommand_26 (by decide) ?_
    refine g_istore_n (L' := [(3, .int (nI 0)), (2, .int q_1.1), (0, .ref (ad 0)), (1, .int v1)]) C dX6_readsCommand_27 rfl (by decide) rfl ?_
    refine zG_sub (L' := [(0, .ref (ad 0)), (1, .int v1), (2, .int q_1.1), (3, .int (nI 0))]) [2, 3, 1, 0] rfl ?_
    exact w_X6_readsCommand_L28 l D cy ad E v1 q_1.1 C hE hr zFuel X_1067 (nI 0) h
def f_X6_perform_L12 (k : (Nat → Nat → Int32) → Int32 → Option (Int32 × (Nat → Nat → Int32))) : Nat → (Nat → Nat → Int32) → Int32 → Option (Int32 × (Nat → Nat → Int32))
  | 0, _, _ => none
  | fu + 1, X, v1 => (if (X 0 25) = 0 then ((f_X6_here X).bind fun q_1006 => (if q_1006 = (nI 59) then (zlet (zU X 0 24 ((X 0 24) + (nI 1))) fun X_1009 => ((f_X6_readsCommand X_1009 ((nI 5) * v1)).bind fun q_1011 => f_X6_perform_L12 k fu q_1011 (v1 + 1))) else k X v1)) else k X v1)
set_option maxRecDepth 100000 in
set_option maxHeartbeats 4000000 in
theorem w_X6_perform_L12 {p : Program} {e : Env} {s : State} {m : MethodId} {args : Array Value} {below : List Frame} {meth : Method} {c : Code} {A : Nat → Prop} (l : Launch) (D : va_G) (cy : Nat → ClassId) (ad : Nat → Nat) (E : va_W) (k : (Nat → Nat → Int32) → Int32 → Option (Int32 × (Nat → Nat → Int32))) {res : Int32 × (Nat → Nat → Int32)} (C : zC p s m args meth c cX6_perform 4 RX6 D (zTy cy) A) (hE : zEm A s s.heap) (hr : meth.sig.returnType = (some .int)) : ∀ (fu : Nat) (X : Nat → Nat → Int32) (v1 : Int32) (h : f_X6_perform_L12 k fu X v1 = some res) (hk : ∀ (X : Nat → Nat → Int32) (v1 : Int32), k X v1 = some res → zG p l e (zrm 12) s m args below meth c 4 D A 0 0 (MQ below (tI D (zTy cy) (fun r w => r = res.1 ∧ w = (zW cy ad shM E res.2)) A) args s 0 0 A) (zW cy ad shM E X) 51 [(0, .ref (ad 0)), (1, .int v1)] []), zG p l e (zrm 12) s m args below meth c 4 D A 0 0 (MQ below (tI D (zTy cy) (fun r w => r = res.1 ∧ w = (zW cy ad shM E res.2)) A) args s 0 0 A) (zW cy ad shM E X) 12 [(0, .ref (ad 0)), (1, .int v1)] [] := by
  intro fu
  induction fu with
  | zero => intro X v1 h hk; simp [f_X6_perform_L12] at h
  | succ fu ih =>
    intro X v1 h hk
    rw [f_X6_perform_L12] at h
    refine g_aload_n (j := 0) C dX6_perform_12 rfl rfl ?_
    refine g_geti (k := 25) (N := 27) C sM_0 rfl zin_RX6 (by decide) rfl zfl_RX6_296 rfl dX6_perform_13 ?_
    refine g_if_ne C dX6_perform_16 (tgt := 51) (by decide) (fun hc_1005 => ?_) (fun hc_1005 => ?_)
    · replace h := (if_neg hc_1005).symm.trans h
      refine zG_sub (L' := [(0, .ref (ad 0)), (1, .int v1)]) [0, 1] rfl ?_
      exact hk X v1 h
    · replace h := (if_pos hc_1005).symm.trans h
      refine g_aload_n (j := 0) C dX6_perform_19 rfl rfl ?_
      obtain ⟨q_1006, hq_1007, h⟩ := bind_isome h
      refine g_vi (ws' := (zW cy ad shM E X)) (As := []) (rest := []) (res := q_1006) C (c_X6_here l D cy ad E X hq_1007) zml_RX6_293 zcv_X6_here (zW_get X sM_0) rfl rfl rfl ⟨Nat.le_of_ble_eq_true rfl, Nat.le_of_ble_eq_true rfl⟩ rfl rfl (Nat.le_of_ble_eq_true rfl) ⟨Nat.zero_le _, Nat.zero_le _⟩ dX6_perform_20 ?_
      refine g_bipush (v := (nI 59)) C dX6_perform_23 (by decide) ?_
      refine g_icmp_ne C dX6_perform_25 (tgt := 51) (by decide) (fun hc_1008 => ?_) (fun hc_1008 => ?_)
      · replace h := (if_neg hc_1008).symm.trans h
        refine zG_sub (L' := [(0, .ref (ad 0)), (1, .int v1)]) [0, 1] rfl ?_
        exact hk X v1 h
      · replace h := (if_pos hc_1008).symm.trans h
        refine g_aload_n (j := 0) C dX6_perform_28 rfl rfl ?_
        refine g_dup C dX6_perform_29 rfl ?_
        refine g_geti (k := 24) (N := 27) C sM_0 rfl zin_RX6 (by decide) rfl zfl_RX6_277 rfl dX6_perform_30 ?_
        refine g_iconst (v := (nI 1)) C dX6_perform_33 (by decide) ?_
        refine g_iadd C dX6_perform_34 ?_
        refine g_puti (k := 24) (N := 27) (ty := .int) C sM_0 rfl zin_RX6 (by decide) rfl zfl_RX6_277 rfl tyX6_ok nmX6 rfl (by decide +kernel) rfl rfl dX6_perform_35 ?_
        obtain ⟨X_1009, e_1010, h⟩ := zlet_ex h
        rw [← e_1010]
        refine g_aload_n (j := 0) C dX6_perform_38 rfl rfl ?_
        refine g_iconst (v := (nI 5)) C dX6_perform_39 (by decide) ?_
        refine g_iload_n (j := 1) C dX6_perform_40 rfl rfl ?_
        refine g_imul C dX6_perform_41 ?_
        obtain ⟨q_1011, hq_1012, h⟩ := bind_isome h
        refine t_Vv (As := [.int ((nI 5) * v1)]) (rest := []) zEm_ge hE C (c_X6_readsCommand l D cy ad E X_1009 ((nI 5) * v1) hq_1012) zml_RX6_324 zcv_X6_readsCommand (zRec.of C rfl (zW_get X_1009 sM_0)) rfl rfl ⟨Nat.le_of_ble_eq_true rfl, Nat.le_of_ble_eq_true rfl⟩ rfl rfl (Nat.le_of_ble_eq_true rfl) ⟨Nat.zero_le _, Nat.zero_le _⟩ dX6_perform_42 ?_
        intro w h9
        obtain rfl := h9
        refine g_iinc (k := 1) (L' := [(1, .int (v1 + 1)), (0, .ref (ad 0))]) C dX6_perform_45 rfl (z_iinc (by decide)) (by decide) rfl ?_
        refine g_goto C dX6_perform_48 (tgt := 12) (by decide) ?_
        refine zG_sub (L' := [(0, .ref (ad 0)), (1, .int (v1 + 1))]) [1, 0] rfl ?_
        exact ih q_1011 (v1 + 1) h hk
def f_X6_perform_L124 (k : (Nat → Nat → Int32) → Int32 → Option (Int32 × (Nat → Nat → Int32))) (v1 : Int32) : Nat → (Nat → Nat → Int32) → Int32 → Int32 → Option (Int32 × (Nat → Nat → Int32))
  | 0, _, _, _ => none
  | fu + 1, X, v2, v3 => (if v1 ≤ v3 then k X v2 else (if v2 = 0 then k X v2 else ((f_X6_does X ((nI 5) * v3)).bind fun q_2028 => f_X6_perform_L124 k v1 fu q_2028.2 q_2028.1 (v3 + 1))))
set_option maxRecDepth 100000 in
set_option maxHeartbeats 4000000 in
theorem w_X6_perform_L124 {p : Program} {e : Env} {s : State} {m : MethodId} {args : Array Value} {below : List Frame} {meth : Method} {c : Code} {A : Nat → Prop} (l : Launch) (D : va_G) (cy : Nat → ClassId) (ad : Nat → Nat) (E : va_W) (k : (Nat → Nat → Int32) → Int32 → Option (Int32 × (Nat → Nat → Int32))) (v1 : Int32) {res : Int32 × (Nat → Nat → Int32)} (C : zC p s m args meth c cX6_perform 4 RX6 D (zTy cy) A) (hE : zEm A s s.heap) (hr : meth.sig.returnType = (some .int)) : ∀ (fu : Nat) (X : Nat → Nat → Int32) (v2 v3 : Int32) (h : f_X6_perform_L124 k v1 fu X v2 v3 = some res) (hk : ∀ (X : Nat → Nat → Int32) (v2 : Int32), k X v2 = some res → zG p l e (zrm 12) s m args below meth c 4 D A 0 0 (MQ below (tI D (zTy cy) (fun r w => r = res.1 ∧ w = (zW cy ad shM E res.2)) A) args s 0 0 A) (zW cy ad shM E X) 147 [(0, .ref (ad 0)), (1, .int v1), (2, .int v2)] []), zG p l e (zrm 12) s m args below meth c 4 D A 0 0 (MQ below (tI D (zTy cy) (fun r w => r = res.1 ∧ w = (zW cy ad shM E res.2)) A) args s 0 0 A) (zW cy ad shM E X) 124 [(0, .ref (ad 0)), (1, .int v1), (2, .int v2), (3, .int v3)] [] := by
  intro fu
  induction fu with
  | zero => intro X v2 v3 h hk; simp [f_X6_perform_L124] at h
  | succ fu ih =>
    intro X v2 v3 h hk
    rw [f_X6_perform_L124] at h
    refine g_iload_n (j := 3) C dX6_perform_124 rfl rfl ?_
    refine g_iload_n (j := 1) C dX6_perform_125 rfl rfl ?_
    refine g_icmp_ge C dX6_perform_126 (tgt := 147) (by decide) (fun hc_2026 => ?_) (fun hc_2026 => ?_)
    · replace h := (if_pos hc_2026).symm.trans h
      refine zG_sub (L' := [(0, .ref (ad 0)), (1, .int v1), (2, .int v2)]) [0, 1, 2] rfl ?_
      exact hk X v2 h
    · replace h := (if_neg hc_2026).symm.trans h
      refine g_iload_n (j := 2) C dX6_perform_129 rfl rfl ?_
      refine g_if_eq C dX6_perform_130 (tgt := 147) (by decide) (fun hc_2027 => ?_) (fun hc_2027 => ?_)
      · replace h := (if_pos hc_2027).symm.trans h
        refine zG_sub (L' := [(0, .ref (ad 0)), (1, .int v1), (2, .int v2)]) [0, 1, 2] rfl ?_
        exact hk X v2 h
      · replace h := (if_neg hc_2027).symm.trans h
        refine g_aload_n (j := 0) C dX6_perform_133 rfl rfl ?_
        refine g_iconst (v := (nI 5)) C dX6_perform_134 (by decide) ?_
        refine g_iload_n (j := 3) C dX6_perform_135 rfl rfl ?_
        refine g_imul C dX6_perform_136 ?_
        obtain ⟨q_2028, hq_2029, h⟩ := bind_isome h
        refine g_vi (ws' := (zW cy ad shM E q_2028.2)) (As := [.int ((nI 5) * v3)]) (rest := []) (res := q_2028.1) C (c_X6_does l D cy ad E X ((nI 5) * v3) hq_2029) zml_RX6_327 zcv_X6_does (zW_get X sM_0) rfl rfl rfl ⟨Nat.le_of_ble_eq_true rfl, Nat.le_of_ble_eq_true rfl⟩ rfl rfl (Nat.le_of_ble_eq_true rfl) ⟨Nat.zero_le _, Nat.zero_le _⟩ dX6_perform_137 ?_
        refine g_istore_n (L' := [(2, .int q_2028.1), (0, .ref (ad 0)), (1, .int v1), (3, .int v3)]) C dX6_perform_140 rfl (by decide) rfl ?_
        refine g_iinc (k := 3) (L' := [(3, .int (v3 + 1)), (2, .int q_2028.1), (0, .ref (ad 0)), (1, .int v1)]) C dX6_perform_141 rfl (z_iinc (by decide)) (by decide) rfl ?_
        refine g_goto C dX6_perform_144 (tgt := 124) (by decide) ?_
        refine zG_sub (L' := [(0, .ref (ad 0)), (1, .int v1), (2, .int q_2028.1), (3, .int (v3 + 1))]) [2, 3, 1, 0] rfl ?_
        exact ih q_2028.2 q_2028.1 (v3 + 1) h hk
def f_X6_perform (X : Nat → Nat → Int32) : Option (Int32 × (Nat → Nat → Int32)) := (zlet (zU X 0 24 (nI 0)) fun X_1 => ((f_X6_readsCommand X_1 (nI 0)).bind fun q_3 => f_X6_perform_L12 (fun X_1014 v1_1013 => (if (X_1014 0 11) ≤ (X_1014 0 24) then (if ¬ (((X_1014 0 25) ||| (nI 0)) = 0 ∨ ((X_1014 0 25) ||| (nI 0)) = 1) then none else (zlet (zU X_1014 0 25 ((X_1014 0 25) ||| (nI 0))) fun X_1017 => (zlet (zU X_1017 0 11 (nI 0)) fun X_1019 => (if (X_1019 0 25) = 0 then ((f_X6_copy X_1019 1 580 4 580 (nI 0) (nI 0)).bind fun q_1022 => (zlet (zU q_1022 0 7 (nI 1)) fun X_1024 => f_X6_perform_L124 (fun X_2031 v2_2030 => (zlet (zU X_2031 0 7 (nI 0)) fun X_2032 => (if v2_2030 = 0 then ((f_X6_copy X_2032 4 580 1 580 (nI 0) (nI 0)).bind fun q_2039 => (zlet (f_X6_fails q_2039 (nI 2)) fun q_2041 => some (q_2041.1, q_2041.2))) else ((f_X6_remembersRow X_2032 4 580).bind fun q_2035 => (zlet (f_X6_done q_2035 v1_1013) fun q_2037 => some (q_2037.1, q_2037.2)))))) v1_1013 zFuel X_1024 (nI 1) (nI 0))) else (zlet (zU X_1019 0 12 (X_1019 0 24)) fun X_2043 => (zlet (f_X6_fails X_2043 (nI 1)) fun q_2045 => some (q_2045.1, q_2045.2))))))) else (if ¬ (((X_1014 0 25) ||| (nI 1)) = 0 ∨ ((X_1014 0 25) ||| (nI 1)) = 1) then none else (zlet (zU X_1014 0 25 ((X_1014 0 25) ||| (nI 1))) fun X_2048 => (zlet (zU X_2048 0 11 (nI 0)) fun X_2050 => (if (X_2050 0 25) = 0 then ((f_X6_copy X_2050 1 580 4 580 (nI 0) (nI 0)).bind fun q_2053 => (zlet (zU q_2053 0 7 (nI 1)) fun X_2055 => f_X6_perform_L124 (fun X_2058 v2_2057 => (zlet (zU X_2058 0 7 (nI 0)) fun X_2059 => (if v2_2057 = 0 then ((f_X6_copy X_2059 4 580 1 580 (nI 0) (nI 0)).bind fun q_2066 => (zlet (f_X6_fails q_2066 (nI 2)) fun q_2068 => some (q_2068.1, q_2068.2))) else ((f_X6_remembersRow X_2059 4 580).bind fun q_2062 => (zlet (f_X6_done q_2062 v1_1013) fun q_2064 => some (q_2064.1, q_2064.2)))))) v1_1013 zFuel X_2055 (nI 1) (nI 0))) else (zlet (zU X_2050 0 12 (X_2050 0 24)) fun X_2070 => (zlet (f_X6_fails X_2070 (nI 1)) fun q_2072 => some (q_2072.1, q_2072.2))))))))) zFuel q_3 (nI 1)))
set_option maxRecDepth 100000 in
set_option maxHeartbeats 4000000 in
theorem c_X6_perform (l : Launch) (D : va_G) (cy : Nat → ClassId) (ad : Nat → Nat) (E : va_W) (X : Nat → Nat → Int32) {res : Int32 × (Nat → Nat → Int32)} (h : f_X6_perform X = some res) : zMt l yX6_perform cX6_perform 4 (some .int) (zrm 12) D (zTy cy) zEm (zW cy ad shM E X) [.ref (ad 0)] 0 0 (tI D (zTy cy) (fun r w => r = res.1 ∧ w = (zW cy ad shM E res.2))) := by
  refine zMt.of (by decide) (Nat.le_of_ble_eq_true rfl) ?_
  intro p e s m below meth c A C hr hE
  unfold f_X6_perform at h
  refine zG_L (L' := [(0, .ref (ad 0))]) rfl ?_
  refine g_aload_n (j := 0) C dX6_perform_0 rfl rfl ?_
  refine g_iconst (v := (nI 0)) C dX6_perform_1 (by decide) ?_
  refine g_puti (k := 24) (N := 27) (ty := .int) C sM_0 rfl zin_RX6 (by decide) rfl zfl_RX6_277 rfl tyX6_ok nmX6 rfl (by decide +kernel) rfl rfl dX6_perform_2 ?_
  obtain ⟨X_1, e_2, h⟩ := zlet_ex h
  rw [← e_2]
  refine g_aload_n (j := 0) C dX6_perform_5 rfl rfl ?_
  refine g_iconst (v := (nI 0)) C dX6_perform_6 (by decide) ?_
  obtain ⟨q_3, hq_4, h⟩ := bind_isome h
  refine t_Vv (As := [.int (nI 0)]) (rest := []) zEm_ge hE C (c_X6_readsCommand l D cy ad E X_1 (nI 0) hq_4) zml_RX6_324 zcv_X6_readsCommand (zRec.of C rfl (zW_get X_1 sM_0)) rfl rfl ⟨Nat.le_of_ble_eq_true rfl, Nat.le_of_ble_eq_true rfl⟩ rfl rfl (Nat.le_of_ble_eq_true rfl) ⟨Nat.zero_le _, Nat.zero_le _⟩ dX6_perform_7 ?_
  intro w h9
  obtain rfl := h9
  refine g_iconst (v := (nI 1)) C dX6_perform_10 (by decide) ?_
  refine g_istore_n (L' := [(1, .int (nI 1)), (0, .ref (ad 0))]) C dX6_perform_11 rfl (by decide) rfl ?_
  refine zG_sub (L' := [(0, .ref (ad 0)), (1, .int (nI 1))]) [1, 0] rfl ?_
  refine w_X6_perform_L12 l D cy ad E _ C hE hr zFuel q_3 (nI 1) h ?_
  intro X_1014 v1_1013 h
  refine g_aload_n (j := 0) C dX6_perform_51 rfl rfl ?_
  refine g_dup C dX6_perform_52 rfl ?_
  refine g_geti (k := 25) (N := 27) C sM_0 rfl zin_RX6 (by decide) rfl zfl_RX6_296 rfl dX6_perform_53 ?_
  refine g_aload_n (j := 0) C dX6_perform_56 rfl rfl ?_
  refine g_geti (k := 24) (N := 27) C sM_0 rfl zin_RX6 (by decide) rfl zfl_RX6_277 rfl dX6_perform_57 ?_
  refine g_aload_n (j := 0) C dX6_perform_60 rfl rfl ?_
  refine g_geti (k := 11) (N := 27) C sM_0 rfl zin_RX6 (by decide) rfl zfl_RX6_274 rfl dX6_perform_61 ?_
  refine g_icmp_ge C dX6_perform_64 (tgt := 71) (by decide) (fun hc_1015 => ?_) (fun hc_1015 => ?_)
  · replace h := (if_pos hc_1015).symm.trans h
    refine g_iconst (v := (nI 0)) C dX6_perform_71 (by decide) ?_
    refine g_ior C dX6_perform_72 ?_
    obtain ⟨hg_1016, h⟩ := ite_inone h
    refine g_puti (k := 25) (N := 27) (ty := .boolean) C sM_0 rfl zin_RX6 (by decide) rfl zfl_RX6_296 rfl tyX6_ok nmX6 rfl (by decide +kernel) (z_nb (Decidable.not_not.mp hg_1016)) (z_fb (Decidable.not_not.mp hg_1016)) dX6_perform_73 ?_
    obtain ⟨X_1017, e_1018, h⟩ := zlet_ex h
    rw [← e_1018]
    refine g_aload_n (j := 0) C dX6_perform_76 rfl rfl ?_
    refine g_iconst (v := (nI 0)) C dX6_perform_77 (by decide) ?_
    refine g_puti (k := 11) (N := 27) (ty := .int) C sM_0 rfl zin_RX6 (by decide) rfl zfl_RX6_274 rfl tyX6_ok nmX6 rfl (by decide +kernel) rfl rfl dX6_perform_78 ?_
    obtain ⟨X_1019, e_1020, h⟩ := zlet_ex h
    rw [← e_1020]
    refine g_aload_n (j := 0) C dX6_perform_81 rfl rfl ?_
    refine g_geti (k := 25) (N := 27) C sM_0 rfl zin_RX6 (by decide) rfl zfl_RX6_296 rfl dX6_perform_82 ?_
    refine g_if_eq C dX6_perform_85 (tgt := 102) (by decide) (fun hc_1021 => ?_) (fun hc_1021 => ?_)
    · replace h := (if_pos hc_1021).symm.trans h
      refine g_aload_n (j := 0) C dX6_perform_102 rfl rfl ?_
      refine g_getr (k := 1) (N := 27) C sM_0 rfl zin_RX6 (by decide) rfl zfl_RX6_9 rfl dX6_perform_103 ?_
      refine g_iconst (v := (nI 0)) C dX6_perform_106 (by decide) ?_
      refine g_aload_n (j := 0) C dX6_perform_107 rfl rfl ?_
      refine g_getr (k := 6) (N := 27) C sM_0 rfl zin_RX6 (by decide) rfl zfl_RX6_19 rfl dX6_perform_108 ?_
      refine g_iconst (v := (nI 0)) C dX6_perform_111 (by decide) ?_
      obtain ⟨q_1022, hq_1023, h⟩ := bind_isome h
      refine g_sv (ws' := (zW cy ad shM E q_1022)) (As := [.ref (ad 1), .int (nI 0), .ref (ad 4), .int (nI 0)]) (rest := []) C (c_X6_copy l D cy ad E X_1019 1 580 4 580 sM_1 (by decide) sM_4 (by decide) (nI 0) (nI 0) hq_1023) zml_RX6_52 zcs_X6_copy rfl rfl ⟨Nat.le_of_ble_eq_true rfl, Nat.le_of_ble_eq_true rfl⟩ rfl rfl (Nat.le_of_ble_eq_true rfl) ⟨Nat.zero_le _, Nat.zero_le _⟩ dX6_perform_112 ?_
      refine g_aload_n (j := 0) C dX6_perform_115 rfl rfl ?_
      refine g_iconst (v := (nI 1)) C dX6_perform_116 (by decide) ?_
      refine g_puti (k := 7) (N := 27) (ty := .boolean) C sM_0 rfl zin_RX6 (by decide) rfl zfl_RX6_56 rfl tyX6_ok nmX6 rfl (by decide +kernel) (z_nb (Or.inr rfl)) (z_fb (Or.inr rfl)) dX6_perform_117 ?_
      obtain ⟨X_1024, e_1025, h⟩ := zlet_ex h
      rw [← e_1025]
      refine g_iconst (v := (nI 1)) C dX6_perform_120 (by decide) ?_
      refine g_istore_n (L' := [(2, .int (nI 1)), (0, .ref (ad 0)), (1, .int v1_1013)]) C dX6_perform_121 rfl (by decide) rfl ?_
      refine g_iconst (v := (nI 0)) C dX6_perform_122 (by decide) ?_
      refine g_istore_n (L' := [(3, .int (nI 0)), (2, .int (nI 1)), (0, .ref (ad 0)), (1, .int v1_1013)]) C dX6_perform_123 rfl (by decide) rfl ?_
      refine zG_sub (L' := [(0, .ref (ad 0)), (1, .int v1_1013), (2, .int (nI 1)), (3, .int (nI 0))]) [2, 3, 1, 0] rfl ?_
      refine w_X6_perform_L124 l D cy ad E _ v1_1013 C hE hr zFuel X_1024 (nI 1) (nI 0) h ?_
      intro X_2031 v2_2030 h
      refine g_aload_n (j := 0) C dX6_perform_147 rfl rfl ?_
      refine g_iconst (v := (nI 0)) C dX6_perform_148 (by decide) ?_
      refine g_puti (k := 7) (N := 27) (ty := .boolean) C sM_0 rfl zin_RX6 (by decide) rfl zfl_RX6_56 rfl tyX6_ok nmX6 rfl (by decide +kernel) (z_nb (Or.inl rfl)) (z_fb (Or.inl rfl)) dX6_perform_149 ?_
      obtain ⟨X_2032, e_2033, h⟩ := zlet_ex h
      rw [← e_2033]
      refine g_iload_n (j := 2) C dX6_perform_152 rfl rfl ?_
      refine g_if_ne C dX6_perform_153 (tgt := 175) (by decide) (fun hc_2034 => ?_) (fun hc_2034 => ?_)
      · replace h := (if_neg hc_2034).symm.trans h
        refine g_aload_n (j := 0) C dX6_perform_175 rfl rfl ?_
        refine g_aload_n (j := 0) C dX6_perform_176 rfl rfl ?_
        refine g_getr (k := 6) (N := 27) C sM_0 rfl zin_RX6 (by decide) rfl zfl_RX6_19 rfl dX6_perform_177 ?_
        obtain ⟨q_2035, hq_2036, h⟩ := bind_isome h
        refine g_vv (ws' := (zW cy ad shM E q_2035)) (As := [.ref (ad 4)]) (rest := []) C (c_X6_remembersRow l D cy ad E X_2032 4 580 sM_4 (by decide) hq_2036) zml_RX6_60 zcv_X6_remembersRow (zW_get X_2032 sM_0) rfl rfl rfl ⟨Nat.le_of_ble_eq_true rfl, Nat.le_of_ble_eq_true rfl⟩ rfl rfl (Nat.le_of_ble_eq_true rfl) ⟨Nat.zero_le _, Nat.zero_le _⟩ dX6_perform_180 ?_
        refine g_aload_n (j := 0) C dX6_perform_183 rfl rfl ?_
        refine g_iload_n (j := 1) C dX6_perform_184 rfl rfl ?_
        obtain ⟨q_2037, e_2038, h⟩ := zlet_ex h
        refine g_vi (ws' := (zW cy ad shM E q_2037.2)) (As := [.int v1_1013]) (rest := []) (res := q_2037.1) C ((by rw [e_2038]; exact c_X6_done l D cy ad E q_2035 v1_1013)) zml_RX6_71 zcv_X6_done (zW_get q_2035 sM_0) rfl rfl rfl ⟨Nat.le_of_ble_eq_true rfl, Nat.le_of_ble_eq_true rfl⟩ rfl rfl (Nat.le_of_ble_eq_true rfl) ⟨Nat.zero_le _, Nat.zero_le _⟩ dX6_perform_185 ?_
        obtain rfl := Option.some.inj h
        exact t_iret C hr rfl ⟨rfl, rfl⟩ (Nat.le_refl _) (Nat.le_refl _) dX6_perform_188
      · replace h := (if_pos hc_2034).symm.trans h
        refine g_aload_n (j := 0) C dX6_perform_156 rfl rfl ?_
        refine g_getr (k := 6) (N := 27) C sM_0 rfl zin_RX6 (by decide) rfl zfl_RX6_19 rfl dX6_perform_157 ?_
        refine g_iconst (v := (nI 0)) C dX6_perform_160 (by decide) ?_
        refine g_aload_n (j := 0) C dX6_perform_161 rfl rfl ?_
        refine g_getr (k := 1) (N := 27) C sM_0 rfl zin_RX6 (by decide) rfl zfl_RX6_9 rfl dX6_perform_162 ?_
        refine g_iconst (v := (nI 0)) C dX6_perform_165 (by decide) ?_
        obtain ⟨q_2039, hq_2040, h⟩ := bind_isome h
        refine g_sv (ws' := (zW cy ad shM E q_2039)) (As := [.ref (ad 4), .int (nI 0), .ref (ad 1), .int (nI 0)]) (rest := []) C (c_X6_copy l D cy ad E X_2032 4 580 1 580 sM_4 (by decide) sM_1 (by decide) (nI 0) (nI 0) hq_2040) zml_RX6_52 zcs_X6_copy rfl rfl ⟨Nat.le_of_ble_eq_true rfl, Nat.le_of_ble_eq_true rfl⟩ rfl rfl (Nat.le_of_ble_eq_true rfl) ⟨Nat.zero_le _, Nat.zero_le _⟩ dX6_perform_166 ?_
        refine g_aload_n (j := 0) C dX6_perform_169 rfl rfl ?_
        refine g_iconst (v := (nI 2)) C dX6_perform_170 (by decide) ?_
        obtain ⟨q_2041, e_2042, h⟩ := zlet_ex h
        refine g_vi (ws' := (zW cy ad shM E q_2041.2)) (As := [.int (nI 2)]) (rest := []) (res := q_2041.1) C ((by rw [e_2042]; exact c_X6_fails l D cy ad E q_2039 (nI 2))) zml_RX6_45 zcv_X6_fails (zW_get q_2039 sM_0) rfl rfl rfl ⟨Nat.le_of_ble_eq_true rfl, Nat.le_of_ble_eq_true rfl⟩ rfl rfl (Nat.le_of_ble_eq_true rfl) ⟨Nat.zero_le _, Nat.zero_le _⟩ dX6_perform_171 ?_
        obtain rfl := Option.some.inj h
        exact t_iret C hr rfl ⟨rfl, rfl⟩ (Nat.le_refl _) (Nat.le_refl _) dX6_perform_174
    · replace h := (if_neg hc_1021).symm.trans h
      refine g_aload_n (j := 0) C dX6_perform_88 rfl rfl ?_
      refine g_aload_n (j := 0) C dX6_perform_89 rfl rfl ?_
      refine g_geti (k := 24) (N := 27) C sM_0 rfl zin_RX6 (by decide) rfl zfl_RX6_277 rfl dX6_perform_90 ?_
      refine g_puti (k := 12) (N := 27) (ty := .int) C sM_0 rfl zin_RX6 (by decide) rfl zfl_RX6_26 rfl tyX6_ok nmX6 rfl (by decide +kernel) rfl rfl dX6_perform_93 ?_
      obtain ⟨X_2043, e_2044, h⟩ := zlet_ex h
      rw [← e_2044]
      refine g_aload_n (j := 0) C dX6_perform_96 rfl rfl ?_
      refine g_iconst (v := (nI 1)) C dX6_perform_97 (by decide) ?_
      obtain ⟨q_2045, e_2046, h⟩ := zlet_ex h
      refine g_vi (ws' := (zW cy ad shM E q_2045.2)) (As := [.int (nI 1)]) (rest := []) (res := q_2045.1) C ((by rw [e_2046]; exact c_X6_fails l D cy ad E X_2043 (nI 1))) zml_RX6_45 zcv_X6_fails (zW_get X_2043 sM_0) rfl rfl rfl ⟨Nat.le_of_ble_eq_true rfl, Nat.le_of_ble_eq_true rfl⟩ rfl rfl (Nat.le_of_ble_eq_true rfl) ⟨Nat.zero_le _, Nat.zero_le _⟩ dX6_perform_98 ?_
      obtain rfl := Option.some.inj h
      exact t_iret C hr rfl ⟨rfl, rfl⟩ (Nat.le_refl _) (Nat.le_refl _) dX6_perform_101
  · replace h := (if_neg hc_1015).symm.trans h
    refine g_iconst (v := (nI 1)) C dX6_perform_67 (by decide) ?_
    refine g_goto C dX6_perform_68 (tgt := 72) (by decide) ?_
    refine g_ior C dX6_perform_72 ?_
    obtain ⟨hg_2047, h⟩ := ite_inone h
    refine g_puti (k := 25) (N := 27) (ty := .boolean) C sM_0 rfl zin_RX6 (by decide) rfl zfl_RX6_296 rfl tyX6_ok nmX6 rfl (by decide +kernel) (z_nb (Decidable.not_not.mp hg_2047)) (z_fb (Decidable.not_not.mp hg_2047)) dX6_perform_73 ?_
    obtain ⟨X_2048, e_2049, h⟩ := zlet_ex h
    rw [← e_2049]
    refine g_aload_n (j := 0) C dX6_perform_76 rfl rfl ?_
    refine g_iconst (v := (nI 0)) C dX6_perform_77 (by decide) ?_
    refine g_puti (k := 11) (N := 27) (ty := .int) C sM_0 rfl zin_RX6 (by decide) rfl zfl_RX6_274 rfl tyX6_ok nmX6 rfl (by decide +kernel) rfl rfl dX6_perform_78 ?_
    obtain ⟨X_2050, e_2051, h⟩ := zlet_ex h
    rw [← e_2051]
    refine g_aload_n (j := 0) C dX6_perform_81 rfl rfl ?_
    refine g_geti (k := 25) (N := 27) C sM_0 rfl zin_RX6 (by decide) rfl zfl_RX6_296 rfl dX6_perform_82 ?_
    refine g_if_eq C dX6_perform_85 (tgt := 102) (by decide) (fun hc_2052 => ?_) (fun hc_2052 => ?_)
    · replace h := (if_pos hc_2052).symm.trans h
      refine g_aload_n (j := 0) C dX6_perform_102 rfl rfl ?_
      refine g_getr (k := 1) (N := 27) C sM_0 rfl zin_RX6 (by decide) rfl zfl_RX6_9 rfl dX6_perform_103 ?_
      refine g_iconst (v := (nI 0)) C dX6_perform_106 (by decide) ?_
      refine g_aload_n (j := 0) C dX6_perform_107 rfl rfl ?_
      refine g_getr (k := 6) (N := 27) C sM_0 rfl zin_RX6 (by decide) rfl zfl_RX6_19 rfl dX6_perform_108 ?_
      refine g_iconst (v := (nI 0)) C dX6_perform_111 (by decide) ?_
      obtain ⟨q_2053, hq_2054, h⟩ := bind_isome h
      refine g_sv (ws' := (zW cy ad shM E q_2053)) (As := [.ref (ad 1), .int (nI 0), .ref (ad 4), .int (nI 0)]) (rest := []) C (c_X6_copy l D cy ad E X_2050 1 580 4 580 sM_1 (by decide) sM_4 (by decide) (nI 0) (nI 0) hq_2054) zml_RX6_52 zcs_X6_copy rfl rfl ⟨Nat.le_of_ble_eq_true rfl, Nat.le_of_ble_eq_true rfl⟩ rfl rfl (Nat.le_of_ble_eq_true rfl) ⟨Nat.zero_le _, Nat.zero_le _⟩ dX6_perform_112 ?_
      refine g_aload_n (j := 0) C dX6_perform_115 rfl rfl ?_
      refine g_iconst (v := (nI 1)) C dX6_perform_116 (by decide) ?_
      refine g_puti (k := 7) (N := 27) (ty := .boolean) C sM_0 rfl zin_RX6 (by decide) rfl zfl_RX6_56 rfl tyX6_ok nmX6 rfl (by decide +kernel) (z_nb (Or.inr rfl)) (z_fb (Or.inr rfl)) dX6_perform_117 ?_
      obtain ⟨X_2055, e_2056, h⟩ := zlet_ex h
      rw [← e_2056]
      refine g_iconst (v := (nI 1)) C dX6_perform_120 (by decide) ?_
      refine g_istore_n (L' := [(2, .int (nI 1)), (0, .ref (ad 0)), (1, .int v1_1013)]) C dX6_perform_121 rfl (by decide) rfl ?_
      refine g_iconst (v := (nI 0)) C dX6_perform_122 (by decide) ?_
      refine g_istore_n (L' := [(3, .int (nI 0)), (2, .int (nI 1)), (0, .ref (ad 0)), (1, .int v1_1013)]) C dX6_perform_123 rfl (by decide) rfl ?_
      refine zG_sub (L' := [(0, .ref (ad 0)), (1, .int v1_1013), (2, .int (nI 1)), (3, .int (nI 0))]) [2, 3, 1, 0] rfl ?_
      refine w_X6_perform_L124 l D cy ad E _ v1_1013 C hE hr zFuel X_2055 (nI 1) (nI 0) h ?_
      intro X_2058 v2_2057 h
      refine g_aload_n (j := 0) C dX6_perform_147 rfl rfl ?_
      refine g_iconst (v := (nI 0)) C dX6_perform_148 (by decide) ?_
      refine g_puti (k := 7) (N := 27) (ty := .boolean) C sM_0 rfl zin_RX6 (by decide) rfl zfl_RX6_56 rfl tyX6_ok nmX6 rfl (by decide +kernel) (z_nb (Or.inl rfl)) (z_fb (Or.inl rfl)) dX6_perform_149 ?_
      obtain ⟨X_2059, e_2060, h⟩ := zlet_ex h
      rw [← e_2060]
      refine g_iload_n (j := 2) C dX6_perform_152 rfl rfl ?_
      refine g_if_ne C dX6_perform_153 (tgt := 175) (by decide) (fun hc_2061 => ?_) (fun hc_2061 => ?_)
      · replace h := (if_neg hc_2061).symm.trans h
        refine g_aload_n (j := 0) C dX6_perform_175 rfl rfl ?_
        refine g_aload_n (j := 0) C dX6_perform_176 rfl rfl ?_
        refine g_getr (k := 6) (N := 27) C sM_0 rfl zin_RX6 (by decide) rfl zfl_RX6_19 rfl dX6_perform_177 ?_
        obtain ⟨q_2062, hq_2063, h⟩ := bind_isome h
        refine g_vv (ws' := (zW cy ad shM E q_2062)) (As := [.ref (ad 4)]) (rest := []) C (c_X6_remembersRow l D cy ad E X_2059 4 580 sM_4 (by decide) hq_2063) zml_RX6_60 zcv_X6_remembersRow (zW_get X_2059 sM_0) rfl rfl rfl ⟨Nat.le_of_ble_eq_true rfl, Nat.le_of_ble_eq_true rfl⟩ rfl rfl (Nat.le_of_ble_eq_true rfl) ⟨Nat.zero_le _, Nat.zero_le _⟩ dX6_perform_180 ?_
        refine g_aload_n (j := 0) C dX6_perform_183 rfl rfl ?_
        refine g_iload_n (j := 1) C dX6_perform_184 rfl rfl ?_
        obtain ⟨q_2064, e_2065, h⟩ := zlet_ex h
        refine g_vi (ws' := (zW cy ad shM E q_2064.2)) (As := [.int v1_1013]) (rest := []) (res := q_2064.1) C ((by rw [e_2065]; exact c_X6_done l D cy ad E q_2062 v1_1013)) zml_RX6_71 zcv_X6_done (zW_get q_2062 sM_0) rfl rfl rfl ⟨Nat.le_of_ble_eq_true rfl, Nat.le_of_ble_eq_true rfl⟩ rfl rfl (Nat.le_of_ble_eq_true rfl) ⟨Nat.zero_le _, Nat.zero_le _⟩ dX6_perform_185 ?_
        obtain rfl := Option.some.inj h
        exact t_iret C hr rfl ⟨rfl, rfl⟩ (Nat.le_refl _) (Nat.le_refl _) dX6_perform_188
      · replace h := (if_pos hc_2061).symm.trans h
        refine g_aload_n (j := 0) C dX6_perform_156 rfl rfl ?_
        refine g_getr (k := 6) (N := 27) C sM_0 rfl zin_RX6 (by decide) rfl zfl_RX6_19 rfl dX6_perform_157 ?_
        refine g_iconst (v := (nI 0)) C dX6_perform_160 (by decide) ?_
        refine g_aload_n (j := 0) C dX6_perform_161 rfl rfl ?_
        refine g_getr (k := 1) (N := 27) C sM_0 rfl zin_RX6 (by decide) rfl zfl_RX6_9 rfl dX6_perform_162 ?_
        refine g_iconst (v := (nI 0)) C dX6_perform_165 (by decide) ?_
        obtain ⟨q_2066, hq_2067, h⟩ := bind_isome h
        refine g_sv (ws' := (zW cy ad shM E q_2066)) (As := [.ref (ad 4), .int (nI 0), .ref (ad 1), .int (nI 0)]) (rest := []) C (c_X6_copy l D cy ad E X_2059 4 580 1 580 sM_4 (by decide) sM_1 (by decide) (nI 0) (nI 0) hq_2067) zml_RX6_52 zcs_X6_copy rfl rfl ⟨Nat.le_of_ble_eq_true rfl, Nat.le_of_ble_eq_true rfl⟩ rfl rfl (Nat.le_of_ble_eq_true rfl) ⟨Nat.zero_le _, Nat.zero_le _⟩ dX6_perform_166 ?_
        refine g_aload_n (j := 0) C dX6_perform_169 rfl rfl ?_
        refine g_iconst (v := (nI 2)) C dX6_perform_170 (by decide) ?_
        obtain ⟨q_2068, e_2069, h⟩ := zlet_ex h
        refine g_vi (ws' := (zW cy ad shM E q_2068.2)) (As := [.int (nI 2)]) (rest := []) (res := q_2068.1) C ((by rw [e_2069]; exact c_X6_fails l D cy ad E q_2066 (nI 2))) zml_RX6_45 zcv_X6_fails (zW_get q_2066 sM_0) rfl rfl rfl ⟨Nat.le_of_ble_eq_true rfl, Nat.le_of_ble_eq_true rfl⟩ rfl rfl (Nat.le_of_ble_eq_true rfl) ⟨Nat.zero_le _, Nat.zero_le _⟩ dX6_perform_171 ?_
        obtain rfl := Option.some.inj h
        exact t_iret C hr rfl ⟨rfl, rfl⟩ (Nat.le_refl _) (Nat.le_refl _) dX6_perform_174
    · replace h := (if_neg hc_2052).symm.trans h
      refine g_aload_n (j := 0) C dX6_perform_88 rfl rfl ?_
      refine g_aload_n (j := 0) C dX6_perform_89 rfl rfl ?_
      refine g_geti (k := 24) (N := 27) C sM_0 rfl zin_RX6 (by decide) rfl zfl_RX6_277 rfl dX6_perform_90 ?_
      refine g_puti (k := 12) (N := 27) (ty := .int) C sM_0 rfl zin_RX6 (by decide) rfl zfl_RX6_26 rfl tyX6_ok nmX6 rfl (by decide +kernel) rfl rfl dX6_perform_93 ?_
      obtain ⟨X_2070, e_2071, h⟩ := zlet_ex h
      rw [← e_2071]
      refine g_aload_n (j := 0) C dX6_perform_96 rfl rfl ?_
      refine g_iconst (v := (nI 1)) C dX6_perform_97 (by decide) ?_
      obtain ⟨q_2072, e_2073, h⟩ := zlet_ex h
      refine g_vi (ws' := (zW cy ad shM E q_2072.2)) (As := [.int (nI 1)]) (rest := []) (res := q_2072.1) C ((by rw [e_2073]; exact c_X6_fails l D cy ad E X_2070 (nI 1))) zml_RX6_45 zcv_X6_fails (zW_get X_2070 sM_0) rfl rfl rfl ⟨Nat.le_of_ble_eq_true rfl, Nat.le_of_ble_eq_true rfl⟩ rfl rfl (Nat.le_of_ble_eq_true rfl) ⟨Nat.zero_le _, Nat.zero_le _⟩ dX6_perform_98 ?_
      obtain rfl := Option.some.inj h
      exact t_iret C hr rfl ⟨rfl, rfl⟩ (Nat.le_refl _) (Nat.le_refl _) dX6_perform_101
def f_X6_write_L67 (k : (Nat → Nat → Int32) → Option (Int32 × (Nat → Nat → Int32))) (v1 : Int32) (v2 : Int32) : Nat → (Nat → Nat → Int32) → Int32 → Option (Int32 × (Nat → Nat → Int32))
  | 0, _, _ => none
  | fu + 1, X, v3 => (if v3 = (-1 : Int32) then k X else ((f_X6_showAt X v3 (nI 3)).bind fun q_1012 => ((f_X6_writesNumber X q_1012).bind fun q_1014 => ((f_X6_writesLetter q_1014 (nI 45)).bind fun q_1016 => ((f_X6_endOf q_1016 v3).bind fun q_1018 => ((f_X6_writesNumber q_1016 q_1018).bind fun q_1020 => ((f_X6_writesWord zT449 q_1020).bind fun X_1025 => ((f_X6_showAt X_1025 v3 (nI 1)).bind fun q_1027 => ((f_X6_writesNumber X_1025 q_1027).bind fun q_1029 => ((f_X6_writesLetter q_1029 (nI 32)).bind fun q_1031 => ((f_X6_showAt q_1031 v3 (nI 7)).bind fun q_1033 => ((f_X6_writesNumber q_1031 q_1033).bind fun q_1035 => ((f_X6_writesLetter q_1035 (nI 47)).bind fun q_1037 => ((f_X6_hallAt q_1037 v1 (nI 0)).bind fun q_1039 => ((f_X6_writesNumber q_1037 q_1039).bind fun q_1041 => ((f_X6_showAt q_1041 v3 (nI 3)).bind fun q_1043 => ((f_X6_nextShow q_1041 v1 v2 q_1043).bind fun q_1045 => (if q_1045 = (-1 : Int32) then k q_1041 else ((f_X6_writesWord zT359 q_1041).bind fun X_1051 => f_X6_write_L67 k v1 v2 fu X_1051 q_1045)))))))))))))))))))
set_option maxRecDepth 100000 in
set_option maxHeartbeats 4000000 in
theorem w_X6_write_L67 {p : Program} {e : Env} {s : State} {m : MethodId} {args : Array Value} {below : List Frame} {meth : Method} {c : Code} {A : Nat → Prop} (l : Launch) (D : va_G) (cy : Nat → ClassId) (ad : Nat → Nat) (E : va_W) (k : (Nat → Nat → Int32) → Option (Int32 × (Nat → Nat → Int32))) (v1 : Int32) (v2 : Int32) {res : Int32 × (Nat → Nat → Int32)} (C : zC p s m args meth c cX6_write 4 RX6 D (zTy cy) A) (hE : zEm A s s.heap) (hr : meth.sig.returnType = (some .int)) : ∀ (fu : Nat) (X : Nat → Nat → Int32) (v3 : Int32) (h : f_X6_write_L67 k v1 v2 fu X v3 = some res) (hk : ∀ (X : Nat → Nat → Int32), k X = some res → zG p l e (zrm 6) s m args below meth c 4 D A 0 0 (MQ below (tI D (zTy cy) (fun r w => r = res.1 ∧ w = (zW cy ad shM E res.2)) A) args s 0 0 A) (zW cy ad shM E X) 175 [(0, .ref (ad 0))] []), zG p l e (zrm 6) s m args below meth c 4 D A 0 0 (MQ below (tI D (zTy cy) (fun r w => r = res.1 ∧ w = (zW cy ad shM E res.2)) A) args s 0 0 A) (zW cy ad shM E X) 67 [(0, .ref (ad 0)), (1, .int v1), (2, .int v2), (3, .int v3)] [] := by
  intro fu
  induction fu with
  | zero => intro X v3 h hk; simp [f_X6_write_L67] at h
  | succ fu ih =>
    intro X v3 h hk
    rw [f_X6_write_L67] at h
    refine g_iload_n (j := 3) C dX6_write_67 rfl rfl ?_
    refine g_iconst (v := (-1 : Int32)) C dX6_write_68 (by decide) ?_
    refine g_icmp_eq C dX6_write_69 (tgt := 175) (by decide) (fun hc_1011 => ?_) (fun hc_1011 => ?_)
    · replace h := (if_pos hc_1011).symm.trans h
      refine zG_sub (L' := [(0, .ref (ad 0))]) [0] rfl ?_
      exact hk X h
    · replace h := (if_neg hc_1011).symm.trans h
      refine g_aload_n (j := 0) C dX6_write_72 rfl rfl ?_
      refine g_aload_n (j := 0) C dX6_write_73 rfl rfl ?_
      refine g_iload_n (j := 3) C dX6_write_74 rfl rfl ?_
      refine g_iconst (v := (nI 3)) C dX6_write_75 (by decide) ?_
      obtain ⟨q_1012, hq_1013, h⟩ := bind_isome h
      refine g_vi (ws' := (zW cy ad shM E X)) (As := [.int v3, .int (nI 3)]) (rest := [.ref (ad 0)]) (res := q_1012) C (c_X6_showAt l D cy ad E X v3 (nI 3) hq_1013) zml_RX6_89 zcv_X6_showAt (zW_get X sM_0) rfl rfl rfl ⟨Nat.le_of_ble_eq_true rfl, Nat.le_of_ble_eq_true rfl⟩ rfl rfl (Nat.le_of_ble_eq_true rfl) ⟨Nat.zero_le _, Nat.zero_le _⟩ dX6_write_76 ?_
      obtain ⟨q_1014, hq_1015, h⟩ := bind_isome h
      refine g_vv (ws' := (zW cy ad shM E q_1014)) (As := [.int q_1012]) (rest := []) C (c_X6_writesNumber l D cy ad E X q_1012 hq_1015) zml_RX6_266 zcv_X6_writesNumber (zW_get X sM_0) rfl rfl rfl ⟨Nat.le_of_ble_eq_true rfl, Nat.le_of_ble_eq_true rfl⟩ rfl rfl (Nat.le_of_ble_eq_true rfl) ⟨Nat.zero_le _, Nat.zero_le _⟩ dX6_write_79 ?_
      refine g_aload_n (j := 0) C dX6_write_82 rfl rfl ?_
      refine g_bipush (v := (nI 45)) C dX6_write_83 (by decide) ?_
      obtain ⟨q_1016, hq_1017, h⟩ := bind_isome h
      refine g_vv (ws' := (zW cy ad shM E q_1016)) (As := [.int (nI 45)]) (rest := []) C (c_X6_writesLetter l D cy ad E q_1014 (nI 45) hq_1017) zml_RX6_251 zcv_X6_writesLetter (zW_get q_1014 sM_0) rfl rfl rfl ⟨Nat.le_of_ble_eq_true rfl, Nat.le_of_ble_eq_true rfl⟩ rfl rfl (Nat.le_of_ble_eq_true rfl) ⟨Nat.zero_le _, Nat.zero_le _⟩ dX6_write_85 ?_
      refine g_aload_n (j := 0) C dX6_write_88 rfl rfl ?_
      refine g_aload_n (j := 0) C dX6_write_89 rfl rfl ?_
      refine g_iload_n (j := 3) C dX6_write_90 rfl rfl ?_
      obtain ⟨q_1018, hq_1019, h⟩ := bind_isome h
      refine g_vi (ws' := (zW cy ad shM E q_1016)) (As := [.int v3]) (rest := [.ref (ad 0)]) (res := q_1018) C (c_X6_endOf l D cy ad E q_1016 v3 hq_1019) zml_RX6_151 zcv_X6_endOf (zW_get q_1016 sM_0) rfl rfl rfl ⟨Nat.le_of_ble_eq_true rfl, Nat.le_of_ble_eq_true rfl⟩ rfl rfl (Nat.le_of_ble_eq_true rfl) ⟨Nat.zero_le _, Nat.zero_le _⟩ dX6_write_91 ?_
      obtain ⟨q_1020, hq_1021, h⟩ := bind_isome h
      refine g_vv (ws' := (zW cy ad shM E q_1020)) (As := [.int q_1018]) (rest := []) C (c_X6_writesNumber l D cy ad E q_1016 q_1018 hq_1021) zml_RX6_266 zcv_X6_writesNumber (zW_get q_1016 sM_0) rfl rfl rfl ⟨Nat.le_of_ble_eq_true rfl, Nat.le_of_ble_eq_true rfl⟩ rfl rfl (Nat.le_of_ble_eq_true rfl) ⟨Nat.zero_le _, Nat.zero_le _⟩ dX6_write_94 ?_
      refine g_aload_n (j := 0) C dX6_write_97 rfl rfl ?_
      obtain ⟨aW_1022, hW_1023, hS_1024⟩ := hE.2.1.2.2.1
      refine p_ldcSW C hW_1023 dX6_write_98 ?_
      obtain ⟨X_1025, hq_1026, h⟩ := bind_isome h
      refine t_Vv (As := [.ref aW_1022]) (rest := []) (zES_ge _ _) ⟨hE.1, hS_1024⟩ C (c_X6_writesWord l D cy ad E q_1020 aW_1022 zT449 (by decide) hq_1026) zml_RX6_257 zcv_X6_writesWord (zRec.of C rfl (zW_get q_1020 sM_0)) rfl rfl ⟨Nat.le_of_ble_eq_true rfl, Nat.le_of_ble_eq_true rfl⟩ rfl rfl (Nat.le_of_ble_eq_true rfl) ⟨Nat.zero_le _, Nat.zero_le _⟩ dX6_write_101 ?_
      intro w h9
      obtain rfl := h9
      refine g_aload_n (j := 0) C dX6_write_104 rfl rfl ?_
      refine g_aload_n (j := 0) C dX6_write_105 rfl rfl ?_
      refine g_iload_n (j := 3) C dX6_write_106 rfl rfl ?_
      refine g_iconst (v := (nI 1)) C dX6_write_107 (by decide) ?_
      obtain ⟨q_1027, hq_1028, h⟩ := bind_isome h
      refine g_vi (ws' := (zW cy ad shM E X_1025)) (As := [.int v3, .int (nI 1)]) (rest := [.ref (ad 0)]) (res := q_1027) C (c_X6_showAt l D cy ad E X_1025 v3 (nI 1) hq_1028) zml_RX6_89 zcv_X6_showAt (zW_get X_1025 sM_0) rfl rfl rfl ⟨Nat.le_of_ble_eq_true rfl, Nat.le_of_ble_eq_true rfl⟩ rfl rfl (Nat.le_of_ble_eq_true rfl) ⟨Nat.zero_le _, Nat.zero_le _⟩ dX6_write_108 ?_
      obtain ⟨q_1029, hq_1030, h⟩ := bind_isome h
      refine g_vv (ws' := (zW cy ad shM E q_1029)) (As := [.int q_1027]) (rest := []) C (c_X6_writesNumber l D cy ad E X_1025 q_1027 hq_1030) zml_RX6_266 zcv_X6_writesNumber (zW_get X_1025 sM_0) rfl rfl rfl ⟨Nat.le_of_ble_eq_true rfl, Nat.le_of_ble_eq_true rfl⟩ rfl rfl (Nat.le_of_ble_eq_true rfl) ⟨Nat.zero_le _, Nat.zero_le _⟩ dX6_write_111 ?_
      refine g_aload_n (j := 0) C dX6_write_114 rfl rfl ?_
      refine g_bipush (v := (nI 32)) C dX6_write_115 (by decide) ?_
      obtain ⟨q_1031, hq_1032, h⟩ := bind_isome h
      refine g_vv (ws' := (zW cy ad shM E q_1031)) (As := [.int (nI 32)]) (rest := []) C (c_X6_writesLetter l D cy ad E q_1029 (nI 32) hq_1032) zml_RX6_251 zcv_X6_writesLetter (zW_get q_1029 sM_0) rfl rfl rfl ⟨Nat.le_of_ble_eq_true rfl, Nat.le_of_ble_eq_true rfl⟩ rfl rfl (Nat.le_of_ble_eq_true rfl) ⟨Nat.zero_le _, Nat.zero_le _⟩ dX6_write_117 ?_
      refine g_aload_n (j := 0) C dX6_write_120 rfl rfl ?_
      refine g_aload_n (j := 0) C dX6_write_121 rfl rfl ?_
      refine g_iload_n (j := 3) C dX6_write_122 rfl rfl ?_
      refine g_bipush (v := (nI 7)) C dX6_write_123 (by decide) ?_
      obtain ⟨q_1033, hq_1034, h⟩ := bind_isome h
      refine g_vi (ws' := (zW cy ad shM E q_1031)) (As := [.int v3, .int (nI 7)]) (rest := [.ref (ad 0)]) (res := q_1033) C (c_X6_showAt l D cy ad E q_1031 v3 (nI 7) hq_1034) zml_RX6_89 zcv_X6_showAt (zW_get q_1031 sM_0) rfl rfl rfl ⟨Nat.le_of_ble_eq_true rfl, Nat.le_of_ble_eq_true rfl⟩ rfl rfl (Nat.le_of_ble_eq_true rfl) ⟨Nat.zero_le _, Nat.zero_le _⟩ dX6_write_125 ?_
      obtain ⟨q_1035, hq_1036, h⟩ := bind_isome h
      refine g_vv (ws' := (zW cy ad shM E q_1035)) (As := [.int q_1033]) (rest := []) C (c_X6_writesNumber l D cy ad E q_1031 q_1033 hq_1036) zml_RX6_266 zcv_X6_writesNumber (zW_get q_1031 sM_0) rfl rfl rfl ⟨Nat.le_of_ble_eq_true rfl, Nat.le_of_ble_eq_true rfl⟩ rfl rfl (Nat.le_of_ble_eq_true rfl) ⟨Nat.zero_le _, Nat.zero_le _⟩ dX6_write_128 ?_
      refine g_aload_n (j := 0) C dX6_write_131 rfl rfl ?_
      refine g_bipush (v := (nI 47)) C dX6_write_132 (by decide) ?_
      obtain ⟨q_1037, hq_1038, h⟩ := bind_isome h
      refine g_vv (ws' := (zW cy ad shM E q_1037)) (As := [.int (nI 47)]) (rest := []) C (c_X6_writesLetter l D cy ad E q_1035 (nI 47) hq_1038) zml_RX6_251 zcv_X6_writesLetter (zW_get q_1035 sM_0) rfl rfl rfl ⟨Nat.le_of_ble_eq_true rfl, Nat.le_of_ble_eq_true rfl⟩ rfl rfl (Nat.le_of_ble_eq_true rfl) ⟨Nat.zero_le _, Nat.zero_le _⟩ dX6_write_134 ?_
      refine g_aload_n (j := 0) C dX6_write_137 rfl rfl ?_
      refine g_aload_n (j := 0) C dX6_write_138 rfl rfl ?_
      refine g_iload_n (j := 1) C dX6_write_139 rfl rfl ?_
      refine g_iconst (v := (nI 0)) C dX6_write_140 (by decide) ?_
      obtain ⟨q_1039, hq_1040, h⟩ := bind_isome h
      refine g_vi (ws' := (zW cy ad shM E q_1037)) (As := [.int v1, .int (nI 0)]) (rest := [.ref (ad 0)]) (res := q_1039) C (c_X6_hallAt l D cy ad E q_1037 v1 (nI 0) hq_1040) zml_RX6_95 zcv_X6_hallAt (zW_get q_1037 sM_0) rfl rfl rfl ⟨Nat.le_of_ble_eq_true rfl, Nat.le_of_ble_eq_true rfl⟩ rfl rfl (Nat.le_of_ble_eq_true rfl) ⟨Nat.zero_le _, Nat.zero_le _⟩ dX6_write_141 ?_
      obtain ⟨q_1041, hq_1042, h⟩ := bind_isome h
      refine g_vv (ws' := (zW cy ad shM E q_1041)) (As := [.int q_1039]) (rest := []) C (c_X6_writesNumber l D cy ad E q_1037 q_1039 hq_1042) zml_RX6_266 zcv_X6_writesNumber (zW_get q_1037 sM_0) rfl rfl rfl ⟨Nat.le_of_ble_eq_true rfl, Nat.le_of_ble_eq_true rfl⟩ rfl rfl (Nat.le_of_ble_eq_true rfl) ⟨Nat.zero_le _, Nat.zero_le _⟩ dX6_write_144 ?_
      refine g_aload_n (j := 0) C dX6_write_147 rfl rfl ?_
      refine g_iload_n (j := 1) C dX6_write_148 rfl rfl ?_
      refine g_iload_n (j := 2) C dX6_write_149 rfl rfl ?_
      refine g_aload_n (j := 0) C dX6_write_150 rfl rfl ?_
      refine g_iload_n (j := 3) C dX6_write_151 rfl rfl ?_
      refine g_iconst (v := (nI 3)) C dX6_write_152 (by decide) ?_
      obtain ⟨q_1043, hq_1044, h⟩ := bind_isome h
      refine g_vi (ws' := (zW cy ad shM E q_1041)) (As := [.int v3, .int (nI 3)]) (rest := [.int v2, .int v1, .ref (ad 0)]) (res := q_1043) C (c_X6_showAt l D cy ad E q_1041 v3 (nI 3) hq_1044) zml_RX6_89 zcv_X6_showAt (zW_get q_1041 sM_0) rfl rfl rfl ⟨Nat.le_of_ble_eq_true rfl, Nat.le_of_ble_eq_true rfl⟩ rfl rfl (Nat.le_of_ble_eq_true rfl) ⟨Nat.zero_le _, Nat.zero_le _⟩ dX6_write_153 ?_
      obtain ⟨q_1045, hq_1046, h⟩ := bind_isome h
      refine g_vi (ws' := (zW cy ad shM E q_1041)) (As := [.int v1, .int v2, .int q_1043]) (rest := []) (res := q_1045) C (c_X6_nextShow l D cy ad E q_1041 v1 v2 q_1043 hq_1046) zml_RX6_261 zcv_X6_nextShow (zW_get q_1041 sM_0) rfl rfl rfl ⟨Nat.le_of_ble_eq_true rfl, Nat.le_of_ble_eq_true rfl⟩ rfl rfl (Nat.le_of_ble_eq_true rfl) ⟨Nat.zero_le _, Nat.zero_le _⟩ dX6_write_156 ?_
      refine g_istore_n (L' := [(3, .int q_1045), (0, .ref (ad 0)), (1, .int v1), (2, .int v2)]) C dX6_write_159 rfl (by decide) rfl ?_
      refine g_iload_n (j := 0) C dX6_write_160 rfl rfl ?_
      refine g_iconst (v := (-1 : Int32)) C dX6_write_161 (by decide) ?_
      refine g_icmp_eq C dX6_write_162 (tgt := 67) (by decide) (fun hc_1047 => ?_) (fun hc_1047 => ?_)
      · replace h := (if_pos hc_1047).symm.trans h
        refine g_iload_n (j := 0) C dX6_write_67 rfl rfl ?_
        refine g_iconst (v := (-1 : Int32)) C dX6_write_68 (by decide) ?_
        refine g_icmp_eq C dX6_write_69 (tgt := 175) (by decide) (fun _ => ?_) (fun h9 => absurd hc_1047 h9)
        refine zG_sub (L' := [(0, .ref (ad 0))]) [1] rfl ?_
        exact hk q_1041 h
      · replace h := (if_neg hc_1047).symm.trans h
        refine g_aload_n (j := 1) C dX6_write_165 rfl rfl ?_
        obtain ⟨aW_1048, hW_1049, hS_1050⟩ := hE.2.1.2.2.2
        refine p_ldcSW C hW_1049 dX6_write_166 ?_
        obtain ⟨X_1051, hq_1052, h⟩ := bind_isome h
        refine t_Vv (As := [.ref aW_1048]) (rest := []) (zES_ge _ _) ⟨hE.1, hS_1050⟩ C (c_X6_writesWord l D cy ad E q_1041 aW_1048 zT359 (by decide) hq_1052) zml_RX6_257 zcv_X6_writesWord (zRec.of C rfl (zW_get q_1041 sM_0)) rfl rfl ⟨Nat.le_of_ble_eq_true rfl, Nat.le_of_ble_eq_true rfl⟩ rfl rfl (Nat.le_of_ble_eq_true rfl) ⟨Nat.zero_le _, Nat.zero_le _⟩ dX6_write_169 ?_
        intro w h9
        obtain rfl := h9
        refine g_goto C dX6_write_172 (tgt := 67) (by decide) ?_
        refine zG_sub (L' := [(0, .ref (ad 0)), (1, .int v1), (2, .int v2), (3, .int q_1045)]) [1, 2, 3, 0] rfl ?_
        exact ih X_1051 q_1045 h hk
def f_X6_write (X : Nat → Nat → Int32) (v1 v2 : Int32) : Option (Int32 × (Nat → Nat → Int32)) := (if (f_X6_isHall X v1) = 0 then (zlet (f_X6_fails X (nI 1)) fun q_1085 => some (q_1085.1, q_1085.2)) else (if (f_X6_isDay v2) = 0 then (zlet (f_X6_fails X (nI 2)) fun q_1083 => some (q_1083.1, q_1083.2)) else (zlet (zU X 0 14 (nI 0)) fun X_3 => ((f_X6_isClosed X_3 v1 v2).bind fun q_5 => (if q_5 = 0 then ((f_X6_nextShow X_3 v1 v2 (-1 : Int32)).bind fun q_8 => (if q_8 = (-1 : Int32) then ((f_X6_writesWord zT357 X_3).bind fun X_1059 => f_X6_write_L67 (fun X_1061 => (zlet (f_X6_done X_1061 (X_1061 0 14)) fun q_1062 => some (q_1062.1, q_1062.2))) v1 v2 zFuel X_1059 q_8) else f_X6_write_L67 (fun X_1053 => (zlet (f_X6_done X_1053 (X_1053 0 14)) fun q_1054 => some (q_1054.1, q_1054.2))) v1 v2 zFuel X_3 q_8)) else ((f_X6_writesWord zT351 X_3).bind fun X_1067 => ((f_X6_nextShow X_1067 v1 v2 (-1 : Int32)).bind fun q_1069 => (if q_1069 = (-1 : Int32) then ((f_X6_writesWord zT357 X_1067).bind fun X_1078 => f_X6_write_L67 (fun X_1080 => (zlet (f_X6_done X_1080 (X_1080 0 14)) fun q_1081 => some (q_1081.1, q_1081.2))) v1 v2 zFuel X_1078 q_1069) else f_X6_write_L67 (fun X_1072 => (zlet (f_X6_done X_1072 (X_1072 0 14)) fun q_1073 => some (q_1073.1, q_1073.2))) v1 v2 zFuel X_1067 q_1069))))))))
set_option maxRecDepth 100000 in
set_option maxHeartbeats 4000000 in
theorem c_X6_write (l : Launch) (D : va_G) (cy : Nat → ClassId) (ad : Nat → Nat) (E : va_W) (X : Nat → Nat → Int32) (v1 v2 : Int32) {res : Int32 × (Nat → Nat → Int32)} (h : f_X6_write X v1 v2 = some res) : zMt l yX6_write cX6_write 4 (some .int) (zrm 6) D (zTy cy) zEm (zW cy ad shM E X) [.ref (ad 0), .int v1, .int v2] 0 0 (tI D (zTy cy) (fun r w => r = res.1 ∧ w = (zW cy ad shM E res.2))) := by
  refine zMt.of (by decide) (Nat.le_of_ble_eq_true rfl) ?_
  intro p e s m below meth c A C hr hE
  unfold f_X6_write at h
  refine zG_L (L' := [(0, .ref (ad 0)), (1, .int v1), (2, .int v2)]) rfl ?_
  refine g_aload_n (j := 0) C dX6_write_0 rfl rfl ?_
  refine g_iload_n (j := 1) C dX6_write_1 rfl rfl ?_
  refine g_vi (ws' := (zW cy ad shM E X)) (As := [.int v1]) (rest := []) (res := (f_X6_isHall X v1)) C (c_X6_isHall l D cy ad E X v1) zml_RX6_104 zcv_X6_isHall (zW_get X sM_0) rfl rfl rfl ⟨Nat.le_of_ble_eq_true rfl, Nat.le_of_ble_eq_true rfl⟩ rfl rfl (Nat.le_of_ble_eq_true rfl) ⟨Nat.zero_le _, Nat.zero_le _⟩ dX6_write_2 ?_
  refine g_if_ne C dX6_write_5 (tgt := 14) (by decide) (fun hc_1 => ?_) (fun hc_1 => ?_)
  · replace h := (if_neg hc_1).symm.trans h
    refine g_iload_n (j := 2) C dX6_write_14 rfl rfl ?_
    refine g_si (ws' := (zW cy ad shM E X)) (As := [.int v2]) (rest := []) (res := (f_X6_isDay v2)) C (c_X6_isDay l D cy (zW cy ad shM E X) v2) zml_RX6_74 zcs_X6_isDay rfl rfl ⟨Nat.le_of_ble_eq_true rfl, Nat.le_of_ble_eq_true rfl⟩ rfl rfl (Nat.le_of_ble_eq_true rfl) ⟨Nat.zero_le _, Nat.zero_le _⟩ dX6_write_15 ?_
    refine g_if_ne C dX6_write_18 (tgt := 27) (by decide) (fun hc_2 => ?_) (fun hc_2 => ?_)
    · replace h := (if_neg hc_2).symm.trans h
      refine g_aload_n (j := 0) C dX6_write_27 rfl rfl ?_
      refine g_iconst (v := (nI 0)) C dX6_write_28 (by decide) ?_
      refine g_puti (k := 14) (N := 27) (ty := .int) C sM_0 rfl zin_RX6 (by decide) rfl zfl_RX6_239 rfl tyX6_ok nmX6 rfl (by decide +kernel) rfl rfl dX6_write_29 ?_
      obtain ⟨X_3, e_4, h⟩ := zlet_ex h
      rw [← e_4]
      refine g_aload_n (j := 0) C dX6_write_32 rfl rfl ?_
      refine g_iload_n (j := 1) C dX6_write_33 rfl rfl ?_
      refine g_iload_n (j := 2) C dX6_write_34 rfl rfl ?_
      obtain ⟨q_5, hq_6, h⟩ := bind_isome h
      refine g_vi (ws' := (zW cy ad shM E X_3)) (As := [.int v1, .int v2]) (rest := []) (res := q_5) C (c_X6_isClosed l D cy ad E X_3 v1 v2 hq_6) zml_RX6_172 zcv_X6_isClosed (zW_get X_3 sM_0) rfl rfl rfl ⟨Nat.le_of_ble_eq_true rfl, Nat.le_of_ble_eq_true rfl⟩ rfl rfl (Nat.le_of_ble_eq_true rfl) ⟨Nat.zero_le _, Nat.zero_le _⟩ dX6_write_35 ?_
      refine g_if_eq C dX6_write_38 (tgt := 47) (by decide) (fun hc_7 => ?_) (fun hc_7 => ?_)
      · replace h := (if_pos hc_7).symm.trans h
        refine g_aload_n (j := 0) C dX6_write_47 rfl rfl ?_
        refine g_iload_n (j := 1) C dX6_write_48 rfl rfl ?_
        refine g_iload_n (j := 2) C dX6_write_49 rfl rfl ?_
        refine g_iconst (v := (-1 : Int32)) C dX6_write_50 (by decide) ?_
        obtain ⟨q_8, hq_9, h⟩ := bind_isome h
        refine g_vi (ws' := (zW cy ad shM E X_3)) (As := [.int v1, .int v2, .int (-1 : Int32)]) (rest := []) (res := q_8) C (c_X6_nextShow l D cy ad E X_3 v1 v2 (-1 : Int32) hq_9) zml_RX6_261 zcv_X6_nextShow (zW_get X_3 sM_0) rfl rfl rfl ⟨Nat.le_of_ble_eq_true rfl, Nat.le_of_ble_eq_true rfl⟩ rfl rfl (Nat.le_of_ble_eq_true rfl) ⟨Nat.zero_le _, Nat.zero_le _⟩ dX6_write_51 ?_
        refine g_istore_n (L' := [(3, .int q_8), (0, .ref (ad 0)), (1, .int v1), (2, .int v2)]) C dX6_write_54 rfl (by decide) rfl ?_
        refine g_iload_n (j := 0) C dX6_write_55 rfl rfl ?_
        refine g_iconst (v := (-1 : Int32)) C dX6_write_56 (by decide) ?_
        refine g_icmp_ne C dX6_write_57 (tgt := 67) (by decide) (fun hc_10 => ?_) (fun hc_10 => ?_)
        · replace h := (if_neg hc_10).symm.trans h
          refine zG_sub (L' := [(0, .ref (ad 0)), (1, .int v1), (2, .int v2), (3, .int q_8)]) [1, 2, 3, 0] rfl ?_
          refine w_X6_write_L67 l D cy ad E _ v1 v2 C hE hr zFuel X_3 q_8 h ?_
          intro X_1053 h
          refine g_aload_n (j := 0) C dX6_write_175 rfl rfl ?_
          refine g_aload_n (j := 0) C dX6_write_176 rfl rfl ?_
          refine g_geti (k := 14) (N := 27) C sM_0 rfl zin_RX6 (by decide) rfl zfl_RX6_239 rfl dX6_write_177 ?_
          obtain ⟨q_1054, e_1055, h⟩ := zlet_ex h
          refine g_vi (ws' := (zW cy ad shM E q_1054.2)) (As := [.int (X_1053 0 14)]) (rest := []) (res := q_1054.1) C ((by rw [e_1055]; exact c_X6_done l D cy ad E X_1053 (X_1053 0 14))) zml_RX6_71 zcv_X6_done (zW_get X_1053 sM_0) rfl rfl rfl ⟨Nat.le_of_ble_eq_true rfl, Nat.le_of_ble_eq_true rfl⟩ rfl rfl (Nat.le_of_ble_eq_true rfl) ⟨Nat.zero_le _, Nat.zero_le _⟩ dX6_write_180 ?_
          obtain rfl := Option.some.inj h
          exact t_iret C hr rfl ⟨rfl, rfl⟩ (Nat.le_refl _) (Nat.le_refl _) dX6_write_183
        · replace h := (if_pos hc_10).symm.trans h
          refine g_aload_n (j := 1) C dX6_write_60 rfl rfl ?_
          obtain ⟨aW_1056, hW_1057, hS_1058⟩ := hE.2.1.2.1
          refine p_ldcSW C hW_1057 dX6_write_61 ?_
          obtain ⟨X_1059, hq_1060, h⟩ := bind_isome h
          refine t_Vv (As := [.ref aW_1056]) (rest := []) (zES_ge _ _) ⟨hE.1, hS_1058⟩ C (c_X6_writesWord l D cy ad E X_3 aW_1056 zT357 (by decide) hq_1060) zml_RX6_257 zcv_X6_writesWord (zRec.of C rfl (zW_get X_3 sM_0)) rfl rfl ⟨Nat.le_of_ble_eq_true rfl, Nat.le_of_ble_eq_true rfl⟩ rfl rfl (Nat.le_of_ble_eq_true rfl) ⟨Nat.zero_le _, Nat.zero_le _⟩ dX6_write_64 ?_
          intro w h9
          obtain rfl := h9
          refine zG_sub (L' := [(0, .ref (ad 0)), (1, .int v1), (2, .int v2), (3, .int q_8)]) [1, 2, 3, 0] rfl ?_
          refine w_X6_write_L67 l D cy ad E _ v1 v2 C hE hr zFuel X_1059 q_8 h ?_
          intro X_1061 h
          refine g_aload_n (j := 0) C dX6_write_175 rfl rfl ?_
          refine g_aload_n (j := 0) C dX6_write_176 rfl rfl ?_
          refine g_geti (k := 14) (N := 27) C sM_0 rfl zin_RX6 (by decide) rfl zfl_RX6_239 rfl dX6_write_177 ?_
          obtain ⟨q_1062, e_1063, h⟩ := zlet_ex h
          refine g_vi (ws' := (zW cy ad shM E q_1062.2)) (As := [.int (X_1061 0 14)]) (rest := []) (res := q_1062.1) C ((by rw [e_1063]; exact c_X6_done l D cy ad E X_1061 (X_1061 0 14))) zml_RX6_71 zcv_X6_done (zW_get X_1061 sM_0) rfl rfl rfl ⟨Nat.le_of_ble_eq_true rfl, Nat.le_of_ble_eq_true rfl⟩ rfl rfl (Nat.le_of_ble_eq_true rfl) ⟨Nat.zero_le _, Nat.zero_le _⟩ dX6_write_180 ?_
          obtain rfl := Option.some.inj h
          exact t_iret C hr rfl ⟨rfl, rfl⟩ (Nat.le_refl _) (Nat.le_refl _) dX6_write_183
      · replace h := (if_neg hc_7).symm.trans h
        refine g_aload_n (j := 0) C dX6_write_41 rfl rfl ?_
        obtain ⟨aW_1064, hW_1065, hS_1066⟩ := hE.2.1.1
        refine p_ldcS C hW_1065 dX6_write_42 ?_
        obtain ⟨X_1067, hq_1068, h⟩ := bind_isome h
        refine t_Vv (As := [.ref aW_1064]) (rest := []) (zES_ge _ _) ⟨hE.1, hS_1066⟩ C (c_X6_writesWord l D cy ad E X_3 aW_1064 zT351 (by decide) hq_1068) zml_RX6_257 zcv_X6_writesWord (zRec.of C rfl (zW_get X_3 sM_0)) rfl rfl ⟨Nat.le_of_ble_eq_true rfl, Nat.le_of_ble_eq_true rfl⟩ rfl rfl (Nat.le_of_ble_eq_true rfl) ⟨Nat.zero_le _, Nat.zero_le _⟩ dX6_write_44 ?_
        intro w h9
        obtain rfl := h9
        refine g_aload_n (j := 0) C dX6_write_47 rfl rfl ?_
        refine g_iload_n (j := 1) C dX6_write_48 rfl rfl ?_
        refine g_iload_n (j := 2) C dX6_write_49 rfl rfl ?_
        refine g_iconst (v := (-1 : Int32)) C dX6_write_50 (by decide) ?_
        obtain ⟨q_1069, hq_1070, h⟩ := bind_isome h
        refine g_vi (ws' := (zW cy ad shM E X_1067)) (As := [.int v1, .int v2, .int (-1 : Int32)]) (rest := []) (res := q_1069) C (c_X6_nextShow l D cy ad E X_1067 v1 v2 (-1 : Int32) hq_1070) zml_RX6_261 zcv_X6_nextShow (zW_get X_1067 sM_0) rfl rfl rfl ⟨Nat.le_of_ble_eq_true rfl, Nat.le_of_ble_eq_true rfl⟩ rfl rfl (Nat.le_of_ble_eq_true rfl) ⟨Nat.zero_le _, Nat.zero_le _⟩ dX6_write_51 ?_
        refine g_istore_n (L' := [(3, .int q_1069), (0, .ref (ad 0)), (1, .int v1), (2, .int v2)]) C dX6_write_54 rfl (by decide) rfl ?_
        refine g_iload_n (j := 0) C dX6_write_55 rfl rfl ?_
        refine g_iconst (v := (-1 : Int32)) C dX6_write_56 (by decide) ?_
        refine g_icmp_ne C dX6_write_57 (tgt := 67) (by decide) (fun hc_1071 => ?_) (fun hc_1071 => ?_)
        · replace h := (if_neg hc_1071).symm.trans h
          refine zG_sub (L' := [(0, .ref (ad 0)), (1, .int v1), (2, .int v2), (3, .int q_1069)]) [1, 2, 3, 0] rfl ?_
          refine w_X6_write_L67 l D cy ad E _ v1 v2 C hE hr zFuel X_1067 q_1069 h ?_
          intro X_1072 h
          refine g_aload_n (j := 0) C dX6_write_175 rfl rfl ?_
          refine g_aload_n (j := 0) C dX6_write_176 rfl rfl ?_
          refine g_geti (k := 14) (N := 27) C sM_0 rfl zin_RX6 (by decide) rfl zfl_RX6_239 rfl dX6_write_177 ?_
          obtain ⟨q_1073, e_1074, h⟩ := zlet_ex h
          refine g_vi (ws' := (zW cy ad shM E q_1073.2)) (As := [.int (X_1072 0 14)]) (rest := []) (res := q_1073.1) C ((by rw [e_1074]; exact c_X6_done l D cy ad E X_1072 (X_1072 0 14))) zml_RX6_71 zcv_X6_done (zW_get X_1072 sM_0) rfl rfl rfl ⟨Nat.le_of_ble_eq_true rfl, Nat.le_of_ble_eq_true rfl⟩ rfl rfl (Nat.le_of_ble_eq_true rfl) ⟨Nat.zero_le _, Nat.zero_le _⟩ dX6_write_180 ?_
          obtain rfl := Option.some.inj h
          exact t_iret C hr rfl ⟨rfl, rfl⟩ (Nat.le_refl _) (Nat.le_refl _) dX6_write_183
        · replace h := (if_pos hc_1071).symm.trans h
          refine g_aload_n (j := 1) C dX6_write_60 rfl rfl ?_
          obtain ⟨aW_1075, hW_1076, hS_1077⟩ := hE.2.1.2.1
          refine p_ldcSW C hW_1076 dX6_write_61 ?_
          obtain ⟨X_1078, hq_1079, h⟩ := bind_isome h
          refine t_Vv (As := [.ref aW_1075]) (rest := []) (zES_ge _ _) ⟨hE.1, hS_1077⟩ C (c_X6_writesWord l D cy ad E X_1067 aW_1075 zT357 (by decide) hq_1079) zml_RX6_257 zcv_X6_writesWord (zRec.of C rfl (zW_get X_1067 sM_0)) rfl rfl ⟨Nat.le_of_ble_eq_true rfl, Nat.le_of_ble_eq_true rfl⟩ rfl rfl (Nat.le_of_ble_eq_true rfl) ⟨Nat.zero_le _, Nat.zero_le _⟩ dX6_write_64 ?_
          intro w h9
          obtain rfl := h9
          refine zG_sub (L' := [(0, .ref (ad 0)), (1, .int v1), (2, .int v2), (3, .int q_1069)]) [1, 2, 3, 0] rfl ?_
          refine w_X6_write_L67 l D cy ad E _ v1 v2 C hE hr zFuel X_1078 q_1069 h ?_
          intro X_1080 h
          refine g_aload_n (j := 0) C dX6_write_175 rfl rfl ?_
          refine g_aload_n (j := 0) C dX6_write_176 rfl rfl ?_
          refine g_geti (k := 14) (N := 27) C sM_0 rfl zin_RX6 (by decide) rfl zfl_RX6_239 rfl dX6_write_177 ?_
          obtain ⟨q_1081, e_1082, h⟩ := zlet_ex h
          refine g_vi (ws' := (zW cy ad shM E q_1081.2)) (As := [.int (X_1080 0 14)]) (rest := []) (res := q_1081.1) C ((by rw [e_1082]; exact c_X6_done l D cy ad E X_1080 (X_1080 0 14))) zml_RX6_71 zcv_X6_done (zW_get X_1080 sM_0) rfl rfl rfl ⟨Nat.le_of_ble_eq_true rfl, Nat.le_of_ble_eq_true rfl⟩ rfl rfl (Nat.le_of_ble_eq_true rfl) ⟨Nat.zero_le _, Nat.zero_le _⟩ dX6_write_180 ?_
          obtain rfl := Option.some.inj h
          exact t_iret C hr rfl ⟨rfl, rfl⟩ (Nat.le_refl _) (Nat.le_refl _) dX6_write_183
    · replace h := (if_pos hc_2).symm.trans h
      refine g_aload_n (j := 0) C dX6_write_21 rfl rfl ?_
      refine g_iconst (v := (nI 2)) C dX6_write_22 (by decide) ?_
      obtain ⟨q_1083, e_1084, h⟩ := zlet_ex h
      refine g_vi (ws' := (zW cy ad shM E q_1083.2)) (As := [.int (nI 2)]) (rest := []) (res := q_1083.1) C ((by rw [e_1084]; exact c_X6_fails l D cy ad E X (nI 2))) zml_RX6_45 zcv_X6_fails (zW_get X sM_0) rfl rfl rfl ⟨Nat.le_of_ble_eq_true rfl, Nat.le_of_ble_eq_true rfl⟩ rfl rfl (Nat.le_of_ble_eq_true rfl) ⟨Nat.zero_le _, Nat.zero_le _⟩ dX6_write_23 ?_
      obtain rfl := Option.some.inj h
      exact t_iret C hr rfl ⟨rfl, rfl⟩ (Nat.le_refl _) (Nat.le_refl _) dX6_write_26
  · replace h := (if_pos hc_1).symm.trans h
    refine g_aload_n (j := 0) C dX6_write_8 rfl rfl ?_
    refine g_iconst (v := (nI 1)) C dX6_write_9 (by decide) ?_
    obtain ⟨q_1085, e_1086, h⟩ := zlet_ex h
    refine g_vi (ws' := (zW cy ad shM E q_1085.2)) (As := [.int (nI 1)]) (rest := []) (res := q_1085.1) C ((by rw [e_1086]; exact c_X6_fails l D cy ad E X (nI 1))) zml_RX6_45 zcv_X6_fails (zW_get X sM_0) rfl rfl rfl ⟨Nat.le_of_ble_eq_true rfl, Nat.le_of_ble_eq_true rfl⟩ rfl rfl (Nat.le_of_ble_eq_true rfl) ⟨Nat.zero_le _, Nat.zero_le _⟩ dX6_write_10 ?_
    obtain rfl := Option.some.inj h
    exact t_iret C hr rfl ⟨rfl, rfl⟩ (Nat.le_refl _) (Nat.le_refl _) dX6_write_13
