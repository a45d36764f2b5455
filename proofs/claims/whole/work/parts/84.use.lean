/-! DOUBLES: use (laid by wip/whole/mkuse.py) -/
def tD (D : va_G) (tys : List (ClassId × FieldType)) (P : UInt64 → va_W → Prop) (A : Nat → Prop) : Array Value → State → Outcome → State → Prop := va_Qd P (fun (w : va_W) t => zB D tys A w t) A
section ZD
variable {p : Program} {l : Launch} {e : Env} {R : Room} {s : State} {m : MethodId} {args : Array Value} {below : List Frame} {meth : Method} {c : Code} {cc : ByteArray} {nL : Nat} {own : String} {D : va_G} {tys : List (ClassId × FieldType)} {A : Nat → Prop} {cells slots : Nat} {Q : State → Prop} {ws : va_W} {pc : Nat} {L : List (Nat × Value)} {st : List Value}
theorem g_i2d (C : zC p s m args meth c cc nL own D tys A) {x : Int32} (hdg : decode cc pc = .ok (.i2d, 1))
    (kk : zG p l e R s m args below meth c nL D A cells slots Q ws (pc + 1) L (.double (FP.i2d x) :: st)) : zG p l e R s m args below meth c nL D A cells slots Q ws pc L (.int x :: st) := by
  obtain ⟨hx, hb, hml, hown, hts, hK, hA, hlk⟩ := C
  intro H locs ls hP hD hS hl9
  exact lv_i2d hx hb hdg (kk H locs ls hP hD hS hl9)
theorem g_dconst0 (C : zC p s m args meth c cc nL own D tys A) (hdg : decode cc pc = .ok (.dconst 0, 1))
    (kk : zG p l e R s m args below meth c nL D A cells slots Q ws (pc + 1) L (.double FP.dconst0 :: st)) : zG p l e R s m args below meth c nL D A cells slots Q ws pc L st := by
  obtain ⟨hx, hb, hml, hown, hts, hK, hA, hlk⟩ := C
  intro H locs ls hP hD hS hl9
  exact lv_dconst0 hx hb hdg (kk H locs ls hP hD hS hl9)
theorem g_ddiv (C : zC p s m args meth c cc nL own D tys A) {x y : UInt64} (hne : vf_n64 (FP.ddiv x y)) (hdg : decode cc pc = .ok (.ddiv, 1))
    (kk : zG p l e R s m args below meth c nL D A cells slots Q ws (pc + 1) L (.double (FP.ddiv x y) :: st)) : zG p l e R s m args below meth c nL D A cells slots Q ws pc L (.double y :: .double x :: st) := by
  obtain ⟨hx, hb, hml, hown, hts, hK, hA, hlk⟩ := C
  intro H locs ls hP hD hS hl9
  exact lv_ddiv hx hb hdg hne (kk H locs ls hP hD hS hl9)
theorem t_dret {v : UInt64} {P : UInt64 → va_W → Prop} {mc ms : Nat} (C : zC p s m args meth c cc nL own D tys A) (hr : meth.sig.returnType = some .double) (h9 : P v ws) (h1 : cells ≤ mc) (h2 : slots ≤ ms) (hdg : decode cc pc = .ok (.dreturn, 1)) :
    zG p l e R s m args below meth c nL D A cells slots (MQ below (tD D tys P A) args s mc ms A) ws pc L [.double v] := by
  obtain ⟨hx, hb, hml, hown, hts, hK, hA, hlk⟩ := C
  intro H locs ls hP hD hS hl9
  refine W.widen h1 h2 ?_
  exact W.dret hx hb hr (fun t ht hW => ⟨⟨v, ws, rfl, h9, by rw [ht]; exact hP, va_K.moved hW.alike hK, hD⟩, hS.F ht⟩) hS.2.2 hdg hlk
def zMd (l : Launch) (y : MethodName) (cc : ByteArray) (maxL : Nat) (ret : Option FieldType) (rm : Room) (D : va_G) (tys : List (ClassId × FieldType)) (EV : zEV) (ws : va_W) (av : List Value) (mc ms : Nat) (P : UInt64 → va_W → Prop) (X : Nat → va_W → Prop) : Prop :=
  ∀ sz : Nat, vx_Met l y (zTs y cc maxL ret) rm (zPt D tys EV ws av sz) (tD D tys P (va_A ws sz)) (zYC X D tys (va_A ws sz)) mc ms (va_A ws sz)
theorem zMd.of {l : Launch} {y : MethodName} {rm : Room} {D : va_G} {tys : List (ClassId × FieldType)} {EV : zEV} {ws : va_W} {av : List Value} {mc ms : Nat} {P : UInt64 → va_W → Prop} {X : Nat → va_W → Prop} {cc : ByteArray} {maxL : Nat} {ret : Option FieldType}
    (hy : plainName y.cls = true) (hav : (lg_sl av).length ≤ maxL)
    (body : ∀ (p : Program) (e : Env) (s : State) (m : MethodId) (below : List Frame) (meth : Method) (c : Code) (A : Nat → Prop), zC p s m av.toArray meth c cc maxL y.cls D tys A → meth.sig.returnType = ret → EV A s s.heap → (∀ x ∈ c.exceptionTable.toList, False) →
      zG p l e rm s m av.toArray below meth c maxL D A 0 0 (vx_MQ below (tD D tys P A) (zYC X D tys A) av.toArray s mc ms A) ws 0 (lv_args 0 av) []) : zMd l y cc maxL ret rm D tys EV ws av mc ms P X := by
  intro sz
  refine vx_ofW (cc := cc) (maxL := maxL) (ret := ret) (ws' := zAll) hy rfl ?_
  intro p e s m args below meth c s₁ B hml hout hv
  obtain ⟨rfl, hsz, hP, hK, hD0, hT⟩ := hv
  subst hsz
  have hl := lv_entry av (n := maxL) hav
  rw [lg_entry_eq]
  exact body p e s m below meth c (va_A ws s.heap.size) ⟨B.exec, B.bytes, hml, findClass_of_methodNamed B.named, fun w hw => atoms_spec (ws := zTs y cc maxL ret) B.pre w (List.mem_cons_of_mem _ hw), hK, fun q h => Or.inr h, B.notSynchronized⟩ B.returns hT hout s.heap [] _ hP (hD0.self (sz := s.heap.size)) va_S.rf hl
theorem y_dret {v : UInt64} {P : UInt64 → va_W → Prop} {X : Nat → va_W → Prop} {mc ms : Nat} (C : zC p s m args meth c cc nL own D tys A) (hr : meth.sig.returnType = some .double) (h9 : P v ws) (h1 : cells ≤ mc) (h2 : slots ≤ ms) (hdg : decode cc pc = .ok (.dreturn, 1)) :
    zG p l e R s m args below meth c nL D A cells slots (vx_MQ below (tD D tys P A) (zYC X D tys A) args s mc ms A) ws pc L [.double v] := by
  obtain ⟨hx, hb, hml, hown, hts, hK, hA, hlk⟩ := C
  intro H locs ls hP hD hS hl9
  refine W.widen h1 h2 (vx_ret ?_)
  exact W.dret hx hb hr (fun t ht hW => ⟨⟨v, ws, rfl, h9, by rw [ht]; exact hP, va_K.moved hW.alike hK, hD⟩, hS.F ht⟩) hS.2.2 hdg hlk
theorem y_dthrowW {P : UInt64 → va_W → Prop} {X : Nat → va_W → Prop} {mc ms : Nat} (code : Nat) (h9 : X code ws) (C : zC p s m args meth c cc nL own D tys A) (hT : zTh A s s.heap) {ik is ic : Nat} {text : String} (hsa : ∃ sa, vk_R own is text sa s) (hl : l.stackTraces = false) (hout : ∀ x ∈ c.exceptionTable.toList, False) {names : List String}
    (hcode : code ≠ 0) (hfit : Bundle.fit (zExc code) = true ∧ (∀ n ∈ names, Bundle.fit n = true)) (hk : Cond.classLink own ik (zExc code) ∈ zAll) (hini : Cond.initialized (zExc code) ∈ zAll)
    (hat : ∀ w ∈ vx_atS own ic (zExc code) names, w ∈ zAll ∨ w ∈ zBad) (hgood : ∀ w ∈ Cond.classLink own ik (zExc code) :: Cond.initialized (zExc code) :: vx_atS own ic (zExc code) names, vx_ot w = true)
    (d0 : decode cc pc = .ok (.new ik, 3)) (d3 : decode cc (pc + 3) = .ok (.dup, 1)) (d4 : decode cc (pc + 4) = .ok (.ldc_w is, 3)) (d7 : decode cc (pc + 7) = .ok (.invokespecial ic, 3)) (d10 : decode cc (pc + 10) = .ok (.athrow, 1))
    (hR : names.length + 3 < R.frames ∧ (st.map fun v => v.category).sum + (13 * (names.length + 1) + 43) ≤ R.locals) (h1 : cells + 1 ≤ R.cells) (h2 : slots + 6 ≤ R.slots) (h3 : cells + 1 ≤ mc) (h4 : slots + 6 ≤ ms) :
    zG p l e R s m args below meth c nL D A cells slots (vx_MQ below (tD D tys P A) (zYC X D tys A) args s mc ms A) ws pc L st := by
  obtain ⟨hx, hb, hml, hown, hts, hK, hA, hlk⟩ := C
  intro H locs ls hP hD hS hl9
  obtain ⟨sa, hsa⟩ := hsa
  exact vx_throwSW (A := A) hx hb hl hown hfit.1 hfit.2 (hts _ hk) (hts _ hini) hsa (fun w hw => (hat w hw).elim (hts w) (fun h => va_tabs (by
    simp only [zBad, List.mem_cons, List.not_mem_nil, or_false] at h
    rcases h with rfl | rfl | rfl | rfl | rfl | rfl | rfl | rfl | rfl <;> rfl) rfl (hT.2.1 w h))) hgood hT.2.2.1 hT.2.2.2 hS (hl9.1.trans hml.symm) d0 d3 d4 d7 d10 (fun x hx => absurd (hout x hx) id) hR.1 hR.2 h1 h2 hlk
    (fun t hvm h1 h2 => ⟨code, ws, h9, hcode, rfl, z_thrown hvm h1 h2 hK hP hD hS⟩) hS.2.2 h3 h4
end ZD
def f_X6_use_L4 (k : Int32 → Option (UInt64 × (Nat → Nat → Int32))) (X : Nat → Nat → Int32) : Nat → Int32 → Int32 → Option (UInt64 × (Nat → Nat → Int32))
  | 0, _, _ => none
  | fu + 1, v1, v2 => (if (X 1 (nI 4).toNatClampNeg) ≤ v2 then k v1 else ((f_X6_stands X v2).bind fun q_1002 => (if q_1002 = 0 then f_X6_use_L4 k X fu (v1 + (nI 0)) (v2 + 1) else ((f_X6_showAt X v2 (nI 0)).bind fun q_1005 => ((f_X6_hallAt X q_1005 (nI 0)).bind fun q_1007 => f_X6_use_L4 k X fu (v1 + q_1007) (v2 + 1))))))
set_option maxRecDepth 100000 in
set_option maxHeartbeats 4000000 in
theorem w_X6_use_L4 {p : Program} {e : Env} {s : State} {m : MethodId} {args : Array Value} {below : List Frame} {meth : Method} {c : Code} {A : Nat → Prop} (l : Launch) (D : va_G) (cy : Nat → ClassId) (ad : Nat → Nat) (E : va_W) (k : Int32 → Option (UInt64 × (Nat → Nat → Int32))) (X : Nat → Nat → Int32) {res : UInt64 × (Nat → Nat → Int32)} (C : zC p s m args meth c cX6_use 3 RX6 D (zTy cy) A) (hE : zEm A s s.heap) (hr : meth.sig.returnType = (some .double)) : ∀ (fu : Nat) (v1 v2 : Int32) (h : f_X6_use_L4 k X fu v1 v2 = some res) (hk : ∀ (v1 : Int32), k v1 = some res → zG p l e (zrm 6) s m args below meth c 3 D A 0 0 (MQ below (tD D (zTy cy) (fun r w => r = res.1 ∧ w = (zW cy ad shM E res.2)) A) args s 0 0 A) (zW cy ad shM E X) 46 [(0, .ref (ad 0)), (1, .int v1)] []), zG p l e (zrm 6) s m args below meth c 3 D A 0 0 (MQ below (tD D (zTy cy) (fun r w => r = res.1 ∧ w = (zW cy ad shM E res.2)) A) args s 0 0 A) (zW cy ad shM E X) 4 [(0, .ref (ad 0)), (1, .int v1), (2, .int v2)] [] := by
  intro fu
  induction fu with
  | zero => intro v1 v2 h hk; simp [f_X6_use_L4] at h
  | succ fu ih =>
    intro v1 v2 h hk
    rw [f_X6_use_L4] at h
    refine g_iload_n (j := 2) C dX6_use_4 rfl rfl ?_
    refine g_aload_n (j := 0) C dX6_use_5 rfl rfl ?_
    refine g_getr (k := 1) (N := 27) C sM_0 rfl zin_RX6 (by decide) rfl zfl_RX6_9 rfl dX6_use_6 ?_
    refine g_iconst (v := (nI 4)) C dX6_use_9 (by decide) ?_
    refine g_iald C sM_1 (by decide) dX6_use_10 ?_
    refine g_icmp_ge C dX6_use_11 (tgt := 46) (by decide) (fun hc_1001 => ?_) (fun hc_1001 => ?_)
    · replace h := (if_pos hc_1001).symm.trans h
      refine zG_sub (L' := [(0, .ref (ad 0)), (1, .int v1)]) [0, 1] rfl ?_
      exact hk v1 h
    · replace h := (if_neg hc_1001).symm.trans h
      refine g_iload_n (j := 1) C dX6_use_14 rfl rfl ?_
      refine g_aload_n (j := 0) C dX6_use_15 rfl rfl ?_
      refine g_iload_n (j := 2) C dX6_use_16 rfl rfl ?_
      obtain ⟨q_1002, hq_1003, h⟩ := bind_isome h
      refine g_vi (ws' := (zW cy ad shM E X)) (As := [.int v2]) (rest := [.int v1]) (res := q_1002) C (c_X6_stands l D cy ad E X v2 hq_1003) zml_RX6_107 zcv_X6_stands (zW_get X sM_0) rfl rfl rfl ⟨Nat.le_of_ble_eq_true rfl, Nat.le_of_ble_eq_true rfl⟩ rfl rfl (Nat.le_of_ble_eq_true rfl) ⟨Nat.zero_le _, Nat.zero_le _⟩ dX6_use_17 ?_
      refine g_if_eq C dX6_use_20 (tgt := 37) (by decide) (fun hc_1004 => ?_) (fun hc_1004 => ?_)
      · replace h := (if_pos hc_1004).symm.trans h
        refine g_iconst (v := (nI 0)) C dX6_use_37 (by decide) ?_
        refine g_iadd C dX6_use_38 ?_
        refine g_istore_n (L' := [(1, .int (v1 + (nI 0))), (0, .ref (ad 0)), (2, .int v2)]) C dX6_use_39 rfl (by decide) rfl ?_
        refine g_iinc (k := 2) (L' := [(2, .int (v2 + 1)), (1, .int (v1 + (nI 0))), (0, .ref (ad 0))]) C dX6_use_40 rfl (z_iinc (by decide)) (by decide) rfl ?_
        refine g_goto C dX6_use_43 (tgt := 4) (by decide) ?_
        refine zG_sub (L' := [(0, .ref (ad 0)), (1, .int (v1 + (nI 0))), (2, .int (v2 + 1))]) [2, 1, 0] rfl ?_
        exact ih (v1 + (nI 0)) (v2 + 1) h hk
      · replace h := (if_neg hc_1004).symm.trans h
        refine g_aload_n (j := 0) C dX6_use_23 rfl rfl ?_
        refine g_aload_n (j := 0) C dX6_use_24 rfl rfl ?_
        refine g_iload_n (j := 2) C dX6_use_25 rfl rfl ?_
        refine g_iconst (v := (nI 0)) C dX6_use_26 (by decide) ?_
        obtain ⟨q_1005, hq_1006, h⟩ := bind_isome h
        refine g_vi (ws' := (zW cy ad shM E X)) (As := [.int v2, .int (nI 0)]) (rest := [.ref (ad 0), .int v1]) (res := q_1005) C (c_X6_showAt l D cy ad E X v2 (nI 0) hq_1006) zml_RX6_89 zcv_X6_showAt (zW_get X sM_0) rfl rfl rfl ⟨Nat.le_of_ble_eq_true rfl, Nat.le_of_ble_eq_true rfl⟩ rfl rfl (Nat.le_of_ble_eq_true rfl) ⟨Nat.zero_le _, Nat.zero_le _⟩ dX6_use_27 ?_
        refine g_iconst (v := (nI 0)) C dX6_use_30 (by decide) ?_
        obtain ⟨q_1007, hq_1008, h⟩ := bind_isome h
        refine g_vi (ws' := (zW cy ad shM E X)) (As := [.int q_1005, .int (nI 0)]) (rest := [.int v1]) (res := q_1007) C (c_X6_hallAt l D cy ad E X q_1005 (nI 0) hq_1008) zml_RX6_95 zcv_X6_hallAt (zW_get X sM_0) rfl rfl rfl ⟨Nat.le_of_ble_eq_true rfl, Nat.le_of_ble_eq_true rfl⟩ rfl rfl (Nat.le_of_ble_eq_true rfl) ⟨Nat.zero_le _, Nat.zero_le _⟩ dX6_use_31 ?_
        refine g_goto C dX6_use_34 (tgt := 38) (by decide) ?_
        refine g_iadd C dX6_use_38 ?_
        refine g_istore_n (L' := [(1, .int (v1 + q_1007)), (0, .ref (ad 0)), (2, .int v2)]) C dX6_use_39 rfl (by decide) rfl ?_
        refine g_iinc (k := 2) (L' := [(2, .int (v2 + 1)), (1, .int (v1 + q_1007)), (0, .ref (ad 0))]) C dX6_use_40 rfl (z_iinc (by decide)) (by decide) rfl ?_
        refine g_goto C dX6_use_43 (tgt := 4) (by decide) ?_
        refine zG_sub (L' := [(0, .ref (ad 0)), (1, .int (v1 + q_1007)), (2, .int (v2 + 1))]) [2, 1, 0] rfl ?_
        exact ih (v1 + q_1007) (v2 + 1) h hk
def f_X6_use (X : Nat → Nat → Int32) : Option (UInt64 × (Nat → Nat → Int32)) := f_X6_use_L4 (fun v1_1009 => (if v1_1009 = 0 then (zlet (zU X 0 0 (nI 1)) fun X_1015 => some (FP.dconst0, X_1015)) else (zlet (zU X 0 0 (nI 0)) fun X_1011 => ((f_X6_sumOf X_1011 (nI 5)).bind fun q_1013 => some ((FP.ddiv (FP.i2d q_1013) (FP.i2d v1_1009)), X_1011))))) X zFuel (nI 0) (nI 0)
set_option maxRecDepth 100000 in
set_option maxHeartbeats 4000000 in
theorem c_X6_use (l : Launch) (D : va_G) (cy : Nat → ClassId) (ad : Nat → Nat) (E : va_W) (X : Nat → Nat → Int32) {res : UInt64 × (Nat → Nat → Int32)} (h : f_X6_use X = some res) : zMt l yX6_use cX6_use 3 (some .double) (zrm 6) D (zTy cy) zEm (zW cy ad shM E X) [.ref (ad 0)] 0 0 (tD D (zTy cy) (fun r w => r = res.1 ∧ w = (zW cy ad shM E res.2))) := by
  refine zMt.of (by decide) (Nat.le_of_ble_eq_true rfl) ?_
  intro p e s m below meth c A C hr hE
  unfold f_X6_use at h
  refine zG_L (L' := [(0, .ref (ad 0))]) rfl ?_
  refine g_iconst (v := (nI 0)) C dX6_use_0 (by decide) ?_
  refine g_istore_n (L' := [(1, .int (nI 0)), (0, .ref (ad 0))]) C dX6_use_1 rfl (by decide) rfl ?_
  refine g_iconst (v := (nI 0)) C dX6_use_2 (by decide) ?_
  refine g_istore_n (L' := [(2, .int (nI 0)), (1, .int (nI 0)), (0, .ref (ad 0))]) C dX6_use_3 rfl (by decide) rfl ?_
  refine zG_sub (L' := [(0, .ref (ad 0)), (1, .int (nI 0)), (2, .int (nI 0))]) [2, 1, 0] rfl ?_
  refine w_X6_use_L4 l D cy ad E _ X C hE hr zFuel (nI 0) (nI 0) h ?_
  intro v1_1009 h
  refine g_iload_n (j := 1) C dX6_use_46 rfl rfl ?_
  refine g_if_ne C dX6_use_47 (tgt := 57) (by decide) (fun hc_1010 => ?_) (fun hc_1010 => ?_)
  · replace h := (if_neg hc_1010).symm.trans h
    refine g_aload_n (j := 0) C dX6_use_57 rfl rfl ?_
    refine g_iconst (v := (nI 0)) C dX6_use_58 (by decide) ?_
    refine g_puti (k := 0) (N := 27) (ty := .int) C sM_0 rfl zin_RX6 (by decide) rfl zfl_RX6_36 rfl tyX6_ok nmX6 rfl (by decide +kernel) rfl rfl dX6_use_59 ?_
    obtain ⟨X_1011, e_1012, h⟩ := zlet_ex h
    rw [← e_1012]
    refine g_aload_n (j := 0) C dX6_use_62 rfl rfl ?_
    refine g_iconst (v := (nI 5)) C dX6_use_63 (by decide) ?_
    obtain ⟨q_1013, hq_1014, h⟩ := bind_isome h
    refine g_vi (ws' := (zW cy ad shM E X_1011)) (As := [.int (nI 5)]) (rest := []) (res := q_1013) C (c_X6_sumOf l D cy ad E X_1011 (nI 5) hq_1014) zml_RX6_233 zcv_X6_sumOf (zW_get X_1011 sM_0) rfl rfl rfl ⟨Nat.le_of_ble_eq_true rfl, Nat.le_of_ble_eq_true rfl⟩ rfl rfl (Nat.le_of_ble_eq_true rfl) ⟨Nat.zero_le _, Nat.zero_le _⟩ dX6_use_64 ?_
    refine g_i2d C dX6_use_67 ?_
    refine g_iload_n (j := 1) C dX6_use_68 rfl rfl ?_
    refine g_i2d C dX6_use_69 ?_
    refine g_ddiv C (zddiv _ _ hc_1010) dX6_use_70 ?_
    obtain rfl := Option.some.inj h
    exact t_dret C hr ⟨rfl, rfl⟩ (Nat.le_refl _) (Nat.le_refl _) dX6_use_71
  · replace h := (if_pos hc_1010).symm.trans h
    refine g_aload_n (j := 0) C dX6_use_50 rfl rfl ?_
    refine g_iconst (v := (nI 1)) C dX6_use_51 (by decide) ?_
    refine g_puti (k := 0) (N := 27) (ty := .int) C sM_0 rfl zin_RX6 (by decide) rfl zfl_RX6_36 rfl tyX6_ok nmX6 rfl (by decide +kernel) rfl rfl dX6_use_52 ?_
    obtain ⟨X_1015, e_1016, h⟩ := zlet_ex h
    rw [← e_1016]
    refine g_dconst0 C dX6_use_55 ?_
    obtain rfl := Option.some.inj h
    exact t_dret C hr ⟨rfl, rfl⟩ (Nat.le_refl _) (Nat.le_refl _) dX6_use_56
def f_X5_use (X : Nat → Nat → Int32) : Option (Nat × UInt64) := (f_X3_total X (nI 5) (-1 : Int32) (nI 0)).bind fun q => if q = 0 then some (4, 0) else (f_X3_total X (nI 2) (-1 : Int32) (nI 0)).bind fun q2 => some (0, FP.ddiv (FP.i2d q2) (FP.i2d q))
set_option maxRecDepth 100000 in
set_option maxHeartbeats 8000000 in
theorem c_X5_use (l : Launch) (hlt : l.stackTraces = false) (D : va_G) (cy : Nat → ClassId) (ad : Nat → Nat) (E : va_W) (X : Nat → Nat → Int32) {res : Nat × UInt64} (h : f_X5_use X = some res) : zMd l yX5_use cX5_use 2 (some .double) (zrmy 8 1 6) D (zTy cy) zE5 (zW cy ad shC E X) [.ref (ad 0)] 1 6 (fun r w => res.1 = 0 ∧ r = res.2 ∧ w = (zW cy ad shC E X)) (fun c w => c = res.1 ∧ w = (zW cy ad shC E X)) := by
  refine zMd.of (by decide) (Nat.le_of_ble_eq_true rfl) ?_
  intro p e s m below meth c A C hr hE hout
  unfold f_X5_use at h
  obtain ⟨q, hq, h⟩ := bind_isome h
  refine zG_L (L' := [(0, .ref (ad 0))]) rfl ?_
  refine g_aload_n (j := 0) C dX5_use_0 rfl rfl ?_
  refine g_getr (k := 0) (N := 11) C sC_0 rfl zin_RX5 (by decide) rfl zfl_RX5_10 rfl dX5_use_1 ?_
  refine g_iconst (v := (nI 5)) C dX5_use_4 (by decide) ?_
  refine g_iconst (v := (-1 : Int32)) C dX5_use_5 (by decide) ?_
  refine g_iconst (v := (nI 0)) C dX5_use_6 (by decide) ?_
  refine g_vi (ws' := (zW cy ad shC E X)) (As := [.int (nI 5), .int (-1 : Int32), .int (nI 0)]) (rest := []) (res := q) C (c_X3_total l D cy ad E X (nI 5) (-1 : Int32) (nI 0) hq) zml_RX5_163 zcv_X3_total (zW_get _ sC_1) rfl rfl rfl ⟨Nat.le_of_ble_eq_true rfl, Nat.le_of_ble_eq_true rfl⟩ rfl rfl (Nat.le_of_ble_eq_true rfl) ⟨Nat.zero_le _, Nat.zero_le _⟩ dX5_use_7 ?_
  refine g_istore_n (L' := [(1, .int q), (0, .ref (ad 0))]) C dX5_use_10 rfl (by decide) rfl ?_
  refine g_iload_n (j := 0) C dX5_use_11 rfl rfl ?_
  refine g_if_ne C dX5_use_12 (tgt := 26) (by decide) (fun h1 => ?_) (fun h1 => ?_)
  · replace h := (if_neg h1).symm.trans h
    obtain ⟨q2, hq2, h⟩ := bind_isome h
    obtain rfl := Option.some.inj h
    refine g_aload_n (j := 1) C dX5_use_26 rfl rfl ?_
    refine g_getr (k := 0) (N := 11) C sC_0 rfl zin_RX5 (by decide) rfl zfl_RX5_10 rfl dX5_use_27 ?_
    refine g_iconst (v := (nI 2)) C dX5_use_30 (by decide) ?_
    refine g_iconst (v := (-1 : Int32)) C dX5_use_31 (by decide) ?_
    refine g_iconst (v := (nI 0)) C dX5_use_32 (by decide) ?_
    refine g_vi (ws' := (zW cy ad shC E X)) (As := [.int (nI 2), .int (-1 : Int32), .int (nI 0)]) (rest := []) (res := q2) C (c_X3_total l D cy ad E X (nI 2) (-1 : Int32) (nI 0) hq2) zml_RX5_163 zcv_X3_total (zW_get _ sC_1) rfl rfl rfl ⟨Nat.le_of_ble_eq_true rfl, Nat.le_of_ble_eq_true rfl⟩ rfl rfl (Nat.le_of_ble_eq_true rfl) ⟨Nat.zero_le _, Nat.zero_le _⟩ dX5_use_33 ?_
    refine g_i2d C dX5_use_36 ?_
    refine g_iload_n (j := 0) C dX5_use_37 rfl rfl ?_
    refine g_i2d C dX5_use_38 ?_
    refine g_ddiv C (zddiv _ _ h1) dX5_use_39 ?_
    exact y_dret C hr ⟨rfl, rfl, rfl⟩ (by show 0 + 0 + 0 ≤ 1; omega) (by show 0 + 0 + 0 ≤ 6; omega) dX5_use_40
  · replace h := (if_pos h1).symm.trans h
    obtain rfl := Option.some.inj h
    exact y_dthrowW 4 ⟨rfl, rfl⟩ C hE.2.1 (hE.2.2.1 _ (List.mem_of_getElem? (i := 0) rfl)) hlt hout (by decide) ⟨by decide +kernel, by decide +kernel⟩ zcl_338 zini_4 zat_342 zgw_342 dX5_use_15 dX5_use_18 dX5_use_19 dX5_use_22 dX5_use_25 ⟨Nat.le_of_ble_eq_true rfl, Nat.le_of_ble_eq_true rfl⟩ (by show 0 + 0 + 1 ≤ 1; omega) (by show 0 + 0 + 6 ≤ 6; omega) (by show 0 + 0 + 1 ≤ 1; omega) (by show 0 + 0 + 6 ≤ 6; omega)
