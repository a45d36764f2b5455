/-! ROWS FOR CONSTRUCTORS: what is made goes to the head of the world -/
theorem z_obj : Cond.instanceMethod objectInit ∈ zAll ∧ Cond.code objectInit ⟨#[0xb1]⟩ 1 none ∈ zAll := ⟨zg (z_t1 (List.mem_of_getElem? (i := 37) (by decide +kernel))) (by decide +kernel), zg (z_t1 (List.mem_of_getElem? (i := 38) (by decide +kernel))) (by decide +kernel)⟩
def zCalI (y : MethodName) (cc : ByteArray) (maxL n : Nat) : Prop := Cond.instanceMethod y ∈ zAll ∧ Cond.initialized y.cls ∈ zAll ∧ Cond.code y cc maxL none ∈ zAll ∧ y.name = "<init>" ∧ (y.cls ≠ "java/lang/invoke/MethodHandle" ∧ y.cls ≠ "java/lang/invoke/VarHandle" ∧ (parseMethodDescriptor y.desc).map (fun d => d.parameters.length) = some n)
theorem zMt.ofI {l : Launch} {y : MethodName} {rm : Room} {D : va_G} {tys : List (ClassId × FieldType)} {EV : zEV} {ws : va_W} {av : List Value} {mc ms : Nat} {Qc : (Nat → Prop) → Array Value → State → Outcome → State → Prop} {cc : ByteArray} {maxL : Nat} {ret : Option FieldType}
    (hy : plainName y.cls = true) (hav : (lg_sl av).length ≤ maxL)
    (body : ∀ (p : Program) (e : Env) (s : State) (m : MethodId) (below : List Frame) (meth : Method) (c : Code) (A : Nat → Prop), zC p s m av.toArray meth c cc maxL y.cls D tys A → meth.sig.returnType = ret → EV A s s.heap → meth.name = y.name →
      zG p l e rm s m av.toArray below meth c maxL D A 0 0 (MQ below (Qc A) av.toArray s mc ms A) ws 0 (lv_args 0 av) []) : zMt l y cc maxL ret rm D tys EV ws av mc ms Qc := by
  intro sz
  refine Met.ofW (cc := cc) (maxL := maxL) (ret := ret) (ws' := zAll) hy rfl ?_
  intro p e s m args below meth c s₁ B hml hv
  obtain ⟨rfl, hsz, hP, hK, hD0, hE⟩ := hv
  subst hsz
  have hl := lv_entry av (n := maxL) hav
  rw [lg_entry_eq]
  exact body p e s m below meth c (va_A ws s.heap.size) ⟨B.exec, B.bytes, hml, findClass_of_methodNamed B.named, fun w hw => atoms_spec (ws := zTs y cc maxL ret) B.pre w (List.mem_cons_of_mem _ hw), hK, fun q h => Or.inr h, B.notSynchronized⟩ B.returns hE (name_of_methodNamed B.named B.method).1 s.heap [] _ hP (hD0.self (sz := s.heap.size)) va_S.rf hl
section CROWS
variable {p : Program} {l : Launch} {e : Env} {R : Room} {s : State} {m : MethodId} {args : Array Value} {below : List Frame} {meth : Method} {c : Code} {cc : ByteArray} {nL : Nat} {own : String} {D : va_G} {A : Nat → Prop} {cells slots : Nat} {Q : State → Prop} {ws : va_W} {pc : Nat} {L : List (Nat × Value)} {st : List Value} {cy : Nat → ClassId} {EV : zEV}
theorem n_head {x : Nat × va_E} (kk : zG p l e R s m args below meth c nL D A cells slots Q (x :: ws) pc L st) : zG p l e R s m args below meth c nL D A cells slots Q (ws ++ [x]) pc L st :=
  zG.less (ws' := x :: ws) (l' := ws ++ [x]) (List.perm_append_singleton x ws).symm (List.Sublist.refl _) kk
theorem n_new (C : zC p s m args meth c cc nL own D (zTy cy) A) {C0 : String} {T : u_T} {N ci index : Nat} {ty0 : Nat → FieldType} {fs : List Value} (hin : ∀ w ∈ u_ws C0 T N, w ∈ zAll) (hty : ∀ k, k < N → parseFieldDescriptor (T k).2.2.1 = some (ty0 k)) (hcl : Cond.classLink own index C0 ∈ zAll) (hinst : Cond.instantiable C0 N ∈ zAll) (hini : Cond.initialized C0 ∈ zAll) (hc : vwCl[ci]? = some (C0, T, N)) (hfs : ∀ j, j < N → defaultValue (ty0 j) = vp_V fs j) (hcells : cells + 1 ≤ R.cells) (hslots : slots + N ≤ R.slots) (hdg : decode cc pc = .ok (.new index, 3))
    (kk : ∀ q : Nat, zG p l e R s m args below meth c nL D A (cells + 1) (slots + N) Q ((q, .inr (ci, fs)) :: ws) (pc + 3) L (.ref q :: st)) : zG p l e R s m args below meth c nL D A cells slots Q ws pc L st := by
  obtain ⟨hx, hb, hml, hown, hts, hK, hA, hlk⟩ := C
  intro H locs ls hP hD hS hl9
  exact va_new hx hb hts hin ty0 hty hown (hts _ hcl) (hts _ hinst) (hts _ hini) hK hP hD hS hA hc hfs hcells hslots hdg (fun q H1 hP1 hD1 hS1 => n_head (kk q) H1 locs ls hP1 hD1 hS1 hl9)
theorem n_newa (C : zC p s m args meth c cc nL own D (zTy cy) A) {atype : ArrayType} {ty : FieldType} {a0 : vp_A} {n : Int32} {N k : Nat} (hk : (zTy cy)[k]? = some (cy k, ty)) (hnq : ∀ C9, ty ≠ .object C9) (hat : newarray.typeOf atype = ty) (harr : Cond.arrayClass ty ∈ zAll) (ha : ∀ cA : ClassId, vp_cell cA a0 = arrV cA N (fun _ => defaultValue ty)) (hn : ¬ n < 0) (hN : n.toNatClampNeg = N) (hb9 : N * componentBytes ty ≤ 536870912) (hc9 : cells + 1 ≤ R.cells) (hs9 : slots + N ≤ R.slots) (hdg : decode cc pc = .ok (.newarray atype, 2))
    (kk : ∀ q : Nat, zG p l e R s m args below meth c nL D A (cells + 1) (slots + N) Q ((q, .inl (cy k, a0)) :: ws) (pc + 2) L (.ref q :: st)) : zG p l e R s m args below meth c nL D A cells slots Q ws pc L (.int n :: st) := by
  obtain ⟨hx, hb, hml, hown, hts, hK, hA, hlk⟩ := C
  intro H locs ls hP hD hS hl9
  refine va_newa (atype := atype) (ty := ty) (a0 := a0) hx hb (by rw [hat]; exact hts _ harr) hat hK hP hD hS hA ha hn hN hb9 hc9 hs9 hdg (fun q cA H1 hK1 hP1 hD1 hS1 => ?_)
  have e1 : va_RA s cA ty := (hK1.2 (zTy cy).length (cA, ty) (by rw [List.getElem?_append_right (Nat.le_refl _), Nat.sub_self]; rfl)).2
  have e2 : va_RA s (cy k) ty := (hK.2 k (cy k, ty) hk).2
  have e3 : cA = cy k := by
    cases ty with
    | object C9 => exact absurd rfl (hnq C9)
    | _ => exact Option.some.inj (Eq.trans (Eq.symm e1) e2)
  subst e3
  exact n_head (kk q) H1 locs ls hP1 hD1 hS1 hl9
theorem n_newq (C : zC p s m args meth c cc nL own D (zTy cy) A) {index : Nat} {n : Int32} {N : Nat} (hcl : Cond.classLink own index RX3 ∈ zAll) (hover : va_AO RX3 s) (hn : ¬ n < 0) (hN : n.toNatClampNeg = N) (hb9 : N * 4 ≤ 536870912) (hc9 : cells + 1 ≤ R.cells) (hs9 : slots + N ≤ R.slots) (hdg : decode cc pc = .ok (.anewarray index, 3))
    (kk : ∀ q : Nat, zG p l e R s m args below meth c nL D A (cells + 1) (slots + N) Q ((q, .inl (cy 3, N, .inr (.inr (.inr (.inr (fun _ => none)))))) :: ws) (pc + 3) L (.ref q :: st)) : zG p l e R s m args below meth c nL D A cells slots Q ws pc L (.int n :: st) := by
  obtain ⟨hx, hb, hml, hown, hts, hK, hA, hlk⟩ := C
  intro H locs ls hP hD hS hl9
  refine va_newq hx hb hown (hts _ hcl) hover hK hP hD hS hA hn hN hb9 hc9 hs9 hdg (fun q cA H1 hK1 hP1 hD1 hS1 => ?_)
  obtain ⟨k1, c1, -, -, -, e1⟩ := (hK1.2 (zTy cy).length (cA, .object RX3) (by rw [List.getElem?_append_right (Nat.le_refl _), Nat.sub_self]; rfl)).2
  obtain ⟨k2, c2, -, -, -, e2⟩ := (hK.2 3 (cy 3, .object RX3) rfl).2
  have e3 : cA = cy 3 := Option.some.inj (Eq.trans (Eq.symm e1) e2)
  subst e3
  exact n_head (kk q) H1 locs ls hP1 hD1 hS1 hl9
theorem n_obj (C : zC p s m args meth c cc nL own D (zTy cy) A) {a index : Nat} (hlink : Cond.methodLink own index objectInit ∈ zAll) (hf : 1 ≤ R.frames) (hlo : (st.map fun v => v.category).sum + 12 ≤ R.locals) (hdg : decode cc pc = .ok (.invokespecial index, 3))
    (kk : zG p l e R s m args below meth c nL D A cells slots Q ws (pc + 3) L st) : zG p l e R s m args below meth c nL D A cells slots Q ws pc L (.ref a :: st) := by
  obtain ⟨hx, hb, hml, hown, hts, hK, hA, hlk⟩ := C
  intro H locs ls hP hD hS hl9
  exact W.objInit hx hb hown (hts _ hlink) (hts _ z_obj.1) (hts _ z_obj.2) (g := F0 m pc ls (.ref a :: st)) rfl (hl9.1.trans hml.symm) rfl hdg hf (by show 2 * 0 + _ + 12 ≤ _; omega) (kk H locs ls hP hD hS hl9)
theorem n_init {P : va_W → Prop} {index n maxL mc ms a : Nat} {y : MethodName} {bytes : ByteArray} {rm : Room} {As rest : List Value} (hG : zGE EV) (hE : EV A s s.heap) (C : zC p s m args meth c cc nL own D (zTy cy) A) (hM : zMt l y bytes maxL none rm D (zTy cy) EV ws (.ref a :: As) mc ms (tV D (zTy cy) P)) (hlk9 : Cond.methodLink own index y ∈ zAll) (hcal : zCalI y bytes maxL n) (hrc : rm.cells = mc) (hrs : rm.slots = ms) (hR : rm.frames + 1 ≤ R.frames ∧ 8 + (maxL + 11) + rm.locals ≤ R.locals) (hn : As.length = n) (hst : st = As.reverse ++ .ref a :: rest) (h8 : (rest.map fun v => v.category).sum ≤ 8) (hf : cells + mc ≤ R.cells ∧ slots + ms ≤ R.slots) (hdg : decode cc pc = .ok (.invokespecial index, 3))
    (kk : ∀ (w : va_W), P w → zG p l e R s m args below meth c nL D A (cells + mc) (slots + ms) Q w (pc + 3) L rest) : zG p l e R s m args below meth c nL D A cells slots Q ws pc L st := by
  obtain ⟨hx, hb, hml, hown, hts, hK, hA, hlk⟩ := C
  intro H locs ls hP hD hS hl9
  subst hst
  refine va_callv (va_runI (As := As) (rest := rest) ⟨hx, hb, hml, hown, hts⟩ (hM H.size) (cwI n hts (z_go (y := y) (cc := bytes) (n := maxL) (r := none) (pre := []) (fun _ h => nomatch h) hcal.2.2.1) rfl hrc hrs (hts _ hcal.2.1) (hts _ hlk9) (hts _ hcal.1) hcal.2.2.2.1 hcal.2.2.2.2 hR) ⟨zPt_blind hG D (zTy cy) ws _ _, fun U hU hW => ⟨rfl, by rw [hU], by rw [hU]; exact hP, va_K.moved hW.alike hK, hD.weaken (fun _ _ _ _ => trivial), hG.at hE hS hU hW (z_free hD hS hA)⟩⟩ rfl hn hl9.1 rfl (lv_room h8) hdg hf) hS (fun q _ hq9 => z_free hD hS hA q hq9) (z_free hD hS hA) (fun u t H1 locs1 ht hvm hw9 hB hz hk1 hS1 => ?_)
  obtain ⟨hP1, hK1, hD1⟩ := hB
  rw [ht] at hP1
  exact kk u hw9 H1 locs1 ls hP1 (hD1.weaken (fun _ q _ hq9 => z_free hD hS hA q.1 hq9)) hS1 hl9
theorem n_initN {P : va_W → Prop} {index n maxL mc ms a : Nat} {y : MethodName} {host : String} {bytes : ByteArray} {rm : Room} {As rest : List Value} (hG : zGE EV) (hE : EV A s s.heap) (C : zC p s m args meth c cc nL own D (zTy cy) A) (hM : zMt l y bytes maxL none rm D (zTy cy) EV ws (.ref a :: As) mc ms (tV D (zTy cy) P)) (hlk9 : va_Nw (.methodLinkNest own index y host) s) (hcal : zCalI y bytes maxL n) (hrc : rm.cells = mc) (hrs : rm.slots = ms) (hR : rm.frames + 1 ≤ R.frames ∧ 8 + (maxL + 11) + rm.locals ≤ R.locals) (hn : As.length = n) (hst : st = As.reverse ++ .ref a :: rest) (h8 : (rest.map fun v => v.category).sum ≤ 8) (hf : cells + mc ≤ R.cells ∧ slots + ms ≤ R.slots) (hdg : decode cc pc = .ok (.invokespecial index, 3))
    (kk : ∀ (w : va_W), P w → zG p l e R s m args below meth c nL D A (cells + mc) (slots + ms) Q w (pc + 3) L rest) : zG p l e R s m args below meth c nL D A cells slots Q ws pc L st := by
  obtain ⟨hx, hb, hml, hown, hts, hK, hA, hlk⟩ := C
  intro H locs ls hP hD hS hl9
  subst hst
  refine va_callv (va_runIN (As := As) (rest := rest) ⟨hx, hb, hml, hown, hts⟩ (hM H.size) ⟨va_cnB n hts (z_go (y := y) (cc := bytes) (n := maxL) (r := none) (pre := []) (fun _ h => nomatch h) hcal.2.2.1) rfl hrc hrs hlk9 (hts _ hcal.2.1) hcal.2.2.2.2 hR, hcal.2.2.2.1, hts _ hcal.1⟩ ⟨zPt_blind hG D (zTy cy) ws _ _, fun U hU hW => ⟨rfl, by rw [hU], by rw [hU]; exact hP, va_K.moved hW.alike hK, hD.weaken (fun _ _ _ _ => trivial), hG.at hE hS hU hW (z_free hD hS hA)⟩⟩ rfl hn hl9.1 rfl (lv_room h8) hdg hf) hS (fun q _ hq9 => z_free hD hS hA q hq9) (z_free hD hS hA) (fun u t H1 locs1 ht hvm hw9 hB hz hk1 hS1 => ?_)
  obtain ⟨hP1, hK1, hD1⟩ := hB
  rw [ht] at hP1
  exact kk u hw9 H1 locs1 ls hP1 (hD1.weaken (fun _ q _ hq9 => z_free hD hS hA q.1 hq9)) hS1 hl9
theorem n_putF (C : zC p s m args meth c cc nL own D (zTy cy) A) (hin2 : meth.name = "<init>") {ty : FieldType} {ty0 : Nat → FieldType} {v : Value} {q0 ci k N index a : Nat} {fs : List Value} {C0 : String} {T : u_T} {ws' : va_W} (ha : ws[q0]? = some (a, .inr (ci, fs))) (hc : vwCl[ci]? = some (C0, T, N)) (hin : ∀ w ∈ u_ws C0 T N, w ∈ zAll) (hk : k < N) (hlink : (Cond.fieldLink own index (T k).1 (T k).2.1 (T k).2.2.1) ∈ zAll) (hty : ∀ k, k < N → parseFieldDescriptor (T k).2.2.1 = some (ty0 k)) (hnm : ∀ a, a < N → ∀ b, b < N → a ≠ b → (T a).2.1 ≠ (T b).2.1) (hfin : (T k).2.2.2 = true) (hdecl : (T k).1 = own) (hd : parseFieldDescriptor (T k).2.2.1 = some ty) (hn : narrow ty v = v) (hfit : fits ty v = true) (hl : k < fs.length) (hw : ws.set q0 (a, .inr (ci, fs.set k v)) = ws') (hdg : decode cc pc = .ok (.putfield index, 3))
    (kk : zG p l e R s m args below meth c nL D A cells slots Q ws' (pc + 3) L st) : zG p l e R s m args below meth c nL D A cells slots Q ws pc L (v :: .ref a :: st) := by
  obtain ⟨hx, hb, hml, hown, hts, hK, hA, hlk⟩ := C
  subst hw
  intro H locs ls hP hD hS hl9
  exact va_putF (D := D) hx hb hts hin ty0 hty hnm hown hK hP hD hS q0 ha hc k hk (hts _ hlink) (fun _ h => h) hfin hin2 hdecl hd hn hfit hl hdg (fun H1 locs1 hP hD hS => kk H1 locs1 ls hP hD hS hl9)
theorem n_getsN (C : zC p s m args meth c cc nL own D (zTy cy) A) {C0 n d host : String} {v : Value} {index : Nat} (hZ : va_Z C0 n d v A s s.heap) (hlink : va_Nw (.fieldLinkNest own index C0 n d host) s) (hdg : decode cc pc = .ok (.getstatic index, 3))
    (kk : zG p l e R s m args below meth c nL D A cells slots Q ws (pc + 3) L (v :: st)) : zG p l e R s m args below meth c nL D A cells slots Q ws pc L st := by
  obtain ⟨hx, hb, hml, hown, hts, hK, hA, hlk⟩ := C
  intro H locs ls hP hD hS hl9
  exact va_getsN hx hb hZ hS hown (va_Nw.use rfl hlink) (fun _ h => h) hdg (kk H locs ls hP hD hS hl9)
theorem n_astq (C : zC p s m args meth c cc nL own D (zTy cy) A) {q0 qk a n v : Nat} {f : Nat → Option Nat} {i : Int32} {vs : List Value} {ws' : va_W} (ha : ws[q0]? = some (a, .inl (cy 3, n, .inr (.inr (.inr (.inr f)))))) (hv : ws[qk]? = some (v, .inr (7, vs))) (hin : vp_in i n) (hw : ws.set q0 (a, .inl (cy 3, n, .inr (.inr (.inr (.inr (va_up f i.toNatClampNeg (some v))))))) = ws') (hdg : decode cc pc = .ok (.aastore, 1))
    (kk : zG p l e R s m args below meth c nL D A cells slots Q ws' (pc + 1) L st) : zG p l e R s m args below meth c nL D A cells slots Q ws pc L (.ref v :: .int i :: .ref a :: st) := by
  obtain ⟨hx, hb, hml, hown, hts, hK, hA, hlk⟩ := C
  subst hw
  intro H locs ls hP hD hS hl9
  exact va_astq hx hb hK hP hD hS q0 3 qk 7 (r := (RX3, TX3, 8)) ha rfl hv rfl hin hdg (fun H1 locs1 hP hD hS => kk H1 locs1 ls hP hD hS hl9)
theorem n_alen (C : zC p s m args meth c cc nL own D (zTy cy) A) {q0 k a : Nat} {x : vp_A} {ty : FieldType} (ha : ws[q0]? = some (a, .inl (cy k, x))) (hk : (zTy cy)[k]? = some (cy k, ty)) (hdg : decode cc pc = .ok (.arraylength, 1))
    (kk : zG p l e R s m args below meth c nL D A cells slots Q ws (pc + 1) L (.int (nI x.1) :: st)) : zG p l e R s m args below meth c nL D A cells slots Q ws pc L (.ref a :: st) := by
  obtain ⟨hx, hb, hml, hown, hts, hK, hA, hlk⟩ := C
  intro H locs ls hP hD hS hl9
  exact va_alen hx hb hK hP q0 k ha hk rfl hdg (kk H locs ls hP hD hS hl9)
theorem n_iast (C : zC p s m args meth c cc nL own D (zTy cy) A) {q0 n a : Nat} {f : Nat → Int32} {i x : Int32} {ws' : va_W} (ha : ws[q0]? = some (a, .inl (cy 0, n, .inl f))) (hin : vp_in i n) (hw : ws.set q0 (a, .inl (cy 0, n, .inl (upd f i.toNatClampNeg x))) = ws') (hdg : decode cc pc = .ok (.iastore, 1))
    (kk : zG p l e R s m args below meth c nL D A cells slots Q ws' (pc + 1) L st) : zG p l e R s m args below meth c nL D A cells slots Q ws pc L (.int x :: .int i :: .ref a :: st) := by
  obtain ⟨hx, hb, hml, hown, hts, hK, hA, hlk⟩ := C
  subst hw
  intro H locs ls hP hD hS hl9
  exact va_iast hx hb hK hP hD hS q0 0 ha rfl hin hdg (fun H1 locs1 hP hD hS => kk H1 locs1 ls hP hD hS hl9)
end CROWS
/-- a static array of numbers, as it stands at the start -/
def zEi : zEV := fun A U H => zE5 A U H ∧ zA5 "FIRST_SETTINGS" [10, 2, 15, 10, 60, 10] A U H ∧ va_Nw (.fieldLinkNest RX3 42 RX5 "FIRST_SETTINGS" "[I" RX5) U ∧ va_Nw (.methodLinkNest RX5 28 yX2_init RX5) U ∧ va_Nw (.methodLinkNest RX5 35 yX1_init RX5) U ∧ va_AO RX3 U
theorem zNw_ge {w : Cond} (ht : w.onTables = true) (hw : ∀ s U : State, s.WarmedH U.vm → va_Nw w s → va_Nw w U) : zGE (fun _ U _ => va_Nw w U) :=
  ⟨fun A s U H hW h => hw s U hW h, fun A U H H1 h _ => h, fun A B U H h _ => h, fun A u U H hv h => va_Nw.same ht hv.symm h⟩
theorem zAO_ge {C0 : String} : zGE (fun _ U _ => va_AO C0 U) :=
  ⟨fun A s U H hW h => va_AO.moved hW.alike h, fun A U H H1 h _ => h, fun A B U H h _ => h, fun A u U H hv h => va_AO.moved (by rw [hv]; exact Vm.Alike.refl _) h⟩
theorem zEi_ge : zGE zEi := zE5_ge.and ((zA5_ge _ _).and ((zNw_ge rfl (fun _ _ hW h => va_Nw.warmF hW h)).and ((zNw_ge rfl (fun _ _ hW h => va_Nw.warmM hW h)).and ((zNw_ge rfl (fun _ _ hW h => va_Nw.warmM hW h)).and zAO_ge))))
