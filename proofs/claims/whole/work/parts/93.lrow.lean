/-! ROWS FOR THE LAW: helpers that catch, the script, longs and doubles -/
theorem zMet_mono {l : Launch} {x : MethodName} {S : Spec} {P : Array Value → State → Prop} {K : Program → Env → List Frame → State → Array Value → Prop} {Q Q' : Array Value → State → Outcome → State → Prop} (h : MetFree l x S P K Q) (hq : ∀ a s o t, Q a s o t → Q' a s o t) : MetFree l x S P K Q' := fun p e h1 h2 h3 s m args below h4 h5 h6 h7 => by
  obtain ⟨n, o, a1, a2, a3, a4⟩ := h p e h1 h2 h3 s m args below h4 h5 h6 h7
  exact ⟨n, o, a1, a2, a3, hq _ _ _ _ a4⟩
/-- a public method without texts, as one with texts -/
theorem zMx.toY {l : Launch} {y : MethodName} {cc : ByteArray} {maxL : Nat} {ret : Option FieldType} {rm : Room} {D : va_G} {tys : List (ClassId × FieldType)} {ws : va_W} {av : List Value} {code : Nat} {res : Int32} {ws' : va_W} (h : zMx l y cc maxL ret rm D tys ws av code res ws') : zMy l y cc maxL ret rm D tys zTh ws av 1 6 (fun r w => code = 0 ∧ r = res ∧ w = ws') (fun c w => c = code ∧ w = ws') := by
  intro sz
  refine zMet_mono (h sz) (fun a st o t hQ => ?_)
  rcases hQ with ⟨⟨⟨r, u, e1, ⟨e2, e3⟩, e4⟩, e5⟩, h2⟩ | ⟨q, h1, E, ce, L, ⟨⟨e1, e2⟩, e3, e4⟩, h3⟩
  · exact Or.inl ⟨⟨⟨r, ws', e1, ⟨e2, e3, rfl⟩, e4⟩, e5⟩, h2⟩
  · exact Or.inr ⟨q, h1, E, ce, L, ⟨code, ws', ⟨rfl, rfl⟩, e1, e2, e3, e4⟩, h3⟩
def zTw (y : MethodName) (cc : ByteArray) (maxL : Nat) (ret : Option FieldType) (hh : List (Nat × Nat × Nat × Nat)) : List Cond := .codeWith y cc maxL ret hh :: zAll
/-- a method with a table of its own that returns -/
def zMw (l : Launch) (y : MethodName) (cc : ByteArray) (maxL : Nat) (ret : Option FieldType) (hh : List (Nat × Nat × Nat × Nat)) (rm : Room) (D : va_G) (tys : List (ClassId × FieldType)) (EV : zEV) (ws : va_W) (av : List Value) (mc ms : Nat) (Qc : (Nat → Prop) → Array Value → State → Outcome → State → Prop) : Prop :=
  ∀ sz : Nat, Met l y (zTw y cc maxL ret hh) rm (zPt D tys EV ws av sz) (Qc (va_A ws sz)) mc ms (va_A ws sz)
theorem zMw.of {l : Launch} {y : MethodName} {rm : Room} {D : va_G} {tys : List (ClassId × FieldType)} {EV : zEV} {ws : va_W} {av : List Value} {mc ms : Nat} {Qc : (Nat → Prop) → Array Value → State → Outcome → State → Prop} {cc : ByteArray} {maxL : Nat} {ret : Option FieldType} {hh : List (Nat × Nat × Nat × Nat)}
    (hy : plainName y.cls = true) (hav : (lg_sl av).length ≤ maxL)
    (body : ∀ (p : Program) (e : Env) (s : State) (m : MethodId) (below : List Frame) (meth : Method) (c : Code) (A : Nat → Prop), zC p s m av.toArray meth c cc maxL y.cls D tys A → meth.sig.returnType = ret → EV A s s.heap → c.exceptionTable.toList = tableOf hh →
      zG p l e rm s m av.toArray below meth c maxL D A 0 0 (MQ below (Qc A) av.toArray s mc ms A) ws 0 (lv_args 0 av) []) : zMw l y cc maxL ret hh rm D tys EV ws av mc ms Qc := by
  intro sz
  refine va_MetW (cc := cc) (maxL := maxL) (ret := ret) (hh := hh) (ws' := zAll) hy rfl ?_
  intro p e s m args below meth c s₁ B hml hv
  obtain ⟨rfl, hsz, hP, hK, hD0, hE⟩ := hv
  subst hsz
  have hl := lv_entry av (n := maxL) hav
  have ht := vx_table (x := y) B (atoms_spec (ws := zTw y cc maxL ret hh) B.pre _ List.mem_cons_self)
  rw [lg_entry_eq]
  exact body p e s m below meth c (va_A ws s.heap.size) ⟨B.exec, B.bytes, hml, findClass_of_methodNamed B.named, fun w hw => atoms_spec (ws := zTw y cc maxL ret hh) B.pre w (List.mem_cons_of_mem _ hw), hK, fun q h => Or.inr h, B.notSynchronized⟩ B.returns hE ht s.heap [] _ hP (hD0.self (sz := s.heap.size)) va_S.rf hl
/-- pairs of exceptions of which the first is none of the second -/
def zNcs : List (String × String) := [(zExc 1, zExc 3), (zExc 2, zExc 1), (zExc 2, zExc 3), (zExc 5, zExc 1), (zExc 5, zExc 2), (zExc 5, zExc 3), (zExc 6, zExc 1), (zExc 6, zExc 3), (zExc 1, zExc 6)]
def zNcE : zEV := fun _ U _ => ∀ q ∈ zNcs, va_Nc q.1 q.2 U
theorem zNcE_ge : zGE zNcE := ⟨fun A s U H hW h q hq => va_Nc.moved hW.alike (h q hq), fun A U H H1 h _ => h, fun A B U H h _ => h, fun A u U H hv h q hq => va_Nc.moved (by rw [hv]; exact Vm.Alike.refl _) (h q hq)⟩
def zEw : zEV := fun A U H => zE5 A U H ∧ zNcE A U H
theorem zEw_ge : zGE zEw := zE5_ge.and zNcE_ge
/-- E, thrown at pc, is caught at tgt -/
def zCatch (c : Code) (own : String) (args : Array Value) (s : State) (E : String) (pc tgt : Nat) : Prop := ∃ (pre : List ExceptionTableEntry) (x : ExceptionTableEntry) (suf : List ExceptionTableEntry) (name : String), c.exceptionTable.toList = pre ++ x :: suf ∧ (∀ z ∈ pre, covers z pc = false ∨ (z.catchType ≠ 0 ∧ ∃ nm : String, (Cond.classLink own z.catchType nm).before args s = true ∧ va_Nc E nm s)) ∧ covers x pc = true ∧ x.catchType ≠ 0 ∧ (Cond.classLink own x.catchType name).before args s = true ∧ (Cond.castable E name).before args s = true ∧ x.handlerPc = tgt
section LROWS
variable {p : Program} {l : Launch} {e : Env} {R : Room} {s : State} {m : MethodId} {args : Array Value} {below : List Frame} {meth : Method} {c : Code} {cc : ByteArray} {nL : Nat} {own : String} {D : va_G} {tys : List (ClassId × FieldType)} {A : Nat → Prop} {cells slots : Nat} {Q : State → Prop} {ws : va_W} {pc : Nat} {L : List (Nat × Value)} {st : List Value} {cy : Nat → ClassId} {EV : zEV}
theorem vx_mono {H : Heap} {locs : List Loc} {mc ms : Nat} {g : JFrame} {rest : List Value} {Qa Qa' : State → Outcome → State → Prop} {XC XC' : String → State → State → Prop} {free : Addr → Prop} (hr : vx_Run p l e R s m args below meth c H locs cells slots mc ms g rest Qa XC free) (hq : ∀ st o t, Qa st o t → Qa' st o t) (hx : ∀ E st t, XC E st t → XC' E st t) : vx_Run p l e R s m args below meth c H locs cells slots mc ms g rest Qa' XC' free := by
  intro T hT X
  rcases hr T hT X with ⟨v, st₀, t, T', L, h0, X', hL, e1, e2, hqa, hg⟩ | ⟨q, st₀, t, T', L, E, ce, h0, X', hL, e1, e2, hxc, hce, hcv, hcl, hst⟩
  · exact Or.inl ⟨v, st₀, t, T', L, h0, X', hL, e1, e2, hq _ _ _ hqa, hg⟩
  · exact Or.inr ⟨q, st₀, t, T', L, E, ce, h0, X', hL, e1, e2, hx _ _ _ hxc, hce, hcv, hcl, hst⟩
variable {index n maxL mc ms : Nat} {y : MethodName} {rm : Room} {As rest : List Value} {a : Nat} {bytes : ByteArray} {ret : Option FieldType} {C0 : String}
theorem w_Yi {P : Int32 → va_W → Prop} {X : Nat → va_W → Prop} (hG : zGE EV) (hE : EV A s s.heap) (C : zC p s m args meth c cc nL own D tys A) (hM : zMy l y bytes maxL ret rm D tys EV ws (.ref a :: As) mc ms P X) (hlk9 : Cond.methodLink own index y ∈ zAll) (hcal : zCalV C0 y bytes maxL ret n) (hrec : zRec s A D ws a C0) (hrc : rm.cells = mc) (hrs : rm.slots = ms) (hR : rm.frames + 1 ≤ R.frames ∧ 8 + (maxL + 11) + rm.locals ≤ R.locals) (hn : As.length = n) (hst : st = As.reverse ++ .ref a :: rest) (h8 : (rest.map fun v => v.category).sum ≤ 8) (hf : cells + mc ≤ R.cells ∧ slots + ms ≤ R.slots) (hdg : decode cc pc = .ok (.invokevirtual index, 3))
    (kx : ∀ (code : Nat) (w : va_W), X code w → code ≠ 0 → ∃ tgt, zCatch c own args s (zExc code) pc tgt ∧ ∀ q : Nat, zG p l e R s m args below meth c nL D A (cells + mc) (slots + ms) Q w tgt L [.ref q])
    (kk : ∀ (r : Int32) (w : va_W), P r w → zG p l e R s m args below meth c nL D A (cells + mc) (slots + ms) Q w (pc + 3) L (.int r :: rest)) : zG p l e R s m args below meth c nL D A cells slots Q ws pc L st := by
  obtain ⟨hx, hb, hml, hown, hts, hK, hA, hlk⟩ := C
  intro H locs ls hP hD hS hl9
  subst hst
  have hr := vx_runV (As := As) (rest := rest) (g := F0 m pc ls (As.reverse ++ .ref a :: rest)) (cells := cells) (slots := slots) (p := p) (l := l) (e := e) (below := below) (meth := meth) (locs := locs) ⟨hx, hb, hml, hown, hts⟩ (hM H.size) (cwV n hts (z_goV hlk9 hcal) rfl hrc hrs hcal.2.2.2.2 hR) ⟨zPt_blind hG D tys ws _ _, hrec H locs hP hS, fun U hU hW => ⟨rfl, by rw [hU], by rw [hU]; exact hP, va_K.moved hW.alike hK, hD.weaken (fun _ _ _ _ => trivial), hG.at hE hS hU hW (z_free hD hS hA)⟩⟩ rfl hn hl9.1 rfl (lv_room h8) hdg hf
  refine vx_calli (S := va_W) (SX := Nat × va_W) (px := fun u => X u.1 u.2 ∧ u.1 ≠ 0) (BX := fun E u t => E = zExc u.1 ∧ zB D tys (va_A ws H.size) u.2 t) (AX := va_A ws H.size) (vx_mono hr (fun _ _ _ h => h) (fun E st t h => ?_)) hS (fun q _ hq9 => z_free hD hS hA q hq9) (z_free hD hS hA) (fun q _ hq9 => z_free hD hS hA q hq9) (fun E ce q9 u t H1 locs1 ht hvm hp hB hz hk1 hS1 hce hcv hcl => ?_) (fun r u t H1 locs1 ht hvm hw9 hB hz hk1 hS1 => ?_)
  · obtain ⟨code, w, h1, h2, h3, h4, h5⟩ := h
    exact ⟨(code, w), ⟨h1, h2⟩, ⟨h3, h4⟩, h5⟩
  · obtain ⟨code, w⟩ := u
    obtain ⟨hX, hne⟩ := hp
    obtain ⟨hEe, hP1, hK1, hD1⟩ := hB
    dsimp only at hX hne hEe hP1 hK1 hD1
    subst hEe
    rw [ht] at hP1
    obtain ⟨tgt, ⟨pre, x, suf, name, e1, e2, e3, e4, e5, e6, e7⟩, kz⟩ := kx code w hX hne
    subst e7
    exact vx_catch hown pre x suf e1 e2 e3 e4 e5 e6 hce hcv hcl (kz q9 H1 locs1 ls hP1 (hD1.weaken (fun _ q _ hq9 => z_free hD hS hA q.1 hq9)) hS1 hl9)
  · obtain ⟨hP1, hK1, hD1⟩ := hB
    rw [ht] at hP1
    exact kk r u hw9 H1 locs1 ls hP1 (hD1.weaken (fun _ q _ hq9 => z_free hD hS hA q.1 hq9)) hS1 hl9
theorem w_Yd {P : UInt64 → va_W → Prop} {X : Nat → va_W → Prop} (hG : zGE EV) (hE : EV A s s.heap) (C : zC p s m args meth c cc nL own D tys A) (hM : zMd l y bytes maxL ret rm D tys EV ws (.ref a :: As) mc ms P X) (hlk9 : Cond.methodLink own index y ∈ zAll) (hcal : zCalV C0 y bytes maxL ret n) (hrec : zRec s A D ws a C0) (hrc : rm.cells = mc) (hrs : rm.slots = ms) (hR : rm.frames + 1 ≤ R.frames ∧ 8 + (maxL + 11) + rm.locals ≤ R.locals) (hn : As.length = n) (hst : st = As.reverse ++ .ref a :: rest) (h8 : (rest.map fun v => v.category).sum ≤ 8) (hf : cells + mc ≤ R.cells ∧ slots + ms ≤ R.slots) (hdg : decode cc pc = .ok (.invokevirtual index, 3))
    (kx : ∀ (code : Nat) (w : va_W), X code w → code ≠ 0 → ∃ tgt, zCatch c own args s (zExc code) pc tgt ∧ ∀ q : Nat, zG p l e R s m args below meth c nL D A (cells + mc) (slots + ms) Q w tgt L [.ref q])
    (kk : ∀ (r : UInt64) (w : va_W), P r w → zG p l e R s m args below meth c nL D A (cells + mc) (slots + ms) Q w (pc + 3) L (.double r :: rest)) : zG p l e R s m args below meth c nL D A cells slots Q ws pc L st := by
  obtain ⟨hx, hb, hml, hown, hts, hK, hA, hlk⟩ := C
  intro H locs ls hP hD hS hl9
  subst hst
  have hr := vx_runV (As := As) (rest := rest) (g := F0 m pc ls (As.reverse ++ .ref a :: rest)) (cells := cells) (slots := slots) (p := p) (l := l) (e := e) (below := below) (meth := meth) (locs := locs) ⟨hx, hb, hml, hown, hts⟩ (hM H.size) (cwV n hts (z_goV hlk9 hcal) rfl hrc hrs hcal.2.2.2.2 hR) ⟨zPt_blind hG D tys ws _ _, hrec H locs hP hS, fun U hU hW => ⟨rfl, by rw [hU], by rw [hU]; exact hP, va_K.moved hW.alike hK, hD.weaken (fun _ _ _ _ => trivial), hG.at hE hS hU hW (z_free hD hS hA)⟩⟩ rfl hn hl9.1 rfl (lv_room h8) hdg hf
  refine vx_calld (S := va_W) (SX := Nat × va_W) (px := fun u => X u.1 u.2 ∧ u.1 ≠ 0) (BX := fun E u t => E = zExc u.1 ∧ zB D tys (va_A ws H.size) u.2 t) (AX := va_A ws H.size) (vx_mono hr (fun _ _ _ h => h) (fun E st t h => ?_)) hS (fun q _ hq9 => z_free hD hS hA q hq9) (z_free hD hS hA) (fun q _ hq9 => z_free hD hS hA q hq9) (fun E ce q9 u t H1 locs1 ht hvm hp hB hz hk1 hS1 hce hcv hcl => ?_) (fun r u t H1 locs1 ht hvm hw9 hB hz hk1 hS1 => ?_)
  · obtain ⟨code, w, h1, h2, h3, h4, h5⟩ := h
    exact ⟨(code, w), ⟨h1, h2⟩, ⟨h3, h4⟩, h5⟩
  · obtain ⟨code, w⟩ := u
    obtain ⟨hX, hne⟩ := hp
    obtain ⟨hEe, hP1, hK1, hD1⟩ := hB
    dsimp only at hX hne hEe hP1 hK1 hD1
    subst hEe
    rw [ht] at hP1
    obtain ⟨tgt, ⟨pre, x, suf, name, e1, e2, e3, e4, e5, e6, e7⟩, kz⟩ := kx code w hX hne
    subst e7
    exact vx_catch hown pre x suf e1 e2 e3 e4 e5 e6 hce hcv hcl (kz q9 H1 locs1 ls hP1 (hD1.weaken (fun _ q _ hq9 => z_free hD hS hA q.1 hq9)) hS1 hl9)
  · obtain ⟨hP1, hK1, hD1⟩ := hB
    rw [ht] at hP1
    exact kk r u hw9 H1 locs1 ls hP1 (hD1.weaken (fun _ q _ hq9 => z_free hD hS hA q.1 hq9)) hS1 hl9
theorem t_Vd {P : UInt64 → va_W → Prop} (hG : zGE EV) (hE : EV A s s.heap) (C : zC p s m args meth c cc nL own D tys A) (hM : zMt l y bytes maxL ret rm D tys EV ws (.ref a :: As) mc ms (tD D tys P)) (hlk9 : Cond.methodLink own index y ∈ zAll) (hcal : zCalV C0 y bytes maxL ret n) (hrec : zRec s A D ws a C0) (hrc : rm.cells = mc) (hrs : rm.slots = ms) (hR : rm.frames + 1 ≤ R.frames ∧ 8 + (maxL + 11) + rm.locals ≤ R.locals) (hn : As.length = n) (hst : st = As.reverse ++ .ref a :: rest) (h8 : (rest.map fun v => v.category).sum ≤ 8) (hf : cells + mc ≤ R.cells ∧ slots + ms ≤ R.slots) (hdg : decode cc pc = .ok (.invokevirtual index, 3))
    (kk : ∀ (r : UInt64) (w : va_W), P r w → zG p l e R s m args below meth c nL D A (cells + mc) (slots + ms) Q w (pc + 3) L (.double r :: rest)) : zG p l e R s m args below meth c nL D A cells slots Q ws pc L st := by
  obtain ⟨hx, hb, hml, hown, hts, hK, hA, hlk⟩ := C
  intro H locs ls hP hD hS hl9
  subst hst
  refine va_calld (va_runV (As := As) (rest := rest) ⟨hx, hb, hml, hown, hts⟩ (hM H.size) (cwV n hts (z_goV hlk9 hcal) rfl hrc hrs hcal.2.2.2.2 hR) ⟨zPt_blind hG D tys ws _ _, hrec H locs hP hS, fun U hU hW => ⟨rfl, by rw [hU], by rw [hU]; exact hP, va_K.moved hW.alike hK, hD.weaken (fun _ _ _ _ => trivial), hG.at hE hS hU hW (z_free hD hS hA)⟩⟩ rfl hn hl9.1 rfl (lv_room h8) hdg hf) hS (fun q _ hq9 => z_free hD hS hA q hq9) (z_free hD hS hA) (fun r u t H1 locs1 ht hvm hw9 hB hz hk1 hS1 => ?_)
  obtain ⟨hP1, hK1, hD1⟩ := hB
  rw [ht] at hP1
  exact kk r u hw9 H1 locs1 ls hP1 (hD1.weaken (fun _ q _ hq9 => z_free hD hS hA q.1 hq9)) hS1 hl9
def zCalW (own : String) (index : Nat) (y : MethodName) (cc : ByteArray) (maxL : Nat) (ret : Option FieldType) (hh : List (Nat × Nat × Nat × Nat)) (n : Nat) : Prop := (Cond.methodLink own index y ∈ zAll ∧ Cond.static y ∈ zAll ∧ Cond.initialized y.cls ∈ zAll ∧ Cond.codeWith y cc maxL ret hh ∈ zAll) ∧ (y.cls ≠ "java/lang/invoke/MethodHandle" ∧ y.cls ≠ "java/lang/invoke/VarHandle" ∧ (parseMethodDescriptor y.desc).map (fun d => d.parameters.length) = some n)
theorem zCalW.good {hh : List (Nat × Nat × Nat × Nat)} (h : zCalW own index y bytes maxL ret hh n) : GoodIn zAll (va_wsS own index y (zTw y bytes maxL ret hh)) := by
  intro w hw
  have hm : w ∈ zAll := by
    unfold va_wsS at hw
    rcases List.mem_append.mp hw with h1 | h1
    · simp only [List.mem_cons, List.not_mem_nil, or_false] at h1
      rcases h1 with rfl | rfl | rfl
      · exact h.1.1
      · exact h.1.2.1
      · exact h.1.2.2.1
    · rcases List.mem_cons.mp h1 with h2 | h2
      · rw [h2]; exact h.1.2.2.2
      · exact h2
  exact ⟨hm, good_of_word (zAll_good hm)⟩
theorem t_SWi {P : Int32 → va_W → Prop} {hh : List (Nat × Nat × Nat × Nat)} (hG : zGE EV) (hE : EV A s s.heap) (C : zC p s m args meth c cc nL own D tys A) (hM : zMw l y bytes maxL ret hh rm D tys EV ws As mc ms (tI D tys P)) (hcal : zCalW own index y bytes maxL ret hh n) (hrc : rm.cells = mc) (hrs : rm.slots = ms) (hR : rm.frames + 1 ≤ R.frames ∧ 8 + (maxL + 11) + rm.locals ≤ R.locals) (hn : As.length = n) (hst : st = As.reverse ++ rest) (h8 : (rest.map fun v => v.category).sum ≤ 8) (hf : cells + mc ≤ R.cells ∧ slots + ms ≤ R.slots) (hdg : decode cc pc = .ok (.invokestatic index, 3))
    (kk : ∀ (r : Int32) (w : va_W), P r w → zG p l e R s m args below meth c nL D A (cells + mc) (slots + ms) Q w (pc + 3) L (.int r :: rest)) : zG p l e R s m args below meth c nL D A cells slots Q ws pc L st := by
  obtain ⟨hx, hb, hml, hown, hts, hK, hA, hlk⟩ := C
  intro H locs ls hP hD hS hl9
  subst hst
  refine va_calli (vx_runSW (hh := hh) (As := As) (rest := rest) ⟨hx, hb, hml, hown, hts⟩ (hM H.size) (vx_cwSW n hts hcal.good rfl hrc hrs hcal.2 hR) ⟨zPt_blind hG D tys ws _ _, fun U hU hW => ⟨rfl, by rw [hU], by rw [hU]; exact hP, va_K.moved hW.alike hK, hD.weaken (fun _ _ _ _ => trivial), hG.at hE hS hU hW (z_free hD hS hA)⟩⟩ rfl hn hl9.1 rfl (lv_room h8) hdg hf) hS (fun q _ hq9 => z_free hD hS hA q hq9) (z_free hD hS hA) (fun r u t H1 locs1 ht hvm hw9 hB hz hk1 hS1 => ?_)
  obtain ⟨hP1, hK1, hD1⟩ := hB
  rw [ht] at hP1
  exact kk r u hw9 H1 locs1 ls hP1 (hD1.weaken (fun _ q _ hq9 => z_free hD hS hA q.1 hq9)) hS1 hl9
-- longs, doubles
theorem n_i2l (C : zC p s m args meth c cc nL own D tys A) {x : Int32} (hdg : decode cc pc = .ok (.i2l, 1))
    (kk : zG p l e R s m args below meth c nL D A cells slots Q ws (pc + 1) L (.long x.toInt64 :: st)) : zG p l e R s m args below meth c nL D A cells slots Q ws pc L (.int x :: st) := by
  obtain ⟨hx, hb, hml, hown, hts, hK, hA, hlk⟩ := C
  intro H locs ls hP hD hS hl9
  exact lv_i2l hx hb hdg rfl (kk H locs ls hP hD hS hl9)
theorem n_lconst (C : zC p s m args meth c cc nL own D tys A) {k : Fin 2} {v : Int64} (hdg : decode cc pc = .ok (.lconst k, 1)) (hv : Int64.ofNat (k : Nat) = v)
    (kk : zG p l e R s m args below meth c nL D A cells slots Q ws (pc + 1) L (.long v :: st)) : zG p l e R s m args below meth c nL D A cells slots Q ws pc L st := by
  obtain ⟨hx, hb, hml, hown, hts, hK, hA, hlk⟩ := C
  intro H locs ls hP hD hS hl9
  exact lv_lconst hx hb hdg hv (kk H locs ls hP hD hS hl9)
theorem n_lcmp (C : zC p s m args meth c cc nL own D tys A) {x y : Int64} (hdg : decode cc pc = .ok (.lcmp, 1))
    (kk : zG p l e R s m args below meth c nL D A cells slots Q ws (pc + 1) L (.int (lg_cmp x y) :: st)) : zG p l e R s m args below meth c nL D A cells slots Q ws pc L (.long y :: .long x :: st) := by
  obtain ⟨hx, hb, hml, hown, hts, hK, hA, hlk⟩ := C
  intro H locs ls hP hD hS hl9
  exact W.lcmp hx hb hdg (kk H locs ls hP hD hS hl9)
theorem n_dcmp (C : zC p s m args meth c cc nL own D tys A) {x y : UInt64} {op : CmpOp} (hdg : decode cc pc = .ok (.dcmp op, 1))
    (kk : zG p l e R s m args below meth c nL D A cells slots Q ws (pc + 1) L (.int (Op.cmpValue (FP.dcmp x y) op) :: st)) : zG p l e R s m args below meth c nL D A cells slots Q ws pc L (.double y :: .double x :: st) := by
  obtain ⟨hx, hb, hml, hown, hts, hK, hA, hlk⟩ := C
  intro H locs ls hP hD hS hl9
  exact lv_dcmp hx hb hdg (kk H locs ls hP hD hS hl9)
theorem n_last (C : zC p s m args meth c cc nL own D (zTy cy) A) {q0 n a : Nat} {f : Nat → Int64} {i : Int32} {x : Int64} {ws' : va_W} (ha : ws[q0]? = some (a, .inl (cy 4, n, .inr (.inl f)))) (hin : vp_in i n) (hw : ws.set q0 (a, .inl (cy 4, n, .inr (.inl (vp_updL f i.toNatClampNeg x)))) = ws') (hdg : decode cc pc = .ok (.lastore, 1))
    (kk : zG p l e R s m args below meth c nL D A cells slots Q ws' (pc + 1) L st) : zG p l e R s m args below meth c nL D A cells slots Q ws pc L (.long x :: .int i :: .ref a :: st) := by
  obtain ⟨hx, hb, hml, hown, hts, hK, hA, hlk⟩ := C
  subst hw
  intro H locs ls hP hD hS hl9
  exact va_last hx hb hK hP hD hS q0 4 ha rfl hin hdg (fun H1 locs1 hP hD hS => kk H1 locs1 ls hP hD hS hl9)
theorem n_lald (C : zC p s m args meth c cc nL own D (zTy cy) A) {q0 n a : Nat} {f : Nat → Int64} {i : Int32} (ha : ws[q0]? = some (a, .inl (cy 4, n, .inr (.inl f)))) (hin : vp_in i n) (hdg : decode cc pc = .ok (.laload, 1))
    (kk : zG p l e R s m args below meth c nL D A cells slots Q ws (pc + 1) L (.long (f i.toNatClampNeg) :: st)) : zG p l e R s m args below meth c nL D A cells slots Q ws pc L (.int i :: .ref a :: st) := by
  obtain ⟨hx, hb, hml, hown, hts, hK, hA, hlk⟩ := C
  intro H locs ls hP hD hS hl9
  exact va_lald hx hb hK hP q0 4 ha rfl hin hdg (kk H locs ls hP hD hS hl9)
theorem n_dast (C : zC p s m args meth c cc nL own D (zTy cy) A) {q0 n a : Nat} {f : Nat → UInt64} {i : Int32} {x : UInt64} {ws' : va_W} (ha : ws[q0]? = some (a, .inl (cy 5, n, .inr (.inr (.inr (.inl f)))))) (hin : vp_in i n) (hw : ws.set q0 (a, .inl (cy 5, n, .inr (.inr (.inr (.inl (vf_upd f i.toNatClampNeg x)))))) = ws') (hdg : decode cc pc = .ok (.dastore, 1))
    (kk : zG p l e R s m args below meth c nL D A cells slots Q ws' (pc + 1) L st) : zG p l e R s m args below meth c nL D A cells slots Q ws pc L (.double x :: .int i :: .ref a :: st) := by
  obtain ⟨hx, hb, hml, hown, hts, hK, hA, hlk⟩ := C
  subst hw
  intro H locs ls hP hD hS hl9
  exact va_dast hx hb hK hP hD hS q0 5 ha rfl hin hdg (fun H1 locs1 hP hD hS => kk H1 locs1 ls hP hD hS hl9)
theorem n_dald (C : zC p s m args meth c cc nL own D (zTy cy) A) {q0 n a : Nat} {f : Nat → UInt64} {i : Int32} (ha : ws[q0]? = some (a, .inl (cy 5, n, .inr (.inr (.inr (.inl f)))))) (hin : vp_in i n) (hdg : decode cc pc = .ok (.daload, 1))
    (kk : zG p l e R s m args below meth c nL D A cells slots Q ws (pc + 1) L (.double (f i.toNatClampNeg) :: st)) : zG p l e R s m args below meth c nL D A cells slots Q ws pc L (.int i :: .ref a :: st) := by
  obtain ⟨hx, hb, hml, hown, hts, hK, hA, hlk⟩ := C
  intro H locs ls hP hD hS hl9
  exact va_dald hx hb hK hP q0 5 ha rfl hin hdg (kk H locs ls hP hD hS hl9)
theorem n_dstore (C : zC p s m args meth c cc nL own D tys A) {i : Nat} {x : UInt64} {L' : List (Nat × Value)} (hdg : decode cc pc = .ok (.dstore i, 2)) (hn : i + 1 < nL) (hl : (i, Value.double x) :: L.filter (fun q => !(q.1 == i) && (!(q.1 == i + 1) && !(q.1 + 1 == i && q.2.category == 2))) = L')
    (kk : zG p l e R s m args below meth c nL D A cells slots Q ws (pc + 2) L' st) : zG p l e R s m args below meth c nL D A cells slots Q ws pc L (Value.double x :: st) := by
  obtain ⟨hx, hb, hml, hown, hts, hK, hA, hlk⟩ := C
  intro H locs ls hP hD hS hl9
  exact lv_dstore hx hb hdg hl9 hn hl (fun ls' hl8 => kk H locs ls' hP hD hS hl8)
theorem n_dload (C : zC p s m args meth c cc nL own D tys A) {i j : Nat} {x : UInt64} (hdg : decode cc pc = .ok (.dload i, 2)) (hl : L[j]? = some (i, .double x))
    (kk : zG p l e R s m args below meth c nL D A cells slots Q ws (pc + 2) L (.double x :: st)) : zG p l e R s m args below meth c nL D A cells slots Q ws pc L st := by
  obtain ⟨hx, hb, hml, hown, hts, hK, hA, hlk⟩ := C
  intro H locs ls hP hD hS hl9
  exact lv_dload hx hb hdg (lv_at hl9 j hl) (kk H locs ls hP hD hS hl9)
-- the script
theorem n_sld (C : zC p s m args meth c cc nL own D tys A) {b N : Nat} {xs : Nat → Int32} (hX : va_X b N xs s s.heap) (hbl : b < s.heap.size) (hbA : ¬ A b) {i : Int32} (hin : vp_in i N) (hdg : decode cc pc = .ok (.iaload, 1))
    (kk : zG p l e R s m args below meth c nL D A cells slots Q ws (pc + 1) L (.int (xs i.toNatClampNeg) :: st)) : zG p l e R s m args below meth c nL D A cells slots Q ws pc L (.int i :: .ref b :: st) := by
  obtain ⟨hx, hb, hml, hown, hts, hK, hA, hlk⟩ := C
  intro H locs ls hP hD hS hl9
  exact va_sld hx hb hX hbl hbA hS hin hdg (kk H locs ls hP hD hS hl9)
theorem n_slen (C : zC p s m args meth c cc nL own D tys A) {b N : Nat} {xs : Nat → Int32} (hX : va_X b N xs s s.heap) (hbl : b < s.heap.size) (hbA : ¬ A b) (hdg : decode cc pc = .ok (.arraylength, 1))
    (kk : zG p l e R s m args below meth c nL D A cells slots Q ws (pc + 1) L (.int (nI N) :: st)) : zG p l e R s m args below meth c nL D A cells slots Q ws pc L (.ref b :: st) := by
  obtain ⟨hx, hb, hml, hown, hts, hK, hA, hlk⟩ := C
  intro H locs ls hP hD hS hl9
  exact va_slen hx hb hX hbl hbA hS hdg (kk H locs ls hP hD hS hl9)
end LROWS
