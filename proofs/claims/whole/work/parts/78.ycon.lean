/-! METHODS WITH TEXTS THAT RETURN OR THROW -/
def zLo : List Int32 := [0, 1, 0, 0, 0, 1]
def zHi : List Int32 := [30, 3, 60, 20, 120, 99]
abbrev zStr5 : List (Nat × String) := [(340, "there are no shows that are not cancelled"), (367, "there is no such index"), (373, "the code is out of range"), (375, "the input holds 60 characters"), (387, "the input is not a text of commands"), (401, "a command cannot be carried out")]
abbrev zT351 : List Int32 := [nI 99, nI 108, nI 111, nI 115, nI 101, nI 100, nI 58, nI 32]
abbrev zT357 : List Int32 := [nI 110, nI 111, nI 110, nI 101]
abbrev zT359 : List Int32 := [nI 44, nI 32]
abbrev zT449 : List Int32 := [nI 32, nI 102]
def zK5 (ix : Nat) (text : String) (l : List Int32) : zEV := fun A U H => ∃ a, vk_R RX5 ix text a U ∧ zS a l A U H
theorem zK5_ge (ix : Nat) (text : String) (l : List Int32) : zGE (zK5 ix text l) :=
  ⟨fun A s U H hW ⟨a, h1, h2⟩ => ⟨a, vk_R.warm hW h1, (zS_ge a l).1 A s U H hW h2⟩, fun A U H H1 ⟨a, h1, h2⟩ hq => ⟨a, h1, (zS_ge a l).2.1 A U H H1 h2 hq⟩, fun A B U H ⟨a, h1, h2⟩ hq => ⟨a, h1, (zS_ge a l).2.2.1 A B U H h2 hq⟩, fun A u U H hv ⟨a, h1, h2⟩ => ⟨a, vk_R.same hv h1, (zS_ge a l).2.2.2 A u U H hv h2⟩⟩
def zA5 (n : String) (l : List Int32) : zEV := fun A U H => ∃ t, va_Z "CinemaProgramme" n "[I" (.ref t) A U H ∧ va_T .int t 6 (fun j => .int (l.getD j 0)) A U H
theorem zA5_ge (n : String) (l : List Int32) : zGE (zA5 n l) :=
  ⟨fun A s U H hW ⟨t, h1, h2⟩ => ⟨t, va_Z.moved hW.alike h1, va_T.moved hW.alike h2⟩, fun A U H H1 ⟨t, h1, h2⟩ hq => ⟨t, h1.kept hq, h2.kept hq⟩, fun A B U H ⟨t, h1, h2⟩ hq => ⟨t, h1.narrow hq, h2.narrow hq⟩, fun A u U H hv ⟨t, h1, h2⟩ => ⟨t, va_Z.moved (by rw [hv]; exact Vm.Alike.refl _) h1, va_T.moved (by rw [hv]; exact Vm.Alike.refl _) h2⟩⟩
theorem z_bad_same {s U : State} (hv : U.vm = s.vm) (h : ∀ w ∈ zBad, w.before #[] s = true) : ∀ w ∈ zBad, w.before #[] U = true := z_bad_warm (by rw [hv]; exact State.WarmedH.refl s) h
theorem zTh_ge : zGE zTh := ⟨fun A s U H hW h => zTh.warm hW h, fun A U H H1 h hq => h.kept hq, fun A B U H h hq => h.narrow hq, fun A u U H hv h => zTh.warm (by rw [hv]; exact State.WarmedH.refl u) h⟩
def zR5 : zEV := fun _ U _ => ∀ q ∈ zStr5, ∃ sa, vk_R RX5 q.1 q.2 sa U
theorem zR5_ge : zGE zR5 := ⟨fun A s U H hW h q hq => by obtain ⟨a, ha⟩ := h q hq; exact ⟨a, vk_R.warm hW ha⟩, fun A U H H1 h _ => h, fun A B U H h _ => h, fun A u U H hv h q hq => by obtain ⟨a, ha⟩ := h q hq; exact ⟨a, vk_R.same hv ha⟩⟩
/-- what the class's methods with texts rest on -/
def zE5 : zEV := fun A U H => zEr A U H ∧ zTh A U H ∧ zR5 A U H ∧ (zK5 351 "closed: " zT351 A U H ∧ zK5 357 "none" zT357 A U H ∧ zK5 359 ", " zT359 A U H ∧ zK5 449 " f" zT449 A U H) ∧ zA5 "LOWEST_SETTINGS" zLo A U H ∧ zA5 "HIGHEST_SETTINGS" zHi A U H
theorem zE5_ge : zGE zE5 := zEr_ge.and (zTh_ge.and (zR5_ge.and (((zK5_ge _ _ _).and ((zK5_ge _ _ _).and ((zK5_ge _ _ _).and (zK5_ge _ _ _)))).and ((zA5_ge _ _).and (zA5_ge _ _)))))
def zYC (X : Nat → va_W → Prop) (D : va_G) (tys : List (ClassId × FieldType)) (A : Nat → Prop) : String → State → State → Prop := fun E st t => ∃ (code : Nat) (w : va_W), X code w ∧ code ≠ 0 ∧ E = zExc code ∧ zB D tys A w t ∧ va_F A st t
/-- a method that returns (P over answer and world) or throws (X over the exception's number and the world) -/
def zMy (l : Launch) (y : MethodName) (cc : ByteArray) (maxL : Nat) (ret : Option FieldType) (rm : Room) (D : va_G) (tys : List (ClassId × FieldType)) (EV : zEV) (ws : va_W) (av : List Value) (mc ms : Nat) (P : Int32 → va_W → Prop) (X : Nat → va_W → Prop) : Prop :=
  ∀ sz : Nat, vx_Met l y (zTs y cc maxL ret) rm (zPt D tys EV ws av sz) (va_Qi P (fun (w : va_W) t => zB D tys (va_A ws sz) w t) (va_A ws sz)) (zYC X D tys (va_A ws sz)) mc ms (va_A ws sz)
abbrev zQy (below : List Frame) (args : Array Value) (s : State) (P : Int32 → va_W → Prop) (X : Nat → va_W → Prop) (D : va_G) (tys : List (ClassId × FieldType)) (A : Nat → Prop) (mc ms : Nat) : State → Prop := vx_MQ below (va_Qi P (fun (w : va_W) t => zB D tys A w t) A) (zYC X D tys A) args s mc ms A
theorem zMy.of {l : Launch} {y : MethodName} {rm : Room} {D : va_G} {tys : List (ClassId × FieldType)} {EV : zEV} {ws : va_W} {av : List Value} {mc ms : Nat} {P : Int32 → va_W → Prop} {X : Nat → va_W → Prop} {cc : ByteArray} {maxL : Nat} {ret : Option FieldType}
    (hy : plainName y.cls = true) (hav : (lg_sl av).length ≤ maxL)
    (body : ∀ (p : Program) (e : Env) (s : State) (m : MethodId) (below : List Frame) (meth : Method) (c : Code) (A : Nat → Prop), zC p s m av.toArray meth c cc maxL y.cls D tys A → meth.sig.returnType = ret → EV A s s.heap → (∀ x ∈ c.exceptionTable.toList, False) →
      zG p l e rm s m av.toArray below meth c maxL D A 0 0 (zQy below av.toArray s P X D tys A mc ms) ws 0 (lv_args 0 av) []) : zMy l y cc maxL ret rm D tys EV ws av mc ms P X := by
  intro sz
  refine vx_ofW (cc := cc) (maxL := maxL) (ret := ret) (ws' := zAll) hy rfl ?_
  intro p e s m args below meth c s₁ B hml hout hv
  obtain ⟨rfl, hsz, hP, hK, hD0, hT⟩ := hv
  subst hsz
  have hl := lv_entry av (n := maxL) hav
  rw [lg_entry_eq]
  exact body p e s m below meth c (va_A ws s.heap.size) ⟨B.exec, B.bytes, hml, findClass_of_methodNamed B.named, fun w hw => atoms_spec (ws := zTs y cc maxL ret) B.pre w (List.mem_cons_of_mem _ hw), hK, fun q h => Or.inr h, B.notSynchronized⟩ B.returns hT hout s.heap [] _ hP (hD0.self (sz := s.heap.size)) va_S.rf hl
section ZY
variable {p : Program} {l : Launch} {e : Env} {R : Room} {s : State} {m : MethodId} {args : Array Value} {below : List Frame} {meth : Method} {c : Code} {cc : ByteArray} {nL : Nat} {own : String} {D : va_G} {tys : List (ClassId × FieldType)} {A : Nat → Prop} {ws : va_W} {pc : Nat} {L : List (Nat × Value)} {st : List Value} {cells slots mc ms : Nat} {P : Int32 → va_W → Prop} {X : Nat → va_W → Prop}
theorem y_xret {v : Int32} {ty : FieldType} (C : zC p s m args meth c cc nL own D tys A) (hr : meth.sig.returnType = some ty) (hn : narrow ty (.int v) = .int v) (h9 : P v ws) (h1 : cells ≤ mc) (h2 : slots ≤ ms) (hdg : decode cc pc = .ok (.ireturn, 1)) :
    zG p l e R s m args below meth c nL D A cells slots (zQy below args s P X D tys A mc ms) ws pc L [.int v] := by
  obtain ⟨hx, hb, hml, hown, hts, hK, hA, hlk⟩ := C
  intro H locs ls hP hD hS hl9
  refine W.widen h1 h2 (vx_ret ?_)
  exact W.zret hx hb hr hn (fun t ht hW => ⟨⟨v, ws, rfl, h9, by rw [ht]; exact hP, va_K.moved hW.alike hK, hD⟩, hS.F ht⟩) hS.2.2 hdg hlk
theorem y_throw (code : Nat) (h9 : X code ws) (C : zC p s m args meth c cc nL own D tys A) (hT : zTh A s s.heap) {ik is ic : Nat} {text : String} (hsa : ∃ sa, vk_R own is text sa s) (hl : l.stackTraces = false) (hout : ∀ x ∈ c.exceptionTable.toList, False) {names : List String}
    (hcode : code ≠ 0) (hfit : Bundle.fit (zExc code) = true ∧ (∀ n ∈ names, Bundle.fit n = true)) (hk : Cond.classLink own ik (zExc code) ∈ zAll) (hini : Cond.initialized (zExc code) ∈ zAll)
    (hat : ∀ w ∈ vx_atS own ic (zExc code) names, w ∈ zAll ∨ w ∈ zBad) (hgood : ∀ w ∈ Cond.classLink own ik (zExc code) :: Cond.initialized (zExc code) :: vx_atS own ic (zExc code) names, vx_ot w = true)
    (d0 : decode cc pc = .ok (.new ik, 3)) (d3 : decode cc (pc + 3) = .ok (.dup, 1)) (d4 : decode cc (pc + 4) = .ok (.ldc is, 2)) (d6 : decode cc (pc + 6) = .ok (.invokespecial ic, 3)) (d9 : decode cc (pc + 9) = .ok (.athrow, 1))
    (hR : names.length + 3 < R.frames ∧ (st.map fun v => v.category).sum + (13 * (names.length + 1) + 43) ≤ R.locals) (h1 : cells + 1 ≤ R.cells) (h2 : slots + 6 ≤ R.slots) (h3 : cells + 1 ≤ mc) (h4 : slots + 6 ≤ ms) :
    zG p l e R s m args below meth c nL D A cells slots (zQy below args s P X D tys A mc ms) ws pc L st := by
  obtain ⟨hx, hb, hml, hown, hts, hK, hA, hlk⟩ := C
  intro H locs ls hP hD hS hl9
  obtain ⟨sa, hsa⟩ := hsa
  exact vx_throwS (A := A) hx hb hl hown hfit.1 hfit.2 (hts _ hk) (hts _ hini) hsa (fun w hw => (hat w hw).elim (hts w) (fun h => va_tabs (by
    simp only [zBad, List.mem_cons, List.not_mem_nil, or_false] at h
    rcases h with rfl | rfl | rfl | rfl | rfl | rfl | rfl | rfl | rfl <;> rfl) rfl (hT.2.1 w h))) hgood hT.2.2.1 hT.2.2.2 hS (hl9.1.trans hml.symm) d0 d3 d4 d6 d9 (fun x hx => absurd (hout x hx) id) hR.1 hR.2 h1 h2 hlk
    (fun t hvm h1 h2 => ⟨code, ws, h9, hcode, rfl, z_thrown hvm h1 h2 hK hP hD hS⟩) hS.2.2 h3 h4
theorem y_throwW (code : Nat) (h9 : X code ws) (C : zC p s m args meth c cc nL own D tys A) (hT : zTh A s s.heap) {ik is ic : Nat} {text : String} (hsa : ∃ sa, vk_R own is text sa s) (hl : l.stackTraces = false) (hout : ∀ x ∈ c.exceptionTable.toList, False) {names : List String}
    (hcode : code ≠ 0) (hfit : Bundle.fit (zExc code) = true ∧ (∀ n ∈ names, Bundle.fit n = true)) (hk : Cond.classLink own ik (zExc code) ∈ zAll) (hini : Cond.initialized (zExc code) ∈ zAll)
    (hat : ∀ w ∈ vx_atS own ic (zExc code) names, w ∈ zAll ∨ w ∈ zBad) (hgood : ∀ w ∈ Cond.classLink own ik (zExc code) :: Cond.initialized (zExc code) :: vx_atS own ic (zExc code) names, vx_ot w = true)
    (d0 : decode cc pc = .ok (.new ik, 3)) (d3 : decode cc (pc + 3) = .ok (.dup, 1)) (d4 : decode cc (pc + 4) = .ok (.ldc_w is, 3)) (d7 : decode cc (pc + 7) = .ok (.invokespecial ic, 3)) (d10 : decode cc (pc + 10) = .ok (.athrow, 1))
    (hR : names.length + 3 < R.frames ∧ (st.map fun v => v.category).sum + (13 * (names.length + 1) + 43) ≤ R.locals) (h1 : cells + 1 ≤ R.cells) (h2 : slots + 6 ≤ R.slots) (h3 : cells + 1 ≤ mc) (h4 : slots + 6 ≤ ms) :
    zG p l e R s m args below meth c nL D A cells slots (zQy below args s P X D tys A mc ms) ws pc L st := by
  obtain ⟨hx, hb, hml, hown, hts, hK, hA, hlk⟩ := C
  intro H locs ls hP hD hS hl9
  obtain ⟨sa, hsa⟩ := hsa
  exact vx_throwSW (A := A) hx hb hl hown hfit.1 hfit.2 (hts _ hk) (hts _ hini) hsa (fun w hw => (hat w hw).elim (hts w) (fun h => va_tabs (by
    simp only [zBad, List.mem_cons, List.not_mem_nil, or_false] at h
    rcases h with rfl | rfl | rfl | rfl | rfl | rfl | rfl | rfl | rfl <;> rfl) rfl (hT.2.1 w h))) hgood hT.2.2.1 hT.2.2.2 hS (hl9.1.trans hml.symm) d0 d3 d4 d7 d10 (fun x hx => absurd (hout x hx) id) hR.1 hR.2 h1 h2 hlk
    (fun t hvm h1 h2 => ⟨code, ws, h9, hcode, rfl, z_thrown hvm h1 h2 hK hP hD hS⟩) hS.2.2 h3 h4
end ZY
