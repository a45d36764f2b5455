/-! METHODS THAT RETURN OR THROW (laid by wip/whole/mkthrow.py) -/
abbrev zStrs : List (Nat × String) := [(70, "an argument is out of range"), (87, "there are 6 halls"), (114, "there are 8 films"), (121, "there is no such film"), (124, "a number is out of range"), (133, "there are 10 trailers"), (142, "there is no such setting"), (144, "the value is out of range"), (149, "there is no such hour"), (151, "the rating is out of range"), (153, "there is no such number"), (159, "there is no such hall"), (161, "what is not from 0 to 6"), (167, "what is not from 0 to 11"), (169, "there is no such day"), (173, "the day is before the release day"), (179, "there is no such trailer"), (181, "what is not from 0 to 3"), (183, "there is no such trailer or film"), (198, "there is no such hall or film"), (200, "there is no such day or minute"), (204, "the show is refused"), (213, "there is no such show or hall"), (218, "there is no such minute"), (223, "the show is cancelled or over"), (228, "the move is refused"), (241, "there is no such show"), (249, "tickets is out of range"), (251, "fewer seats are left"), (279, "there is no such start"), (284, "there is no such day, or it is before today"), (286, "the hall is closed already"), (291, "the hall is not closed"), (296, "there is no such line"), (298, "what is not from 0 to 4"), (300, "there is no such day, or what is not from 0 to 4"), (323, "nothing was refused"), (328, "days is out of range, or today would be greater than 59"), (336, "there are no films"), (340, "there are no shows that are not cancelled"), (351, "closed: "), (357, "none"), (359, ", "), (449, " f"), (367, "there is no such index"), (373, "the code is out of range"), (375, "the input holds 60 characters"), (387, "the input is not a text of commands"), (401, "a command cannot be carried out"), (406, "no error position was kept"), (411, "there is no change to undo"), (419, "nothing was saved")]
abbrev zBad : List Cond := [.castable "java/lang/IllegalArgumentException" "java/lang/IllegalArgumentException", .castable "java/lang/IllegalStateException" "java/lang/IllegalStateException", .castable "java/lang/IndexOutOfBoundsException" "java/lang/IndexOutOfBoundsException", .castable "java/lang/ArithmeticException" "java/lang/ArithmeticException", .castable "java/lang/UnsupportedOperationException" "java/lang/UnsupportedOperationException", .castable "java/util/NoSuchElementException" "java/util/NoSuchElementException", .declares ⟨"java/lang/RuntimeException", "<init>", "(Ljava/lang/String;)V"⟩, .declares ⟨"java/lang/Exception", "<init>", "(Ljava/lang/String;)V"⟩, .declares ⟨"java/lang/Throwable", "<init>", "(Ljava/lang/String;)V"⟩]
/-- the exceptions by their numbers -/
def zExc (k : Nat) : String := match k with
  | 1 => "java/lang/IllegalArgumentException"
  | 2 => "java/lang/IllegalStateException"
  | 3 => "java/lang/IndexOutOfBoundsException"
  | 4 => "java/lang/ArithmeticException"
  | 5 => "java/lang/UnsupportedOperationException"
  | 6 => "java/util/NoSuchElementException"
  | _ => ""
/-- what a throw needs of the start: the texts, the classes, Throwable's statics, which nobody writes -/
def zTh (A : Nat → Prop) (U : State) (H : Heap) : Prop := (∀ q ∈ zStrs, ∃ sa, vk_R RX5 q.1 q.2 sa U) ∧ (∀ w ∈ zBad, w.before #[] U = true) ∧ vx_Zq Bundle.tN "UNASSIGNED_STACK" Bundle.steD A U H ∧ vx_Zq Bundle.tN "SUPPRESSED_SENTINEL" Bundle.listD A U H
theorem z_bad_warm {s U : State} (hW : s.WarmedH U.vm) (h : ∀ w ∈ zBad, w.before #[] s = true) : ∀ w ∈ zBad, w.before #[] U = true := by
  intro w hw
  have h1 := h w hw
  simp only [zBad, List.mem_cons, List.not_mem_nil, or_false] at hw
  rcases hw with rfl | rfl | rfl | rfl | rfl | rfl | rfl | rfl | rfl
  · exact va_Nw.warmC hW h1
  · exact va_Nw.warmC hW h1
  · exact va_Nw.warmC hW h1
  · exact va_Nw.warmC hW h1
  · exact va_Nw.warmC hW h1
  · exact va_Nw.warmC hW h1
  · exact va_Nw.warmD hW h1
  · exact va_Nw.warmD hW h1
  · exact va_Nw.warmD hW h1
theorem zTh.warm {A : Nat → Prop} {s U : State} {H : Heap} (hW : s.WarmedH U.vm) (h : zTh A s H) : zTh A U H :=
  ⟨fun q hq => by obtain ⟨sa, hs⟩ := h.1 q hq; exact ⟨sa, vk_R.warm hW hs⟩, z_bad_warm hW h.2.1, vx_Zq.moved hW.alike h.2.2.1, vx_Zq.moved hW.alike h.2.2.2⟩
theorem zTh.kept {A : Nat → Prop} {s : State} {H H1 : Heap} (h : zTh A s H) (hq : ∀ a : Nat, a < H.size → ¬ A a → H1[a]? = H[a]?) : zTh A s H1 := ⟨h.1, h.2.1, h.2.2.1.kept hq, h.2.2.2.kept hq⟩
theorem zTh.narrow {A B : Nat → Prop} {s : State} {H : Heap} (h : zTh A s H) (hAB : ∀ q, B q → A q) : zTh B s H := ⟨h.1, h.2.1, h.2.2.1.narrow hAB, h.2.2.2.narrow hAB⟩
def zXC (code : Nat) (D : va_G) (tys : List (ClassId × FieldType)) (A : Nat → Prop) (ws' : va_W) : String → State → State → Prop := fun E st t => (code ≠ 0 ∧ E = zExc code) ∧ zB D tys A ws' t ∧ va_F A st t
/-- a method that returns res (code 0) or throws the exception number code; the world is ws' then -/
def zMx (l : Launch) (y : MethodName) (cc : ByteArray) (maxL : Nat) (ret : Option FieldType) (rm : Room) (D : va_G) (tys : List (ClassId × FieldType)) (ws : va_W) (av : List Value) (code : Nat) (res : Int32) (ws' : va_W) : Prop :=
  ∀ sz : Nat, vx_Met l y (zTs y cc maxL ret) rm (va_Pc av (fun U => U.heap.size = sz ∧ va_P D vwCl ws U.heap ∧ va_K D vwCl tys U ∧ va_D (fun _ => True) ws ∧ zTh (va_A ws sz) U U.heap)) (va_Qi (fun (r : Int32) (_ : Unit) => code = 0 ∧ r = res) (fun _ t => zB D tys (va_A ws sz) ws' t) (va_A ws sz)) (zXC code D tys (va_A ws sz) ws') 1 6 (va_A ws sz)
abbrev zrmx (d : Nat) : Room := { frames := d + 12, cells := 1, slots := 6, locals := 60 * d + 500 }
abbrev zQx (below : List Frame) (args : Array Value) (s : State) (code : Nat) (res : Int32) (D : va_G) (tys : List (ClassId × FieldType)) (A : Nat → Prop) (ws' : va_W) : State → Prop := vx_MQ below (va_Qi (fun (r : Int32) (_ : Unit) => code = 0 ∧ r = res) (fun _ t => zB D tys A ws' t) A) (zXC code D tys A ws') args s 1 6 A
theorem zMx.of {l : Launch} {y : MethodName} {rm : Room} {D : va_G} {tys : List (ClassId × FieldType)} {ws ws' : va_W} {av : List Value} {code : Nat} {res : Int32} {cc : ByteArray} {maxL : Nat} {ret : Option FieldType}
    (hy : plainName y.cls = true) (hav : (lg_sl av).length ≤ maxL)
    (body : ∀ (p : Program) (e : Env) (s : State) (m : MethodId) (below : List Frame) (meth : Method) (c : Code) (A : Nat → Prop), zC p s m av.toArray meth c cc maxL y.cls D tys A → meth.sig.returnType = ret → zTh A s s.heap → (∀ x ∈ c.exceptionTable.toList, False) →
      zG p l e rm s m av.toArray below meth c maxL D A 0 0 (zQx below av.toArray s code res D tys A ws') ws 0 (lv_args 0 av) []) : zMx l y cc maxL ret rm D tys ws av code res ws' := by
  intro sz
  refine vx_ofW (cc := cc) (maxL := maxL) (ret := ret) (ws' := zAll) hy rfl ?_
  intro p e s m args below meth c s₁ B hml hout hv
  obtain ⟨rfl, hsz, hP, hK, hD0, hT⟩ := hv
  subst hsz
  have hl := lv_entry av (n := maxL) hav
  rw [lg_entry_eq]
  exact body p e s m below meth c (va_A ws s.heap.size) ⟨B.exec, B.bytes, hml, findClass_of_methodNamed B.named, fun w hw => atoms_spec (ws := zTs y cc maxL ret) B.pre w (List.mem_cons_of_mem _ hw), hK, fun q h => Or.inr h, B.notSynchronized⟩ B.returns hT hout s.heap [] _ hP (hD0.self (sz := s.heap.size)) va_S.rf hl
section ZX
variable {p : Program} {l : Launch} {e : Env} {R : Room} {s : State} {m : MethodId} {args : Array Value} {below : List Frame} {meth : Method} {c : Code} {cc : ByteArray} {nL : Nat} {own : String} {D : va_G} {tys : List (ClassId × FieldType)} {A : Nat → Prop} {ws : va_W} {pc : Nat} {L : List (Nat × Value)} {st : List Value}
theorem g_xret {v : Int32} {ty : FieldType} (C : zC p s m args meth c cc nL own D tys A) (hr : meth.sig.returnType = some ty) (hn : narrow ty (.int v) = .int v) (hdg : decode cc pc = .ok (.ireturn, 1)) :
    zG p l e R s m args below meth c nL D A 0 0 (zQx below args s 0 v D tys A ws) ws pc L [.int v] := by
  obtain ⟨hx, hb, hml, hown, hts, hK, hA, hlk⟩ := C
  intro H locs ls hP hD hS hl9
  refine W.widen (k := 1) (n := 6) (Nat.zero_le _) (Nat.zero_le _) (vx_ret ?_)
  exact W.zret hx hb hr hn (fun t ht hW => ⟨⟨v, (), rfl, ⟨rfl, rfl⟩, by rw [ht]; exact hP, va_K.moved hW.alike hK, hD⟩, hS.F ht⟩) hS.2.2 hdg hlk
theorem z_thrown {t : State} {H : Heap} (hvm : s.vm.Alike t.vm) (h1 : H.size ≤ t.heap.size) (h2 : ∀ q : Nat, q < H.size → t.heap[q]? = H[q]?) {locs : List Loc} (hK : va_K D vwCl tys s) (hP : va_P D vwCl ws H) (hD : va_D A ws) (hS : va_S A s.heap H locs) : zB D tys A ws t ∧ va_F A s t :=
  ⟨⟨hP.kept (fun k q hk => h2 q.1 (hP k q hk).lt), va_K.moved hvm hK, hD⟩, Nat.le_trans hS.1 h1, fun q hq hA => by rw [h2 q (Nat.lt_of_lt_of_le hq hS.1)]; exact hS.2.1 q hq hA⟩
theorem g_throw (code : Nat) (res : Int32) (C : zC p s m args meth c cc nL own D tys A) (hT : zTh A s s.heap) (hl : l.stackTraces = false) (hout : ∀ x ∈ c.exceptionTable.toList, False) {ik is ic : Nat} {text : String} {names : List String}
    (hown5 : own = RX5) (hcode : code ≠ 0) (hfit : Bundle.fit (zExc code) = true ∧ (∀ n ∈ names, Bundle.fit n = true)) (hk : Cond.classLink own ik (zExc code) ∈ zAll) (hini : Cond.initialized (zExc code) ∈ zAll) (hstr : (is, text) ∈ zStrs)
    (hat : ∀ w ∈ vx_atS own ic (zExc code) names, w ∈ zAll ∨ w ∈ zBad) (hgood : ∀ w ∈ Cond.classLink own ik (zExc code) :: Cond.initialized (zExc code) :: vx_atS own ic (zExc code) names, vx_ot w = true)
    (d0 : decode cc pc = .ok (.new ik, 3)) (d3 : decode cc (pc + 3) = .ok (.dup, 1)) (d4 : decode cc (pc + 4) = .ok (.ldc is, 2)) (d6 : decode cc (pc + 6) = .ok (.invokespecial ic, 3)) (d9 : decode cc (pc + 9) = .ok (.athrow, 1))
    (hR : names.length + 3 < R.frames ∧ (st.map fun v => v.category).sum + (13 * (names.length + 1) + 43) ≤ R.locals ∧ 1 ≤ R.cells ∧ 6 ≤ R.slots) :
    zG p l e R s m args below meth c nL D A 0 0 (zQx below args s code res D tys A ws) ws pc L st := by
  obtain ⟨hx, hb, hml, hown, hts, hK, hA, hlk⟩ := C
  intro H locs ls hP hD hS hl9
  subst hown5
  obtain ⟨sa, hsa⟩ := hT.1 (is, text) hstr
  exact vx_throwS (A := A) hx hb hl hown hfit.1 hfit.2 (hts _ hk) (hts _ hini) hsa (fun w hw => (hat w hw).elim (hts w) (fun h => va_tabs (by
    simp only [zBad, List.mem_cons, List.not_mem_nil, or_false] at h
    rcases h with rfl | rfl | rfl | rfl | rfl | rfl | rfl | rfl | rfl <;> rfl) rfl (hT.2.1 w h))) hgood hT.2.2.1 hT.2.2.2 hS (hl9.1.trans hml.symm) d0 d3 d4 d6 d9 (fun x hx => absurd (hout x hx) id) hR.1 hR.2.1 hR.2.2.1 hR.2.2.2 hlk
    (fun t hvm h1 h2 => ⟨⟨hcode, rfl⟩, z_thrown hvm h1 h2 hK hP hD hS⟩) hS.2.2 (Nat.le_refl _) (Nat.le_refl _)
theorem g_throwW (code : Nat) (res : Int32) (C : zC p s m args meth c cc nL own D tys A) (hT : zTh A s s.heap) (hl : l.stackTraces = false) (hout : ∀ x ∈ c.exceptionTable.toList, False) {ik is ic : Nat} {text : String} {names : List String}
    (hown5 : own = RX5) (hcode : code ≠ 0) (hfit : Bundle.fit (zExc code) = true ∧ (∀ n ∈ names, Bundle.fit n = true)) (hk : Cond.classLink own ik (zExc code) ∈ zAll) (hini : Cond.initialized (zExc code) ∈ zAll) (hstr : (is, text) ∈ zStrs)
    (hat : ∀ w ∈ vx_atS own ic (zExc code) names, w ∈ zAll ∨ w ∈ zBad) (hgood : ∀ w ∈ Cond.classLink own ik (zExc code) :: Cond.initialized (zExc code) :: vx_atS own ic (zExc code) names, vx_ot w = true)
    (d0 : decode cc pc = .ok (.new ik, 3)) (d3 : decode cc (pc + 3) = .ok (.dup, 1)) (d4 : decode cc (pc + 4) = .ok (.ldc_w is, 3)) (d7 : decode cc (pc + 7) = .ok (.invokespecial ic, 3)) (d10 : decode cc (pc + 10) = .ok (.athrow, 1))
    (hR : names.length + 3 < R.frames ∧ (st.map fun v => v.category).sum + (13 * (names.length + 1) + 43) ≤ R.locals ∧ 1 ≤ R.cells ∧ 6 ≤ R.slots) :
    zG p l e R s m args below meth c nL D A 0 0 (zQx below args s code res D tys A ws) ws pc L st := by
  obtain ⟨hx, hb, hml, hown, hts, hK, hA, hlk⟩ := C
  intro H locs ls hP hD hS hl9
  subst hown5
  obtain ⟨sa, hsa⟩ := hT.1 (is, text) hstr
  exact vx_throwSW (A := A) hx hb hl hown hfit.1 hfit.2 (hts _ hk) (hts _ hini) hsa (fun w hw => (hat w hw).elim (hts w) (fun h => va_tabs (by
    simp only [zBad, List.mem_cons, List.not_mem_nil, or_false] at h
    rcases h with rfl | rfl | rfl | rfl | rfl | rfl | rfl | rfl | rfl <;> rfl) rfl (hT.2.1 w h))) hgood hT.2.2.1 hT.2.2.2 hS (hl9.1.trans hml.symm) d0 d3 d4 d7 d10 (fun x hx => absurd (hout x hx) id) hR.1 hR.2.1 hR.2.2.1 hR.2.2.2 hlk
    (fun t hvm h1 h2 => ⟨⟨hcode, rfl⟩, z_thrown hvm h1 h2 hK hP hD hS⟩) hS.2.2 (Nat.le_refl _) (Nat.le_refl _)
end ZX
theorem zcl_68 : Cond.classLink RX5 68 (zExc 1) ∈ zAll := zg (z_t2 (List.mem_of_getElem? (i := 30) (by decide +kernel))) (by decide +kernel)
theorem zcl_85 : Cond.classLink RX5 85 (zExc 2) ∈ zAll := zg (z_t2 (List.mem_of_getElem? (i := 102) (by decide +kernel))) (by decide +kernel)
theorem zcl_119 : Cond.classLink RX5 119 (zExc 3) ∈ zAll := zg (z_t2 (List.mem_of_getElem? (i := 189) (by decide +kernel))) (by decide +kernel)
theorem zcl_171 : Cond.classLink RX5 171 (zExc 6) ∈ zAll := zg (z_t3 (List.mem_of_getElem? (i := 74) (by decide +kernel))) (by decide +kernel)
theorem zcl_202 : Cond.classLink RX5 202 (zExc 5) ∈ zAll := zg (z_t3 (List.mem_of_getElem? (i := 212) (by decide +kernel))) (by decide +kernel)
theorem zcl_338 : Cond.classLink RX5 338 (zExc 4) ∈ zAll := zg (z_t5 (List.mem_of_getElem? (i := 1) (by decide +kernel))) (by decide +kernel)
theorem zini_1 : Cond.initialized (zExc 1) ∈ zAll := zg (z_t1 (List.mem_of_getElem? (i := 16) (by decide +kernel))) (by decide +kernel)
theorem zini_2 : Cond.initialized (zExc 2) ∈ zAll := zg (z_t1 (List.mem_of_getElem? (i := 17) (by decide +kernel))) (by decide +kernel)
theorem zini_3 : Cond.initialized (zExc 3) ∈ zAll := zg (z_t1 (List.mem_of_getElem? (i := 19) (by decide +kernel))) (by decide +kernel)
theorem zini_4 : Cond.initialized (zExc 4) ∈ zAll := zg (z_t1 (List.mem_of_getElem? (i := 25) (by decide +kernel))) (by decide +kernel)
theorem zini_5 : Cond.initialized (zExc 5) ∈ zAll := zg (z_t1 (List.mem_of_getElem? (i := 24) (by decide +kernel))) (by decide +kernel)
theorem zini_6 : Cond.initialized (zExc 6) ∈ zAll := zg (z_t1 (List.mem_of_getElem? (i := 21) (by decide +kernel))) (by decide +kernel)
