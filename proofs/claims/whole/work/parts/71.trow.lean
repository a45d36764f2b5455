/-! ROWS FOR TEXTS (laid by wip/whole/mktrow.py): methods over a world of explicit cells; what stands outside of it (EV); cells may be made -/
abbrev zEV : Type := (Nat → Prop) → State → Heap → Prop
/-- what such a predicate must bear -/
def zGE (EV : zEV) : Prop := (∀ (A : Nat → Prop) (s U : State) (H : Heap), s.WarmedH U.vm → EV A s H → EV A U H) ∧ (∀ (A : Nat → Prop) (U : State) (H H1 : Heap), EV A U H → (∀ a : Nat, a < H.size → ¬ A a → H1[a]? = H[a]?) → EV A U H1) ∧ (∀ (A B : Nat → Prop) (U : State) (H : Heap), EV A U H → (∀ q, B q → A q) → EV B U H) ∧ ∀ (A : Nat → Prop) (u U : State) (H : Heap), U.vm = u.vm → EV A u H → EV A U H
theorem zGE.at {EV : zEV} (h : zGE EV) {A B : Nat → Prop} {s U : State} {H : Heap} {locs : List Loc} (hE : EV A s s.heap) (hS : va_S A s.heap H locs) (hU : U.heap = H) (hW : s.WarmedH U.vm) (hB : ∀ q, B q → A q) : EV B U U.heap := by
  rw [hU]
  exact h.2.2.1 A B U H (h.1 A s U H hW (h.2.1 A s s.heap H hE hS.2.1)) hB
theorem zGE.and {E1 E2 : zEV} (h1 : zGE E1) (h2 : zGE E2) : zGE (fun A U H => E1 A U H ∧ E2 A U H) :=
  ⟨fun A s U H hW h => ⟨h1.1 A s U H hW h.1, h2.1 A s U H hW h.2⟩, fun A U H H1 h hq => ⟨h1.2.1 A U H H1 h.1 hq, h2.2.1 A U H H1 h.2 hq⟩, fun A B U H h hB => ⟨h1.2.2.1 A B U H h.1 hB, h2.2.2.1 A B U H h.2 hB⟩, fun A u U H hv h => ⟨h1.2.2.2 A u U H hv h.1, h2.2.2.2 A u U H hv h.2⟩⟩
def zMt (l : Launch) (y : MethodName) (cc : ByteArray) (maxL : Nat) (ret : Option FieldType) (rm : Room) (D : va_G) (tys : List (ClassId × FieldType)) (EV : zEV) (ws : va_W) (av : List Value) (mc ms : Nat) (Qc : (Nat → Prop) → Array Value → State → Outcome → State → Prop) : Prop :=
  ∀ sz : Nat, Met l y (zTs y cc maxL ret) rm (va_Pc av (fun U => U.heap.size = sz ∧ va_P D vwCl ws U.heap ∧ va_K D vwCl tys U ∧ va_D (fun _ => True) ws ∧ EV (va_A ws sz) U U.heap)) (Qc (va_A ws sz)) mc ms (va_A ws sz)
def tI (D : va_G) (tys : List (ClassId × FieldType)) (P : Int32 → va_W → Prop) (A : Nat → Prop) : Array Value → State → Outcome → State → Prop := va_Qi P (fun (w : va_W) t => zB D tys A w t) A
def tV (D : va_G) (tys : List (ClassId × FieldType)) (P : va_W → Prop) (A : Nat → Prop) : Array Value → State → Outcome → State → Prop := va_Qv P (fun (w : va_W) t => zB D tys A w t) A
def tR (D : va_G) (tys : List (ClassId × FieldType)) (P : Nat → va_W → Prop) (A : Nat → Prop) : Array Value → State → Outcome → State → Prop := va_Qr (fun (_ : va_W) => True) (fun (w : va_W) a t => P a w ∧ zB D tys A w t) A
def zPt (D : va_G) (tys : List (ClassId × FieldType)) (EV : zEV) (ws : va_W) (av : List Value) (sz : Nat) : Array Value → State → Prop := va_Pc av (fun U => U.heap.size = sz ∧ va_P D vwCl ws U.heap ∧ va_K D vwCl tys U ∧ va_D (fun _ => True) ws ∧ EV (va_A ws sz) U U.heap)
theorem zPt_blind {EV : zEV} (h : zGE EV) (D : va_G) (tys : List (ClassId × FieldType)) (ws : va_W) (av : List Value) (sz : Nat) : FrameBlind (zPt D tys EV ws av sz) := fun a U g mk q => by
  obtain ⟨q0, q1, qP, qK, qD, qE⟩ := q
  exact ⟨q0, q1, qP, va_K.moved (u := U) (U := U.calling g mk a) (Vm.Alike.refl U.vm) qK, qD, h.2.2.2 _ U (U.calling g mk a) _ rfl qE⟩
theorem zMt.of {l : Launch} {y : MethodName} {rm : Room} {D : va_G} {tys : List (ClassId × FieldType)} {EV : zEV} {ws : va_W} {av : List Value} {mc ms : Nat} {Qc : (Nat → Prop) → Array Value → State → Outcome → State → Prop} {cc : ByteArray} {maxL : Nat} {ret : Option FieldType}
    (hy : plainName y.cls = true) (hav : (lg_sl av).length ≤ maxL)
    (body : ∀ (p : Program) (e : Env) (s : State) (m : MethodId) (below : List Frame) (meth : Method) (c : Code) (A : Nat → Prop), zC p s m av.toArray meth c cc maxL y.cls D tys A → meth.sig.returnType = ret → EV A s s.heap →
      zG p l e rm s m av.toArray below meth c maxL D A 0 0 (MQ below (Qc A) av.toArray s mc ms A) ws 0 (lv_args 0 av) []) : zMt l y cc maxL ret rm D tys EV ws av mc ms Qc := by
  intro sz
  refine Met.ofW (cc := cc) (maxL := maxL) (ret := ret) (ws' := zAll) hy rfl ?_
  intro p e s m args below meth c s₁ B hml hv
  obtain ⟨rfl, hsz, hP, hK, hD0, hE⟩ := hv
  subst hsz
  have hl := lv_entry av (n := maxL) hav
  rw [lg_entry_eq]
  exact body p e s m below meth c (va_A ws s.heap.size) ⟨B.exec, B.bytes, hml, findClass_of_methodNamed B.named, fun w hw => atoms_spec (ws := zTs y cc maxL ret) B.pre w (List.mem_cons_of_mem _ hw), hK, fun q h => Or.inr h, B.notSynchronized⟩ B.returns hE s.heap [] _ hP (hD0.self (sz := s.heap.size)) va_S.rf hl
-- worlds: fewer cells, in another order
theorem va_D_iff {A : Nat → Prop} {ws : va_W} : va_D A ws ↔ (ws.map Prod.fst).Nodup ∧ ∀ x ∈ ws, A x.1 := by
  constructor
  · intro h
    refine ⟨List.pairwise_iff_getElem.mpr (fun i j hi hj hij e => ?_), fun x hx => ?_⟩
    · simp only [List.length_map] at hi hj
      rw [List.getElem_map, List.getElem_map] at e
      have := h.1 i j _ _ (List.getElem?_eq_getElem hi) (List.getElem?_eq_getElem hj) e
      omega
    · obtain ⟨k, hk⟩ := List.getElem?_of_mem hx
      exact h.2 k x hk
  · rintro ⟨h1, h2⟩
    refine ⟨fun i j p q hi hj e => ?_, fun k q hk => h2 q (List.mem_of_getElem? hk)⟩
    obtain ⟨li, ei⟩ := List.getElem?_eq_some_iff.mp hi
    obtain ⟨lj, ej⟩ := List.getElem?_eq_some_iff.mp hj
    have li' : i < (ws.map Prod.fst).length := by rw [List.length_map]; exact li
    have lj' : j < (ws.map Prod.fst).length := by rw [List.length_map]; exact lj
    rcases Nat.lt_trichotomy i j with c | c | c
    · exact absurd (by rw [List.getElem_map, List.getElem_map, ei, ej]; exact e) (List.pairwise_iff_getElem.mp h1 i j li' lj' c)
    · exact c
    · exact absurd (by rw [List.getElem_map, List.getElem_map, ei, ej]; exact e.symm) (List.pairwise_iff_getElem.mp h1 j i lj' li' c)
theorem va_D.less {A : Nat → Prop} {ws ws' l : va_W} (h : va_D A ws) (h1 : ws'.Perm l) (h2 : l.Sublist ws) : va_D A ws' := by
  rw [va_D_iff] at h ⊢
  refine ⟨(h1.map Prod.fst).nodup_iff.mpr (List.Pairwise.sublist (h2.map Prod.fst) h.1), fun x hx => h.2 x (h2.subset (h1.subset hx))⟩
theorem va_P.less {D : va_G} {cl : List vw_C} {ws ws' l : va_W} {H : Heap} (h : va_P D cl ws H) (h1 : ws'.Perm l) (h2 : l.Sublist ws) : va_P D cl ws' H := by
  intro k q hk
  obtain ⟨k', hk'⟩ := List.getElem?_of_mem (h2.subset (h1.subset (List.mem_of_getElem? hk)))
  exact h k' q hk'
section TROWS
variable {p : Program} {l : Launch} {e : Env} {R : Room} {s : State} {m : MethodId} {args : Array Value} {below : List Frame} {meth : Method} {c : Code} {cc : ByteArray} {nL : Nat} {own : String} {D : va_G} {cy : Nat → ClassId} {tys : List (ClassId × FieldType)} {A : Nat → Prop} {cells slots : Nat} {Q : State → Prop} {ws : va_W} {pc : Nat} {L : List (Nat × Value)} {st : List Value}
theorem zG.less {ws' l' : va_W} (h1 : ws'.Perm l') (h2 : l'.Sublist ws) (kk : zG p l e R s m args below meth c nL D A cells slots Q ws' pc L st) : zG p l e R s m args below meth c nL D A cells slots Q ws pc L st :=
  fun H locs ls hP hD hS hl9 => kk H locs ls (hP.less h1 h2) (hD.less h1 h2) hS hl9
theorem zG.wide {k n : Nat} (h1 : cells ≤ k) (h2 : slots ≤ n) (kk : zG p l e R s m args below meth c nL D A k n Q ws pc L st) : zG p l e R s m args below meth c nL D A cells slots Q ws pc L st :=
  fun H locs ls hP hD hS hl9 => W.widen h1 h2 (kk H locs ls hP hD hS hl9)
theorem t_iret {v : Int32} {ty : FieldType} {P : Int32 → va_W → Prop} {mc ms : Nat} (C : zC p s m args meth c cc nL own D tys A) (hr : meth.sig.returnType = some ty) (hn : narrow ty (.int v) = .int v) (h9 : P v ws) (h1 : cells ≤ mc) (h2 : slots ≤ ms) (hdg : decode cc pc = .ok (.ireturn, 1)) :
    zG p l e R s m args below meth c nL D A cells slots (MQ below (tI D tys P A) args s mc ms A) ws pc L [.int v] := by
  obtain ⟨hx, hb, hml, hown, hts, hK, hA, hlk⟩ := C
  intro H locs ls hP hD hS hl9
  refine W.widen h1 h2 ?_
  exact W.zret hx hb hr hn (fun t ht hW => ⟨⟨v, ws, rfl, h9, by rw [ht]; exact hP, va_K.moved hW.alike hK, hD⟩, hS.F ht⟩) hS.2.2 hdg hlk
theorem t_vret {P : va_W → Prop} {mc ms : Nat} (C : zC p s m args meth c cc nL own D tys A) (hr : meth.sig.returnType = none) (h9 : P ws) (h1 : cells ≤ mc) (h2 : slots ≤ ms) (hdg : decode cc pc = .ok (.return_, 1)) :
    zG p l e R s m args below meth c nL D A cells slots (MQ below (tV D tys P A) args s mc ms A) ws pc L [] := by
  obtain ⟨hx, hb, hml, hown, hts, hK, hA, hlk⟩ := C
  intro H locs ls hP hD hS hl9
  refine W.widen h1 h2 ?_
  exact W.vret hx hb hr (fun t ht hW => ⟨⟨ws, rfl, h9, by rw [ht]; exact hP, va_K.moved hW.alike hK, hD⟩, hS.F ht⟩) hS.2.2 hdg hlk
theorem t_aret {a : Nat} {ty : FieldType} {P : Nat → va_W → Prop} {mc ms : Nat} (C : zC p s m args meth c cc nL own D tys A) (hr : meth.sig.returnType = some ty) (hrt : (∃ n, ty = .object n) ∨ ∃ t, ty = .array t) (h9 : P a ws) (h1 : cells ≤ mc) (h2 : slots ≤ ms) (hdg : decode cc pc = .ok (.areturn, 1)) :
    zG p l e R s m args below meth c nL D A cells slots (MQ below (tR D tys P A) args s mc ms A) ws pc L [.ref a] := by
  obtain ⟨hx, hb, hml, hown, hts, hK, hA, hlk⟩ := C
  intro H locs ls hP hD hS hl9
  refine W.widen h1 h2 ?_
  exact W.aret hx hb hr hrt (Or.inr ⟨_, rfl⟩) (fun t ht hW => ⟨⟨ws, a, rfl, trivial, h9, by rw [ht]; exact hP, va_K.moved hW.alike hK, hD⟩, hS.F ht⟩) hS.2.2 hdg hlk
theorem p_get (C : zC p s m args meth c cc nL own D tys A) {q0 ci k N index a : Nat} {fs : List Value} {v : Value} {C0 : String} {T : u_T} (ha : ws[q0]? = some (a, .inr (ci, fs))) (hc : vwCl[ci]? = some (C0, T, N)) (hin : ∀ w ∈ u_ws C0 T N, w ∈ zAll) (hk : k < N) (hlink : (Cond.fieldLink own index (T k).1 (T k).2.1 (T k).2.2.1) ∈ zAll) (hv : fs[k]? = some v) (hdg : decode cc pc = .ok (.getfield index, 3))
    (kk : zG p l e R s m args below meth c nL D A cells slots Q ws (pc + 3) L (v :: st)) : zG p l e R s m args below meth c nL D A cells slots Q ws pc L (.ref a :: st) := by
  obtain ⟨hx, hb, hml, hown, hts, hK, hA, hlk⟩ := C
  intro H locs ls hP hD hS hl9
  exact va_get (D := D) hx hb hts hin hown hK hP q0 ha hc k hk (hts _ hlink) (fun _ h => h) hv hdg (kk H locs ls hP hD hS hl9)
theorem p_put (C : zC p s m args meth c cc nL own D tys A) {ty : FieldType} {ty0 : Nat → FieldType} {v : Value} {q0 ci k N index a : Nat} {fs : List Value} {C0 : String} {T : u_T} {ws' : va_W} (ha : ws[q0]? = some (a, .inr (ci, fs))) (hc : vwCl[ci]? = some (C0, T, N)) (hin : ∀ w ∈ u_ws C0 T N, w ∈ zAll) (hk : k < N) (hlink : (Cond.fieldLink own index (T k).1 (T k).2.1 (T k).2.2.1) ∈ zAll) (hty : ∀ k, k < N → parseFieldDescriptor (T k).2.2.1 = some (ty0 k)) (hnm : ∀ a, a < N → ∀ b, b < N → a ≠ b → (T a).2.1 ≠ (T b).2.1) (hfin : (T k).2.2.2 = false) (hd : parseFieldDescriptor (T k).2.2.1 = some ty) (hn : narrow ty v = v) (hfit : fits ty v = true) (hl : k < fs.length) (hw : ws.set q0 (a, .inr (ci, fs.set k v)) = ws') (hdg : decode cc pc = .ok (.putfield index, 3))
    (kk : zG p l e R s m args below meth c nL D A cells slots Q ws' (pc + 3) L st) : zG p l e R s m args below meth c nL D A cells slots Q ws pc L (v :: .ref a :: st) := by
  obtain ⟨hx, hb, hml, hown, hts, hK, hA, hlk⟩ := C
  subst hw
  intro H locs ls hP hD hS hl9
  exact va_put (D := D) hx hb hts hin ty0 hty hnm hown hK hP hD hS q0 ha hc k hk (hts _ hlink) (fun _ h => h) hfin hd hn hfit hl hdg (fun H1 locs1 hP hD hS => kk H1 locs1 ls hP hD hS hl9)
theorem p_bald (C : zC p s m args meth c cc nL own D (zTy cy) A) {q0 n a : Nat} {f : Nat → Int32} {i : Int32} (ha : ws[q0]? = some (a, .inl (cy 2, n, .inl f))) (hin : vp_in i n) (hdg : decode cc pc = .ok (.baload, 1))
    (kk : zG p l e R s m args below meth c nL D A cells slots Q ws (pc + 1) L (.int (f i.toNatClampNeg) :: st)) : zG p l e R s m args below meth c nL D A cells slots Q ws pc L (.int i :: .ref a :: st) := by
  obtain ⟨hx, hb, hml, hown, hts, hK, hA, hlk⟩ := C
  intro H locs ls hP hD hS hl9
  exact va_bald hx hb hK hP q0 2 ha rfl hin hdg (kk H locs ls hP hD hS hl9)
theorem p_bast (C : zC p s m args meth c cc nL own D (zTy cy) A) {q0 n a : Nat} {f : Nat → Int32} {i x : Int32} {ws' : va_W} (ha : ws[q0]? = some (a, .inl (cy 2, n, .inl f))) (hin : vp_in i n) (hw : ws.set q0 (a, .inl (cy 2, n, .inl (upd f i.toNatClampNeg (vp_nar .byte x)))) = ws') (hdg : decode cc pc = .ok (.bastore, 1))
    (kk : zG p l e R s m args below meth c nL D A cells slots Q ws' (pc + 1) L st) : zG p l e R s m args below meth c nL D A cells slots Q ws pc L (.int x :: .int i :: .ref a :: st) := by
  obtain ⟨hx, hb, hml, hown, hts, hK, hA, hlk⟩ := C
  subst hw
  intro H locs ls hP hD hS hl9
  exact va_bast hx hb hK hP hD hS q0 2 ha rfl hin hdg (fun H1 locs1 hP hD hS => kk H1 locs1 ls hP hD hS hl9)
theorem p_alen (C : zC p s m args meth c cc nL own D (zTy cy) A) {q0 n a : Nat} {f : Nat → Int32} (ha : ws[q0]? = some (a, .inl (cy 2, n, .inl f))) (hdg : decode cc pc = .ok (.arraylength, 1))
    (kk : zG p l e R s m args below meth c nL D A cells slots Q ws (pc + 1) L (.int (nI n) :: st)) : zG p l e R s m args below meth c nL D A cells slots Q ws pc L (.ref a :: st) := by
  obtain ⟨hx, hb, hml, hown, hts, hK, hA, hlk⟩ := C
  intro H locs ls hP hD hS hl9
  exact va_alen hx hb hK hP q0 2 ha rfl rfl hdg (kk H locs ls hP hD hS hl9)
theorem p_newb (C : zC p s m args meth c cc nL own D (zTy cy) A) {n : Int32} {N : Nat} (harr : Cond.arrayClass .byte ∈ zAll) (hn : ¬ n < 0) (hN : n.toNatClampNeg = N) (hb9 : N ≤ 536870912) (hc9 : cells + 1 ≤ R.cells) (hs9 : slots + N ≤ R.slots) (hdg : decode cc pc = .ok (.newarray .byte, 2))
    (kk : ∀ q : Nat, zG p l e R s m args below meth c nL D A (cells + 1) (slots + N) Q (ws ++ [(q, .inl (cy 2, N, .inl (fun _ => 0)))]) (pc + 2) L (.ref q :: st)) : zG p l e R s m args below meth c nL D A cells slots Q ws pc L (.int n :: st) := by
  obtain ⟨hx, hb, hml, hown, hts, hK, hA, hlk⟩ := C
  intro H locs ls hP hD hS hl9
  refine va_newa (atype := .byte) (ty := .byte) (a0 := (N, .inl (fun _ => 0))) hx hb (hts _ harr) rfl hK hP hD hS hA (fun cA => rfl) hn hN (by show N * 1 ≤ _; omega) hc9 hs9 hdg (fun q cA H1 hK1 hP1 hD1 hS1 => ?_)
  have e1 : s.vm.findClass ("[" ++ FieldType.byte.toString) = some cA := (hK1.2 (zTy cy).length (cA, .byte) (by rw [List.getElem?_append_right (Nat.le_refl _), Nat.sub_self]; rfl)).2
  have e2 : s.vm.findClass ("[" ++ FieldType.byte.toString) = some (cy 2) := (hK.2 2 (cy 2, .byte) rfl).2
  rw [show cA = cy 2 from Option.some.inj (e1.symm.trans e2)] at hP1 hD1
  exact kk q H1 locs ls hP1 hD1 hS1 hl9
theorem p_gets (C : zC p s m args meth c cc nL own D tys A) {C0 n d : String} {v : Value} {index : Nat} (hZ : va_Z C0 n d v A s s.heap) (hlink : (Cond.fieldLink own index C0 n d) ∈ zAll) (hdg : decode cc pc = .ok (.getstatic index, 3))
    (kk : zG p l e R s m args below meth c nL D A cells slots Q ws (pc + 3) L (v :: st)) : zG p l e R s m args below meth c nL D A cells slots Q ws pc L st := by
  obtain ⟨hx, hb, hml, hown, hts, hK, hA, hlk⟩ := C
  intro H locs ls hP hD hS hl9
  exact va_gets hx hb hZ hS hown (hts _ hlink) (fun _ h => h) hdg (kk H locs ls hP hD hS hl9)
theorem p_tb (C : zC p s m args meth c cc nL own D tys A) {t N : Nat} {f : Nat → Value} {v : Value} {i : Int32} (hT : va_T .byte t N f A s s.heap) (hin : vp_in i N) (hv : f i.toNatClampNeg = v) (hdg : decode cc pc = .ok (.baload, 1))
    (kk : zG p l e R s m args below meth c nL D A cells slots Q ws (pc + 1) L (v :: st)) : zG p l e R s m args below meth c nL D A cells slots Q ws pc L (.int i :: .ref t :: st) := by
  obtain ⟨hx, hb, hml, hown, hts, hK, hA, hlk⟩ := C
  intro H locs ls hP hD hS hl9
  exact va_tb hx hb hT hS hin hv hdg (kk H locs ls hP hD hS hl9)
theorem p_ti (C : zC p s m args meth c cc nL own D tys A) {t N : Nat} {f : Nat → Value} {v : Value} {i : Int32} (hT : va_T .int t N f A s s.heap) (hin : vp_in i N) (hv : f i.toNatClampNeg = v) (hdg : decode cc pc = .ok (.iaload, 1))
    (kk : zG p l e R s m args below meth c nL D A cells slots Q ws (pc + 1) L (v :: st)) : zG p l e R s m args below meth c nL D A cells slots Q ws pc L (.int i :: .ref t :: st) := by
  obtain ⟨hx, hb, hml, hown, hts, hK, hA, hlk⟩ := C
  intro H locs ls hP hD hS hl9
  exact va_ti hx hb hT hS hin hv hdg (kk H locs ls hP hD hS hl9)
theorem p_tlen (C : zC p s m args meth c cc nL own D tys A) {t N : Nat} {ty : FieldType} {f : Nat → Value} (hT : va_T ty t N f A s s.heap) (hdg : decode cc pc = .ok (.arraylength, 1))
    (kk : zG p l e R s m args below meth c nL D A cells slots Q ws (pc + 1) L (.int (nI N) :: st)) : zG p l e R s m args below meth c nL D A cells slots Q ws pc L (.ref t :: st) := by
  obtain ⟨hx, hb, hml, hown, hts, hK, hA, hlk⟩ := C
  intro H locs ls hP hD hS hl9
  exact va_tlen hx hb hT hS rfl hdg (kk H locs ls hP hD hS hl9)
theorem p_getf (C : zC p s m args meth c cc nL own D tys A) {o n d : String} {index q : Nat} {v : Value} (hE : va_OF o n d v q A s s.heap) (hlink : (Cond.fieldLink own index o n d) ∈ zAll) (hdg : decode cc pc = .ok (.getfield index, 3))
    (kk : zG p l e R s m args below meth c nL D A cells slots Q ws (pc + 3) L (v :: st)) : zG p l e R s m args below meth c nL D A cells slots Q ws pc L (.ref q :: st) := by
  obtain ⟨hx, hb, hml, hown, hts, hK, hA, hlk⟩ := C
  intro H locs ls hP hD hS hl9
  exact vk_getf hx hb hE hS hown (hts _ hlink) (fun _ h => h) hdg (kk H locs ls hP hD hS hl9)
theorem p_ldcS (C : zC p s m args meth c cc nL own D tys A) {tx : String} {index q : Nat} (hZ : vk_R own index tx q s) (hdg : decode cc pc = .ok (.ldc index, 2))
    (kk : zG p l e R s m args below meth c nL D A cells slots Q ws (pc + 2) L (.ref q :: st)) : zG p l e R s m args below meth c nL D A cells slots Q ws pc L st := by
  obtain ⟨hx, hb, hml, hown, hts, hK, hA, hlk⟩ := C
  intro H locs ls hP hD hS hl9
  exact va_ldcS hx hb hown hZ hdg (kk H locs ls hP hD hS hl9)
theorem p_copyb (C : zC p s m args meth c cc nL own D (zTy cy) A) {q0 q1 a0 a n0 n1 index : Nat} {f g : Nat → Int32} {sp dp n : Int32} {ws' : va_W} (ha0 : ws[q0]? = some (a0, .inl (cy 2, n0, .inl f))) (ha1 : ws[q1]? = some (a, .inl (cy 2, n1, .inl g))) (hlink : (Cond.methodLink own index arraycopyName) ∈ zAll) (h1 : ¬ sp < 0) (h2 : ¬ dp < 0) (h3 : ¬ n < 0) (h4 : sp.toNatClampNeg + n.toNatClampNeg ≤ n0) (h5 : dp.toNatClampNeg + n.toNatClampNeg ≤ n1) (hfit : ∀ i, i < n.toNatClampNeg → fits .byte (.int (f (sp.toNatClampNeg + i))) = true) (hfr : 1 ≤ R.frames) (hlo : (st.map fun v => v.category).sum + (nativeFrameWords "java/lang/System" "arraycopy" 5 + 11) ≤ R.locals)
    (hw : ws.set q1 (a, .inl (cy 2, n1, .inl (va_cpy f g sp.toNatClampNeg dp.toNatClampNeg n.toNatClampNeg))) = ws') (hdg : decode cc pc = .ok (.invokestatic index, 3))
    (kk : zG p l e R s m args below meth c nL D A cells slots Q ws' (pc + 3) L st) : zG p l e R s m args below meth c nL D A cells slots Q ws pc L (.int n :: .int dp :: .ref a :: .int sp :: .ref a0 :: st) := by
  obtain ⟨hx, hb, hml, hown, hts, hK, hA, hlk⟩ := C
  subst hw
  intro H locs ls hP hD hS hl9
  exact va_copyi hx hb (hml.trans hl9.1.symm) hown (hts _ hlink) (hts _ z_acopy.1) (hts _ z_acopy.2.1) (hts _ z_acopy.2.2) hK hP hD hS q0 q1 2 2 ha0 ha1 rfl rfl rfl h1 h2 h3 h4 h5 hfit hfr hlo hdg (fun H1 locs1 hP hD hS => kk H1 locs1 ls hP hD hS hl9)
theorem p_copyt (C : zC p s m args meth c cc nL own D (zTy cy) A) {q1 b0 a n0 n1 index : Nat} {f g : Nat → Int32} {sp dp n : Int32} {ws' : va_W} (hX : va_T .byte b0 n0 (fun j => .int (f j)) A s s.heap) (ha1 : ws[q1]? = some (a, .inl (cy 2, n1, .inl g))) (hlink : (Cond.methodLink own index arraycopyName) ∈ zAll) (h1 : ¬ sp < 0) (h2 : ¬ dp < 0) (h3 : ¬ n < 0) (h4 : sp.toNatClampNeg + n.toNatClampNeg ≤ n0) (h5 : dp.toNatClampNeg + n.toNatClampNeg ≤ n1) (hfit : ∀ i, i < n.toNatClampNeg → fits .byte (.int (f (sp.toNatClampNeg + i))) = true) (hfr : 1 ≤ R.frames) (hlo : (st.map fun v => v.category).sum + (nativeFrameWords "java/lang/System" "arraycopy" 5 + 11) ≤ R.locals)
    (hw : ws.set q1 (a, .inl (cy 2, n1, .inl (va_cpy f g sp.toNatClampNeg dp.toNatClampNeg n.toNatClampNeg))) = ws') (hdg : decode cc pc = .ok (.invokestatic index, 3))
    (kk : zG p l e R s m args below meth c nL D A cells slots Q ws' (pc + 3) L st) : zG p l e R s m args below meth c nL D A cells slots Q ws pc L (.int n :: .int dp :: .ref a :: .int sp :: .ref b0 :: st) := by
  obtain ⟨hx, hb, hml, hown, hts, hK, hA, hlk⟩ := C
  subst hw
  intro H locs ls hP hD hS hl9
  exact vk_copyt hx hb (hml.trans hl9.1.symm) hown (hts _ hlink) (hts _ z_acopy.1) (hts _ z_acopy.2.1) (hts _ z_acopy.2.2) hK hP hD hS hX q1 2 ha1 rfl h1 h2 h3 h4 h5 hfit hfr hlo hdg (fun H1 locs1 hP hD hS => kk H1 locs1 ls hP hD hS hl9)
theorem p_aload_nV (C : zC p s m args meth c cc nL own D tys A) {k : Fin 4} {i j : Nat} {v : Value} (hdg : decode cc pc = .ok (.aload_n k, 1)) (hi : (k : Nat) = i) (hl : L[j]? = some (i, v)) (hv : v = .null ∨ ∃ x, v = .ref x)
    (kk : zG p l e R s m args below meth c nL D A cells slots Q ws (pc + 1) L (v :: st)) : zG p l e R s m args below meth c nL D A cells slots Q ws pc L st := by
  rcases hv with rfl | ⟨x, rfl⟩
  · exact g_aload_nN C hdg hi hl kk
  · exact g_aload_n C hdg hi hl kk
theorem p_dup_x1 (C : zC p s m args meth c cc nL own D tys A) {va vb : Value} (hdg : decode cc pc = .ok (.dup_x1, 1)) (hva : va.category = 1) (hvb : vb.category = 1)
    (kk : zG p l e R s m args below meth c nL D A cells slots Q ws (pc + 1) L (va :: vb :: va :: st)) : zG p l e R s m args below meth c nL D A cells slots Q ws pc L (va :: vb :: st) := by
  obtain ⟨hx, hb, hml, hown, hts, hK, hA, hlk⟩ := C
  intro H locs ls hP hD hS hl9
  exact lv_dup_x1 hx hb hdg hva hvb (kk H locs ls hP hD hS hl9)
theorem p_i2b (C : zC p s m args meth c cc nL own D tys A) {x v : Int32} (hdg : decode cc pc = .ok (.i2b, 1)) (hv : x.toInt8.toInt32 = v)
    (kk : zG p l e R s m args below meth c nL D A cells slots Q ws (pc + 1) L (.int v :: st)) : zG p l e R s m args below meth c nL D A cells slots Q ws pc L (.int x :: st) := by
  obtain ⟨hx, hb, hml, hown, hts, hK, hA, hlk⟩ := C
  intro H locs ls hP hD hS hl9
  exact lv_i2b hx hb hdg hv (kk H locs ls hP hD hS hl9)
theorem p_ifnn (C : zC p s m args meth c cc nL own D tys A) {x tgt : Nat} {off : Int} (hdg : decode cc pc = .ok (.ifnonnull off, 3)) (ht : (pc : Int) + off = (tgt : Int))
    (kk : zG p l e R s m args below meth c nL D A cells slots Q ws tgt L st) : zG p l e R s m args below meth c nL D A cells slots Q ws pc L (.ref x :: st) := by
  obtain ⟨hx, hb, hml, hown, hts, hK, hA, hlk⟩ := C
  intro H locs ls hP hD hS hl9
  exact lv_ifnonnull hx hb hdg ht (kk H locs ls hP hD hS hl9)
/-- a computed number gets another name -/
theorem p_num {x y : Int32} (h : x = y) (kk : zG p l e R s m args below meth c nL D A cells slots Q ws pc L (.int y :: st)) : zG p l e R s m args below meth c nL D A cells slots Q ws pc L (.int x :: st) := by
  rw [h]; exact kk
-- calls
variable {EV : zEV} {index n maxL mc ms : Nat} {y : MethodName} {rm : Room} {As rest : List Value} {a : Nat} {bytes : ByteArray} {ret : Option FieldType} {C0 : String}
def zRec (s : State) (A : Nat → Prop) (D : va_G) (ws : va_W) (a : Nat) (C0 : String) : Prop := ∀ (H : Heap) (locs : List Loc), va_P D vwCl ws H → va_S A s.heap H locs → ∃ cell : Cell, H[a]? = some cell ∧ cell.vm.isStatics = false ∧ s.vm.findClass C0 = some cell.cls
theorem zRec.of (C : zC p s m args meth c cc nL own D tys A) {q0 ci N : Nat} {T : u_T} {fs : List Value} (hc : vwCl[ci]? = some (C0, T, N)) (hq : ws[q0]? = some (a, .inr (ci, fs))) : zRec s A D ws a C0 := by
  obtain ⟨hx, hb, hml, hown, hts, hK, hA, hlk⟩ := C
  intro H locs hP hS
  exact va_recv hK hP hc hq
def zCalU (own : String) (index : Nat) (y : MethodName) (cc : ByteArray) (maxL : Nat) (ret : Option FieldType) (n : Nat) : Prop := (Cond.methodLink own index y ∈ zAll ∧ Cond.sameMethod y.cls y.cls y.name y.desc ∈ zAll ∧ Cond.instanceMethod y ∈ zAll ∧ Cond.initialized y.cls ∈ zAll) ∧ Cond.code y cc maxL ret ∈ zAll ∧ (y.cls ≠ "java/lang/invoke/MethodHandle" ∧ y.cls ≠ "java/lang/invoke/VarHandle" ∧ (parseMethodDescriptor y.desc).map (fun d => d.parameters.length) = some n)
theorem zCU {R : Room} {args : Array Value} {s : State} {y : MethodName} {own C0 : String} {index n maxL mc ms : Nat} {bytes : ByteArray} {ret : Option FieldType} {rm : Room} (ht : ∀ w ∈ zAll, w.before args s = true) (h : zCalU own index y bytes maxL ret n) (hsel : (Cond.selects C0 y y).before args s = true) (hrc : rm.cells = mc) (hrs : rm.slots = ms) (hR : rm.frames + 1 ≤ R.frames ∧ 8 + (maxL + 11) + rm.locals ≤ R.locals) : va_CU R s args own C0 y.cls index y y bytes maxL ret (zTs y bytes maxL ret) rm mc ms n := by
  obtain ⟨⟨h1, h2, h3, h4⟩, h5, h7⟩ := h
  have hG : GoodIn zAll (zTs y bytes maxL ret) := z_go (y := y) (cc := bytes) (n := maxL) (r := ret) (pre := []) (fun w hw => absurd hw List.not_mem_nil) h5
  have hc : Cond.code y bytes maxL ret ∈ zTs y bytes maxL ret := List.mem_cons_self
  refine ⟨⟨hrc, hrs, hR.1, hR.2, pay_in ht hG, hc⟩, ht _ h5, ht _ h4, ⟨h7.1, h7.2.1⟩, fun sig h => ?_, ht _ h1, ht _ h2, va_Decl.of (ht _ h3) (ht _ h5), hsel, ht _ h3⟩
  have e := h7.2.2
  rw [h] at e
  exact (Option.some.inj e).symm
theorem z_selP {C : String} {n : Nat} {y yI : MethodName} {args : Array Value} {s : State} (hy : y.cls ≠ "java/lang/invoke/MethodHandle" ∧ y.cls ≠ "java/lang/invoke/VarHandle") (hyI : yI.cls ≠ "java/lang/invoke/MethodHandle" ∧ yI.cls ≠ "java/lang/invoke/VarHandle") (hc : yI.cls = y.cls)
    (hins : (Cond.instantiable C n).before args s = true) (hpriv : (Cond.privateMethod y).before args s = true) (hinst : (Cond.instanceMethod y).before args s = true) (hI : (Cond.selects C yI yI).before args s = true) (hIi : (Cond.instanceMethod yI).before args s = true) : (Cond.selects C y y).before args s = true := by
  obtain ⟨c, k, hcC, hk, -, hniab, -, -⟩ := Cond.instantiable_spec hins
  obtain ⟨mk, methM, hnamed, hmethM, -, -⟩ := Cond.instanceMethod_spec hinst
  obtain ⟨mI, methI, hnamedI, hmethI, -, -⟩ := Cond.instanceMethod_spec hIi
  have hfound := State.methodFound?_of_named hnamed hy
  have hfoundI := State.methodFound?_of_named hnamedI hyI
  have hcls : mI.cls = mk.cls := Option.some.inj ((findClass_of_methodNamed hnamedI).symm.trans (by rw [hc]; exact findClass_of_methodNamed hnamed))
  have hsel : selectMethod {} s.vm c mk = .method mk := selectMethod_private hmethM (Cond.privateMethod_at hpriv mk methM hnamed hmethM)
  simp only [Cond.before, Cond.holds, Cond.value, hcC, hfoundI, hnamedI] at hI
  have hni : (s.vm.classes[mk.cls]?).any (fun k => !k.isInterface) = true := by
    rw [← hcls]
    generalize selectMethod {} s.vm c mI = z at hI
    cases z with
    | method m' =>
      simp only [beq_iff_eq, Option.some.injEq, Bool.and_eq_true] at hI
      exact hI.2
    | _ => simp at hI
  simp only [Cond.before, Cond.holds, Cond.value, hcC, hfound, hnamed, hsel, hni]
  simp
def zCalSU (own : String) (index : Nat) (y : MethodName) (cc : ByteArray) (maxL : Nat) (ret : Option FieldType) (n : Nat) : Prop := (∀ w ∈ ([.methodLink own index y, .sameMethod y.cls y.cls y.name y.desc, .superclass own y.cls, .instanceMethod y, .initialized y.cls] : List Cond), w ∈ zAll) ∧ Cond.code y cc maxL ret ∈ zAll ∧ (y.name ≠ "<init>" ∧ (parseMethodDescriptor y.desc).map (fun d => d.parameters.length) = some n)
theorem t_Vi {P : Int32 → va_W → Prop} (hG : zGE EV) (hE : EV A s s.heap) (C : zC p s m args meth c cc nL own D tys A) (hM : zMt l y bytes maxL ret rm D tys EV ws (.ref a :: As) mc ms (tI D tys P)) (hlk9 : Cond.methodLink own index y ∈ zAll) (hcal : zCalV C0 y bytes maxL ret n) (hrec : zRec s A D ws a C0) (hrc : rm.cells = mc) (hrs : rm.slots = ms) (hR : rm.frames + 1 ≤ R.frames ∧ 8 + (maxL + 11) + rm.locals ≤ R.locals) (hn : As.length = n) (hst : st = As.reverse ++ .ref a :: rest) (h8 : (rest.map fun v => v.category).sum ≤ 8) (hf : cells + mc ≤ R.cells ∧ slots + ms ≤ R.slots) (hdg : decode cc pc = .ok (.invokevirtual index, 3))
    (kk : ∀ (r : Int32) (w : va_W), P r w → zG p l e R s m args below meth c nL D A (cells + mc) (slots + ms) Q w (pc + 3) L (.int r :: rest)) : zG p l e R s m args below meth c nL D A cells slots Q ws pc L st := by
  obtain ⟨hx, hb, hml, hown, hts, hK, hA, hlk⟩ := C
  intro H locs ls hP hD hS hl9
  subst hst
  refine va_calli (va_runV (As := As) (rest := rest) ⟨hx, hb, hml, hown, hts⟩ (hM H.size) (cwV n hts (z_goV hlk9 hcal) rfl hrc hrs hcal.2.2.2.2 hR) ⟨zPt_blind hG D tys ws _ _, hrec H locs hP hS, fun U hU hW => ⟨rfl, by rw [hU], by rw [hU]; exact hP, va_K.moved hW.alike hK, hD.weaken (fun _ _ _ _ => trivial), hG.at hE hS hU hW (z_free hD hS hA)⟩⟩ rfl hn hl9.1 rfl (lv_room h8) hdg hf) hS (fun q _ hq9 => z_free hD hS hA q hq9) (z_free hD hS hA) (fun r u t H1 locs1 ht hvm hw9 hB hz hk1 hS1 => ?_)
  obtain ⟨hP1, hK1, hD1⟩ := hB
  rw [ht] at hP1
  exact kk r u hw9 H1 locs1 ls hP1 (hD1.weaken (fun _ q _ hq9 => z_free hD hS hA q.1 hq9)) hS1 hl9
theorem t_Vv {P : va_W → Prop} (hG : zGE EV) (hE : EV A s s.heap) (C : zC p s m args meth c cc nL own D tys A) (hM : zMt l y bytes maxL ret rm D tys EV ws (.ref a :: As) mc ms (tV D tys P)) (hlk9 : Cond.methodLink own index y ∈ zAll) (hcal : zCalV C0 y bytes maxL ret n) (hrec : zRec s A D ws a C0) (hrc : rm.cells = mc) (hrs : rm.slots = ms) (hR : rm.frames + 1 ≤ R.frames ∧ 8 + (maxL + 11) + rm.locals ≤ R.locals) (hn : As.length = n) (hst : st = As.reverse ++ .ref a :: rest) (h8 : (rest.map fun v => v.category).sum ≤ 8) (hf : cells + mc ≤ R.cells ∧ slots + ms ≤ R.slots) (hdg : decode cc pc = .ok (.invokevirtual index, 3))
    (kk : ∀ (w : va_W), P w → zG p l e R s m args below meth c nL D A (cells + mc) (slots + ms) Q w (pc + 3) L rest) : zG p l e R s m args below meth c nL D A cells slots Q ws pc L st := by
  obtain ⟨hx, hb, hml, hown, hts, hK, hA, hlk⟩ := C
  intro H locs ls hP hD hS hl9
  subst hst
  refine va_callv (va_runV (As := As) (rest := rest) ⟨hx, hb, hml, hown, hts⟩ (hM H.size) (cwV n hts (z_goV hlk9 hcal) rfl hrc hrs hcal.2.2.2.2 hR) ⟨zPt_blind hG D tys ws _ _, hrec H locs hP hS, fun U hU hW => ⟨rfl, by rw [hU], by rw [hU]; exact hP, va_K.moved hW.alike hK, hD.weaken (fun _ _ _ _ => trivial), hG.at hE hS hU hW (z_free hD hS hA)⟩⟩ rfl hn hl9.1 rfl (lv_room h8) hdg hf) hS (fun q _ hq9 => z_free hD hS hA q hq9) (z_free hD hS hA) (fun u t H1 locs1 ht hvm hw9 hB hz hk1 hS1 => ?_)
  obtain ⟨hP1, hK1, hD1⟩ := hB
  rw [ht] at hP1
  exact kk u hw9 H1 locs1 ls hP1 (hD1.weaken (fun _ q _ hq9 => z_free hD hS hA q.1 hq9)) hS1 hl9
theorem t_Vr {P : Nat → va_W → Prop} (hG : zGE EV) (hE : EV A s s.heap) (C : zC p s m args meth c cc nL own D tys A) (hM : zMt l y bytes maxL ret rm D tys EV ws (.ref a :: As) mc ms (tR D tys P)) (hlk9 : Cond.methodLink own index y ∈ zAll) (hcal : zCalV C0 y bytes maxL ret n) (hrec : zRec s A D ws a C0) (hrc : rm.cells = mc) (hrs : rm.slots = ms) (hR : rm.frames + 1 ≤ R.frames ∧ 8 + (maxL + 11) + rm.locals ≤ R.locals) (hn : As.length = n) (hst : st = As.reverse ++ .ref a :: rest) (h8 : (rest.map fun v => v.category).sum ≤ 8) (hf : cells + mc ≤ R.cells ∧ slots + ms ≤ R.slots) (hdg : decode cc pc = .ok (.invokevirtual index, 3))
    (kk : ∀ (r : Nat) (w : va_W), P r w → zG p l e R s m args below meth c nL D A (cells + mc) (slots + ms) Q w (pc + 3) L (.ref r :: rest)) : zG p l e R s m args below meth c nL D A cells slots Q ws pc L st := by
  obtain ⟨hx, hb, hml, hown, hts, hK, hA, hlk⟩ := C
  intro H locs ls hP hD hS hl9
  subst hst
  refine va_callr (va_runV (As := As) (rest := rest) ⟨hx, hb, hml, hown, hts⟩ (hM H.size) (cwV n hts (z_goV hlk9 hcal) rfl hrc hrs hcal.2.2.2.2 hR) ⟨zPt_blind hG D tys ws _ _, hrec H locs hP hS, fun U hU hW => ⟨rfl, by rw [hU], by rw [hU]; exact hP, va_K.moved hW.alike hK, hD.weaken (fun _ _ _ _ => trivial), hG.at hE hS hU hW (z_free hD hS hA)⟩⟩ rfl hn hl9.1 rfl (lv_room h8) hdg hf) hS (fun q _ hq9 => z_free hD hS hA q hq9) (z_free hD hS hA) (fun u r t H1 locs1 ht hvm _ hB hz hk1 hS1 => ?_)
  obtain ⟨hw9, hP1, hK1, hD1⟩ := hB
  rw [ht] at hP1
  exact kk r u hw9 H1 locs1 ls hP1 (hD1.weaken (fun _ q _ hq9 => z_free hD hS hA q.1 hq9)) hS1 hl9
theorem t_Si {P : Int32 → va_W → Prop} (hG : zGE EV) (hE : EV A s s.heap) (C : zC p s m args meth c cc nL own D tys A) (hM : zMt l y bytes maxL ret rm D tys EV ws As mc ms (tI D tys P)) (hlk9 : Cond.methodLink own index y ∈ zAll) (hcal : zCalS y bytes maxL ret n) (hrc : rm.cells = mc) (hrs : rm.slots = ms) (hR : rm.frames + 1 ≤ R.frames ∧ 8 + (maxL + 11) + rm.locals ≤ R.locals) (hn : As.length = n) (hst : st = As.reverse ++ rest) (h8 : (rest.map fun v => v.category).sum ≤ 8) (hf : cells + mc ≤ R.cells ∧ slots + ms ≤ R.slots) (hdg : decode cc pc = .ok (.invokestatic index, 3))
    (kk : ∀ (r : Int32) (w : va_W), P r w → zG p l e R s m args below meth c nL D A (cells + mc) (slots + ms) Q w (pc + 3) L (.int r :: rest)) : zG p l e R s m args below meth c nL D A cells slots Q ws pc L st := by
  obtain ⟨hx, hb, hml, hown, hts, hK, hA, hlk⟩ := C
  intro H locs ls hP hD hS hl9
  subst hst
  refine va_calli (va_runS (As := As) (rest := rest) ⟨hx, hb, hml, hown, hts⟩ (hM H.size) (va_cwS n hts (z_goS hlk9 hcal) rfl hrc hrs hcal.2.2.2 hR) ⟨zPt_blind hG D tys ws _ _, fun U hU hW => ⟨rfl, by rw [hU], by rw [hU]; exact hP, va_K.moved hW.alike hK, hD.weaken (fun _ _ _ _ => trivial), hG.at hE hS hU hW (z_free hD hS hA)⟩⟩ rfl hn hl9.1 rfl (lv_room h8) hdg hf) hS (fun q _ hq9 => z_free hD hS hA q hq9) (z_free hD hS hA) (fun r u t H1 locs1 ht hvm hw9 hB hz hk1 hS1 => ?_)
  obtain ⟨hP1, hK1, hD1⟩ := hB
  rw [ht] at hP1
  exact kk r u hw9 H1 locs1 ls hP1 (hD1.weaken (fun _ q _ hq9 => z_free hD hS hA q.1 hq9)) hS1 hl9
theorem t_Sv {P : va_W → Prop} (hG : zGE EV) (hE : EV A s s.heap) (C : zC p s m args meth c cc nL own D tys A) (hM : zMt l y bytes maxL ret rm D tys EV ws As mc ms (tV D tys P)) (hlk9 : Cond.methodLink own index y ∈ zAll) (hcal : zCalS y bytes maxL ret n) (hrc : rm.cells = mc) (hrs : rm.slots = ms) (hR : rm.frames + 1 ≤ R.frames ∧ 8 + (maxL + 11) + rm.locals ≤ R.locals) (hn : As.length = n) (hst : st = As.reverse ++ rest) (h8 : (rest.map fun v => v.category).sum ≤ 8) (hf : cells + mc ≤ R.cells ∧ slots + ms ≤ R.slots) (hdg : decode cc pc = .ok (.invokestatic index, 3))
    (kk : ∀ (w : va_W), P w → zG p l e R s m args below meth c nL D A (cells + mc) (slots + ms) Q w (pc + 3) L rest) : zG p l e R s m args below meth c nL D A cells slots Q ws pc L st := by
  obtain ⟨hx, hb, hml, hown, hts, hK, hA, hlk⟩ := C
  intro H locs ls hP hD hS hl9
  subst hst
  refine va_callv (va_runS (As := As) (rest := rest) ⟨hx, hb, hml, hown, hts⟩ (hM H.size) (va_cwS n hts (z_goS hlk9 hcal) rfl hrc hrs hcal.2.2.2 hR) ⟨zPt_blind hG D tys ws _ _, fun U hU hW => ⟨rfl, by rw [hU], by rw [hU]; exact hP, va_K.moved hW.alike hK, hD.weaken (fun _ _ _ _ => trivial), hG.at hE hS hU hW (z_free hD hS hA)⟩⟩ rfl hn hl9.1 rfl (lv_room h8) hdg hf) hS (fun q _ hq9 => z_free hD hS hA q hq9) (z_free hD hS hA) (fun u t H1 locs1 ht hvm hw9 hB hz hk1 hS1 => ?_)
  obtain ⟨hP1, hK1, hD1⟩ := hB
  rw [ht] at hP1
  exact kk u hw9 H1 locs1 ls hP1 (hD1.weaken (fun _ q _ hq9 => z_free hD hS hA q.1 hq9)) hS1 hl9
theorem t_Sr {P : Nat → va_W → Prop} (hG : zGE EV) (hE : EV A s s.heap) (C : zC p s m args meth c cc nL own D tys A) (hM : zMt l y bytes maxL ret rm D tys EV ws As mc ms (tR D tys P)) (hlk9 : Cond.methodLink own index y ∈ zAll) (hcal : zCalS y bytes maxL ret n) (hrc : rm.cells = mc) (hrs : rm.slots = ms) (hR : rm.frames + 1 ≤ R.frames ∧ 8 + (maxL + 11) + rm.locals ≤ R.locals) (hn : As.length = n) (hst : st = As.reverse ++ rest) (h8 : (rest.map fun v => v.category).sum ≤ 8) (hf : cells + mc ≤ R.cells ∧ slots + ms ≤ R.slots) (hdg : decode cc pc = .ok (.invokestatic index, 3))
    (kk : ∀ (r : Nat) (w : va_W), P r w → zG p l e R s m args below meth c nL D A (cells + mc) (slots + ms) Q w (pc + 3) L (.ref r :: rest)) : zG p l e R s m args below meth c nL D A cells slots Q ws pc L st := by
  obtain ⟨hx, hb, hml, hown, hts, hK, hA, hlk⟩ := C
  intro H locs ls hP hD hS hl9
  subst hst
  refine va_callr (va_runS (As := As) (rest := rest) ⟨hx, hb, hml, hown, hts⟩ (hM H.size) (va_cwS n hts (z_goS hlk9 hcal) rfl hrc hrs hcal.2.2.2 hR) ⟨zPt_blind hG D tys ws _ _, fun U hU hW => ⟨rfl, by rw [hU], by rw [hU]; exact hP, va_K.moved hW.alike hK, hD.weaken (fun _ _ _ _ => trivial), hG.at hE hS hU hW (z_free hD hS hA)⟩⟩ rfl hn hl9.1 rfl (lv_room h8) hdg hf) hS (fun q _ hq9 => z_free hD hS hA q hq9) (z_free hD hS hA) (fun u r t H1 locs1 ht hvm _ hB hz hk1 hS1 => ?_)
  obtain ⟨hw9, hP1, hK1, hD1⟩ := hB
  rw [ht] at hP1
  exact kk r u hw9 H1 locs1 ls hP1 (hD1.weaken (fun _ q _ hq9 => z_free hD hS hA q.1 hq9)) hS1 hl9
theorem t_Ui {P : Int32 → va_W → Prop} (hG : zGE EV) (hE : EV A s s.heap) (C : zC p s m args meth c cc nL own D tys A) (hM : zMt l y bytes maxL ret rm D tys EV ws (.ref a :: As) mc ms (tI D tys P)) (hcal : zCalU own index y bytes maxL ret n) (hsel : (Cond.selects C0 y y).before args s = true) (hrec : zRec s A D ws a C0) (hrc : rm.cells = mc) (hrs : rm.slots = ms) (hR : rm.frames + 1 ≤ R.frames ∧ 8 + (maxL + 11) + rm.locals ≤ R.locals) (hn : As.length = n) (hst : st = As.reverse ++ .ref a :: rest) (h8 : (rest.map fun v => v.category).sum ≤ 8) (hf : cells + mc ≤ R.cells ∧ slots + ms ≤ R.slots) (hdg : decode cc pc = .ok (.invokevirtual index, 3))
    (kk : ∀ (r : Int32) (w : va_W), P r w → zG p l e R s m args below meth c nL D A (cells + mc) (slots + ms) Q w (pc + 3) L (.int r :: rest)) : zG p l e R s m args below meth c nL D A cells slots Q ws pc L st := by
  obtain ⟨hx, hb, hml, hown, hts, hK, hA, hlk⟩ := C
  intro H locs ls hP hD hS hl9
  subst hst
  refine va_calli (va_runU (As := As) (rest := rest) ⟨hx, hb, hml, hown, hts⟩ (hM H.size) (zCU hts hcal hsel hrc hrs hR) ⟨zPt_blind hG D tys ws _ _, hrec H locs hP hS, fun U hU hW => ⟨rfl, by rw [hU], by rw [hU]; exact hP, va_K.moved hW.alike hK, hD.weaken (fun _ _ _ _ => trivial), hG.at hE hS hU hW (z_free hD hS hA)⟩⟩ rfl hn hl9.1 rfl (lv_room h8) hdg hf) hS (fun q _ hq9 => z_free hD hS hA q hq9) (z_free hD hS hA) (fun r u t H1 locs1 ht hvm hw9 hB hz hk1 hS1 => ?_)
  obtain ⟨hP1, hK1, hD1⟩ := hB
  rw [ht] at hP1
  exact kk r u hw9 H1 locs1 ls hP1 (hD1.weaken (fun _ q _ hq9 => z_free hD hS hA q.1 hq9)) hS1 hl9
theorem t_Uv {P : va_W → Prop} (hG : zGE EV) (hE : EV A s s.heap) (C : zC p s m args meth c cc nL own D tys A) (hM : zMt l y bytes maxL ret rm D tys EV ws (.ref a :: As) mc ms (tV D tys P)) (hcal : zCalU own index y bytes maxL ret n) (hsel : (Cond.selects C0 y y).before args s = true) (hrec : zRec s A D ws a C0) (hrc : rm.cells = mc) (hrs : rm.slots = ms) (hR : rm.frames + 1 ≤ R.frames ∧ 8 + (maxL + 11) + rm.locals ≤ R.locals) (hn : As.length = n) (hst : st = As.reverse ++ .ref a :: rest) (h8 : (rest.map fun v => v.category).sum ≤ 8) (hf : cells + mc ≤ R.cells ∧ slots + ms ≤ R.slots) (hdg : decode cc pc = .ok (.invokevirtual index, 3))
    (kk : ∀ (w : va_W), P w → zG p l e R s m args below meth c nL D A (cells + mc) (slots + ms) Q w (pc + 3) L rest) : zG p l e R s m args below meth c nL D A cells slots Q ws pc L st := by
  obtain ⟨hx, hb, hml, hown, hts, hK, hA, hlk⟩ := C
  intro H locs ls hP hD hS hl9
  subst hst
  refine va_callv (va_runU (As := As) (rest := rest) ⟨hx, hb, hml, hown, hts⟩ (hM H.size) (zCU hts hcal hsel hrc hrs hR) ⟨zPt_blind hG D tys ws _ _, hrec H locs hP hS, fun U hU hW => ⟨rfl, by rw [hU], by rw [hU]; exact hP, va_K.moved hW.alike hK, hD.weaken (fun _ _ _ _ => trivial), hG.at hE hS hU hW (z_free hD hS hA)⟩⟩ rfl hn hl9.1 rfl (lv_room h8) hdg hf) hS (fun q _ hq9 => z_free hD hS hA q hq9) (z_free hD hS hA) (fun u t H1 locs1 ht hvm hw9 hB hz hk1 hS1 => ?_)
  obtain ⟨hP1, hK1, hD1⟩ := hB
  rw [ht] at hP1
  exact kk u hw9 H1 locs1 ls hP1 (hD1.weaken (fun _ q _ hq9 => z_free hD hS hA q.1 hq9)) hS1 hl9
theorem t_Ur {P : Nat → va_W → Prop} (hG : zGE EV) (hE : EV A s s.heap) (C : zC p s m args meth c cc nL own D tys A) (hM : zMt l y bytes maxL ret rm D tys EV ws (.ref a :: As) mc ms (tR D tys P)) (hcal : zCalU own index y bytes maxL ret n) (hsel : (Cond.selects C0 y y).before args s = true) (hrec : zRec s A D ws a C0) (hrc : rm.cells = mc) (hrs : rm.slots = ms) (hR : rm.frames + 1 ≤ R.frames ∧ 8 + (maxL + 11) + rm.locals ≤ R.locals) (hn : As.length = n) (hst : st = As.reverse ++ .ref a :: rest) (h8 : (rest.map fun v => v.category).sum ≤ 8) (hf : cells + mc ≤ R.cells ∧ slots + ms ≤ R.slots) (hdg : decode cc pc = .ok (.invokevirtual index, 3))
    (kk : ∀ (r : Nat) (w : va_W), P r w → zG p l e R s m args below meth c nL D A (cells + mc) (slots + ms) Q w (pc + 3) L (.ref r :: rest)) : zG p l e R s m args below meth c nL D A cells slots Q ws pc L st := by
  obtain ⟨hx, hb, hml, hown, hts, hK, hA, hlk⟩ := C
  intro H locs ls hP hD hS hl9
  subst hst
  refine va_callr (va_runU (As := As) (rest := rest) ⟨hx, hb, hml, hown, hts⟩ (hM H.size) (zCU hts hcal hsel hrc hrs hR) ⟨zPt_blind hG D tys ws _ _, hrec H locs hP hS, fun U hU hW => ⟨rfl, by rw [hU], by rw [hU]; exact hP, va_K.moved hW.alike hK, hD.weaken (fun _ _ _ _ => trivial), hG.at hE hS hU hW (z_free hD hS hA)⟩⟩ rfl hn hl9.1 rfl (lv_room h8) hdg hf) hS (fun q _ hq9 => z_free hD hS hA q hq9) (z_free hD hS hA) (fun u r t H1 locs1 ht hvm _ hB hz hk1 hS1 => ?_)
  obtain ⟨hw9, hP1, hK1, hD1⟩ := hB
  rw [ht] at hP1
  exact kk r u hw9 H1 locs1 ls hP1 (hD1.weaken (fun _ q _ hq9 => z_free hD hS hA q.1 hq9)) hS1 hl9
theorem t_SUi {P : Int32 → va_W → Prop} (hG : zGE EV) (hE : EV A s s.heap) (C : zC p s m args meth c cc nL own D tys A) (hM : zMt l y bytes maxL ret rm D tys EV ws (.ref a :: As) mc ms (tI D tys P)) {cC : ClassId} (hat : ClassAt s C0 cC) (hcal : zCalSU own index y bytes maxL ret n) (hrec : zRec s A D ws a C0) (hrc : rm.cells = mc) (hrs : rm.slots = ms) (hR : rm.frames + 1 ≤ R.frames ∧ 8 + (maxL + 11) + rm.locals ≤ R.locals) (hn : As.length = n) (hst : st = As.reverse ++ .ref a :: rest) (h8 : (rest.map fun v => v.category).sum ≤ 8) (hf : cells + mc ≤ R.cells ∧ slots + ms ≤ R.slots) (hdg : decode cc pc = .ok (.invokespecial index, 3))
    (kk : ∀ (r : Int32) (w : va_W), P r w → zG p l e R s m args below meth c nL D A (cells + mc) (slots + ms) Q w (pc + 3) L (.int r :: rest)) : zG p l e R s m args below meth c nL D A cells slots Q ws pc L st := by
  obtain ⟨hx, hb, hml, hown, hts, hK, hA, hlk⟩ := C
  intro H locs ls hP hD hS hl9
  subst hst
  refine va_calli (va_runSU (As := As) (rest := rest) hat ⟨hx, hb, hml, hown, hts⟩ (hM H.size) (va_cwSU n hts (z_go (y := y) (cc := bytes) (n := maxL) (r := ret) hcal.1 hcal.2.1) rfl hrc hrs hcal.2.2 hR) ⟨zPt_blind hG D tys ws _ _, hrec H locs hP hS, fun U hU hW => ⟨rfl, by rw [hU], by rw [hU]; exact hP, va_K.moved hW.alike hK, hD.weaken (fun _ _ _ _ => trivial), hG.at hE hS hU hW (z_free hD hS hA)⟩⟩ rfl hn hl9.1 rfl (lv_room h8) hdg hf) hS (fun q _ hq9 => z_free hD hS hA q hq9) (z_free hD hS hA) (fun r u t H1 locs1 ht hvm hw9 hB hz hk1 hS1 => ?_)
  obtain ⟨hP1, hK1, hD1⟩ := hB
  rw [ht] at hP1
  exact kk r u hw9 H1 locs1 ls hP1 (hD1.weaken (fun _ q _ hq9 => z_free hD hS hA q.1 hq9)) hS1 hl9
theorem t_SUv {P : va_W → Prop} (hG : zGE EV) (hE : EV A s s.heap) (C : zC p s m args meth c cc nL own D tys A) (hM : zMt l y bytes maxL ret rm D tys EV ws (.ref a :: As) mc ms (tV D tys P)) {cC : ClassId} (hat : ClassAt s C0 cC) (hcal : zCalSU own index y bytes maxL ret n) (hrec : zRec s A D ws a C0) (hrc : rm.cells = mc) (hrs : rm.slots = ms) (hR : rm.frames + 1 ≤ R.frames ∧ 8 + (maxL + 11) + rm.locals ≤ R.locals) (hn : As.length = n) (hst : st = As.reverse ++ .ref a :: rest) (h8 : (rest.map fun v => v.category).sum ≤ 8) (hf : cells + mc ≤ R.cells ∧ slots + ms ≤ R.slots) (hdg : decode cc pc = .ok (.invokespecial index, 3))
    (kk : ∀ (w : va_W), P w → zG p l e R s m args below meth c nL D A (cells + mc) (slots + ms) Q w (pc + 3) L rest) : zG p l e R s m args below meth c nL D A cells slots Q ws pc L st := by
  obtain ⟨hx, hb, hml, hown, hts, hK, hA, hlk⟩ := C
  intro H locs ls hP hD hS hl9
  subst hst
  refine va_callv (va_runSU (As := As) (rest := rest) hat ⟨hx, hb, hml, hown, hts⟩ (hM H.size) (va_cwSU n hts (z_go (y := y) (cc := bytes) (n := maxL) (r := ret) hcal.1 hcal.2.1) rfl hrc hrs hcal.2.2 hR) ⟨zPt_blind hG D tys ws _ _, hrec H locs hP hS, fun U hU hW => ⟨rfl, by rw [hU], by rw [hU]; exact hP, va_K.moved hW.alike hK, hD.weaken (fun _ _ _ _ => trivial), hG.at hE hS hU hW (z_free hD hS hA)⟩⟩ rfl hn hl9.1 rfl (lv_room h8) hdg hf) hS (fun q _ hq9 => z_free hD hS hA q hq9) (z_free hD hS hA) (fun u t H1 locs1 ht hvm hw9 hB hz hk1 hS1 => ?_)
  obtain ⟨hP1, hK1, hD1⟩ := hB
  rw [ht] at hP1
  exact kk u hw9 H1 locs1 ls hP1 (hD1.weaken (fun _ q _ hq9 => z_free hD hS hA q.1 hq9)) hS1 hl9
theorem t_SUr {P : Nat → va_W → Prop} (hG : zGE EV) (hE : EV A s s.heap) (C : zC p s m args meth c cc nL own D tys A) (hM : zMt l y bytes maxL ret rm D tys EV ws (.ref a :: As) mc ms (tR D tys P)) {cC : ClassId} (hat : ClassAt s C0 cC) (hcal : zCalSU own index y bytes maxL ret n) (hrec : zRec s A D ws a C0) (hrc : rm.cells = mc) (hrs : rm.slots = ms) (hR : rm.frames + 1 ≤ R.frames ∧ 8 + (maxL + 11) + rm.locals ≤ R.locals) (hn : As.length = n) (hst : st = As.reverse ++ .ref a :: rest) (h8 : (rest.map fun v => v.category).sum ≤ 8) (hf : cells + mc ≤ R.cells ∧ slots + ms ≤ R.slots) (hdg : decode cc pc = .ok (.invokespecial index, 3))
    (kk : ∀ (r : Nat) (w : va_W), P r w → zG p l e R s m args below meth c nL D A (cells + mc) (slots + ms) Q w (pc + 3) L (.ref r :: rest)) : zG p l e R s m args below meth c nL D A cells slots Q ws pc L st := by
  obtain ⟨hx, hb, hml, hown, hts, hK, hA, hlk⟩ := C
  intro H locs ls hP hD hS hl9
  subst hst
  refine va_callr (va_runSU (As := As) (rest := rest) hat ⟨hx, hb, hml, hown, hts⟩ (hM H.size) (va_cwSU n hts (z_go (y := y) (cc := bytes) (n := maxL) (r := ret) hcal.1 hcal.2.1) rfl hrc hrs hcal.2.2 hR) ⟨zPt_blind hG D tys ws _ _, hrec H locs hP hS, fun U hU hW => ⟨rfl, by rw [hU], by rw [hU]; exact hP, va_K.moved hW.alike hK, hD.weaken (fun _ _ _ _ => trivial), hG.at hE hS hU hW (z_free hD hS hA)⟩⟩ rfl hn hl9.1 rfl (lv_room h8) hdg hf) hS (fun q _ hq9 => z_free hD hS hA q hq9) (z_free hD hS hA) (fun u r t H1 locs1 ht hvm _ hB hz hk1 hS1 => ?_)
  obtain ⟨hw9, hP1, hK1, hD1⟩ := hB
  rw [ht] at hP1
  exact kk r u hw9 H1 locs1 ls hP1 (hD1.weaken (fun _ q _ hq9 => z_free hD hS hA q.1 hq9)) hS1 hl9
theorem zAt (C : zC p s m args meth c cc nL own D tys A) {ci N : Nat} {T : u_T} (hc : vwCl[ci]? = some (C0, T, N)) : ClassAt s C0 (D.1 ci) := by
  obtain ⟨hx, hb, hml, hown, hts, hK, hA, hlk⟩ := C
  exact (hK.1 ci _ hc).2
end TROWS
