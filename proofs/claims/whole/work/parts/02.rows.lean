/-! OWN ROWS (laid by wip/whole/mkrows.py): the memory of a system as numbers by role and place; one judgement zG over it; a row an instruction. -/
/-- the shape of a cell: an array of numbers (type, length); an array of references; an object (class, its fields: none is a number, some r the role that it refers to) -/
abbrev zSh : Type := (Nat × Nat) ⊕ ((Nat × List Nat) ⊕ (Nat × List (Option Nat)))
def z_val (ad : Nat → Nat) (f : Nat → Int32) (k : Nat) (o : Option Nat) : Value := match o with
  | none => .int (f k)
  | some r => .ref (ad r)
def z_fs (ad : Nat → Nat) (f : Nat → Int32) : Nat → List (Option Nat) → List Value
  | _, [] => []
  | k, o :: t => z_val ad f k o :: z_fs ad f (k + 1) t
def z_cell (cy : Nat → ClassId) (ad : Nat → Nat) (f : Nat → Int32) (s : zSh) : va_E := match s with
  | .inl (t, n) => .inl (cy t, n, .inl f)
  | .inr (.inl (t, l)) => .inl (cy t, l.length, .inr (.inr (.inr (.inr (fun k => l[k]?.map ad)))))
  | .inr (.inr (ci, fl)) => .inr (ci, z_fs ad f 0 fl)
def z_rend (cy : Nat → ClassId) (ad : Nat → Nat) (X : Nat → Nat → Int32) : Nat → List zSh → va_W
  | _, [] => []
  | r, s :: t => (ad r, z_cell cy ad (X r) s) :: z_rend cy ad X (r + 1) t
/-- a world: the cells of the shapes sh, at the addresses ad, with the numbers X; and others E -/
def zW (cy : Nat → ClassId) (ad : Nat → Nat) (sh : List zSh) (E : va_W) (X : Nat → Nat → Int32) : va_W := z_rend cy ad X 0 sh ++ E
def zR (X : Nat → Nat → Int32) (r : Nat) (f : Nat → Int32) : Nat → Nat → Int32 := fun q => if q = r then f else X q
def zU (X : Nat → Nat → Int32) (r k : Nat) (v : Int32) : Nat → Nat → Int32 := zR X r (upd (X r) k v)
theorem zR_s (X : Nat → Nat → Int32) (r : Nat) (f : Nat → Int32) : zR X r f r = f := if_pos rfl
theorem zR_n (X : Nat → Nat → Int32) {r q : Nat} (f : Nat → Int32) (h : q ≠ r) : zR X r f q = X q := if_neg h
/-- the array classes by their types -/
abbrev zTy (cy : Nat → ClassId) : List (ClassId × FieldType) := [(cy 0, .int), (cy 1, .char), (cy 2, .byte), (cy 3, .object RX3), (cy 4, .long), (cy 5, .double)]
theorem z_fs_get (ad : Nat → Nat) (f : Nat → Int32) : ∀ (fl : List (Option Nat)) (b k : Nat), (z_fs ad f b fl)[k]? = fl[k]?.map (z_val ad f (b + k))
  | [], b, k => by simp [z_fs]
  | o :: t, b, 0 => by simp [z_fs]
  | o :: t, b, k + 1 => by
    rw [z_fs, List.getElem?_cons_succ, List.getElem?_cons_succ, z_fs_get ad f t (b + 1) k, Nat.add_assoc b 1 k, Nat.add_comm 1 k]
theorem z_fs_len (ad : Nat → Nat) (f : Nat → Int32) : ∀ (fl : List (Option Nat)) (b : Nat), (z_fs ad f b fl).length = fl.length
  | [], b => rfl
  | o :: t, b => by rw [z_fs, List.length_cons, List.length_cons, z_fs_len ad f t (b + 1)]
theorem z_fs_ext (ad : Nat → Nat) (f g : Nat → Int32) : ∀ (fl : List (Option Nat)) (b : Nat), (∀ q, b ≤ q → f q = g q) → z_fs ad f b fl = z_fs ad g b fl
  | [], b, _ => rfl
  | o :: t, b, h => by
    rw [z_fs, z_fs, z_fs_ext ad f g t (b + 1) (fun q hq => h q (Nat.le_of_succ_le hq))]
    cases o with
    | none => simp only [z_val]; rw [h b (Nat.le_refl b)]
    | some r => rfl
theorem z_fs_set (ad : Nat → Nat) (v : Int32) : ∀ (fl : List (Option Nat)) (f : Nat → Int32) (b k : Nat), fl[k]? = some none → (z_fs ad f b fl).set k (.int v) = z_fs ad (upd f (b + k) v) b fl
  | [], f, b, k, h => by simp at h
  | o :: t, f, b, 0, h => by
    rw [List.getElem?_cons_zero] at h
    cases h
    rw [z_fs, z_fs, List.set_cons_zero]
    congr 1
    · simp [z_val, upd]
    · exact z_fs_ext ad _ _ t (b + 1) (fun q hq => by simp [upd]; omega)
  | o :: t, f, b, k + 1, h => by
    rw [List.getElem?_cons_succ] at h
    rw [z_fs, z_fs, List.set_cons_succ, z_fs_set ad v t f (b + 1) k h]
    have e : b + 1 + k = b + (k + 1) := by omega
    rw [e]
    congr 1
    cases o with
    | none =>
      have e2 : b ≠ b + (k + 1) := by omega
      simp [z_val, upd, e2]
    | some r => rfl
theorem z_rend_len (cy : Nat → ClassId) (ad : Nat → Nat) (X : Nat → Nat → Int32) : ∀ (sh : List zSh) (b : Nat), (z_rend cy ad X b sh).length = sh.length
  | [], b => rfl
  | s :: t, b => by rw [z_rend, List.length_cons, List.length_cons, z_rend_len cy ad X t (b + 1)]
theorem z_rend_get (cy : Nat → ClassId) (ad : Nat → Nat) (X : Nat → Nat → Int32) : ∀ (sh : List zSh) (b r : Nat), (z_rend cy ad X b sh)[r]? = sh[r]?.map (fun s => (ad (b + r), z_cell cy ad (X (b + r)) s))
  | [], b, r => by simp [z_rend]
  | s :: t, b, 0 => by simp [z_rend]
  | s :: t, b, r + 1 => by
    rw [z_rend, List.getElem?_cons_succ, List.getElem?_cons_succ, z_rend_get cy ad X t (b + 1) r, Nat.add_assoc b 1 r, Nat.add_comm 1 r]
theorem z_rend_ext (cy : Nat → ClassId) (ad : Nat → Nat) (X Y : Nat → Nat → Int32) : ∀ (sh : List zSh) (b : Nat), (∀ q, b ≤ q → X q = Y q) → z_rend cy ad X b sh = z_rend cy ad Y b sh
  | [], b, _ => rfl
  | s :: t, b, h => by rw [z_rend, z_rend, h b (Nat.le_refl b), z_rend_ext cy ad X Y t (b + 1) (fun q hq => h q (Nat.le_of_succ_le hq))]
theorem z_rend_set (cy : Nat → ClassId) (ad : Nat → Nat) (f : Nat → Int32) (s : zSh) : ∀ (sh : List zSh) (X : Nat → Nat → Int32) (b r : Nat), sh[r]? = some s → (z_rend cy ad X b sh).set r (ad (b + r), z_cell cy ad f s) = z_rend cy ad (zR X (b + r) f) b sh
  | [], X, b, r, h => by simp at h
  | s0 :: t, X, b, 0, h => by
    rw [List.getElem?_cons_zero] at h
    cases h
    rw [z_rend, z_rend, List.set_cons_zero, Nat.add_zero, zR_s]
    congr 1
    exact z_rend_ext cy ad _ _ t (b + 1) (fun q hq => (zR_n X f (by omega)).symm)
  | s0 :: t, X, b, r + 1, h => by
    rw [List.getElem?_cons_succ] at h
    have e : b + (r + 1) = b + 1 + r := by omega
    rw [z_rend, z_rend, List.set_cons_succ, e, z_rend_set cy ad f s t X (b + 1) r h, zR_n X f (show b ≠ b + 1 + r by omega)]
theorem zW_get {cy : Nat → ClassId} {ad : Nat → Nat} {sh : List zSh} {E : va_W} (X : Nat → Nat → Int32) {r : Nat} {s : zSh} (h : sh[r]? = some s) : (zW cy ad sh E X)[r]? = some (ad r, z_cell cy ad (X r) s) := by
  have hl : r < sh.length := (List.getElem?_eq_some_iff.mp h).1
  rw [zW, List.getElem?_append_left (by rw [z_rend_len]; exact hl), z_rend_get, h, Nat.zero_add]
  rfl
theorem zW_set {cy : Nat → ClassId} {ad : Nat → Nat} {sh : List zSh} {E : va_W} (X : Nat → Nat → Int32) {r : Nat} {s : zSh} (f : Nat → Int32) (h : sh[r]? = some s) : (zW cy ad sh E X).set r (ad r, z_cell cy ad f s) = zW cy ad sh E (zR X r f) := by
  have hl : r < sh.length := (List.getElem?_eq_some_iff.mp h).1
  have e := z_rend_set cy ad f s sh X 0 r h
  rw [Nat.zero_add] at e
  rw [zW, List.set_append_left _ _ (by rw [z_rend_len]; exact hl), e, zW]
theorem ite_inone {α : Type} {c : Prop} [Decidable c] {x : Option α} {r : α} (h : (if c then none else x) = some r) : ¬ c ∧ x = some r := by
  by_cases hc : c
  · rw [if_pos hc] at h; cases h
  · rw [if_neg hc] at h; exact ⟨hc, h⟩
theorem bind_isome {α β : Type} {x : Option α} {f : α → Option β} {r : β} (h : x.bind f = some r) : ∃ a, x = some a ∧ f a = some r := Option.bind_eq_some_iff.mp h
theorem z_goV {own C0 : String} {index : Nat} {y : MethodName} {cc : ByteArray} {maxL n : Nat} {ret : Option FieldType} (hl : Cond.methodLink own index y ∈ zAll) (h : zCalV C0 y cc maxL ret n) : GoodIn zAll (wsV own index C0 y (zTs y cc maxL ret)) :=
  z_go (y := y) (cc := cc) (n := maxL) (r := ret) (pre := [.methodLink own index y, .instanceMethod y, .selects C0 y y, .initialized C0]) (by
    intro w hw
    simp only [List.mem_cons, List.not_mem_nil, or_false] at hw
    rcases hw with rfl | rfl | rfl | rfl
    · exact hl
    · exact h.1
    · exact h.2.1
    · exact h.2.2.1) h.2.2.2.1
theorem z_goS {own : String} {index : Nat} {y : MethodName} {cc : ByteArray} {maxL n : Nat} {ret : Option FieldType} (hl : Cond.methodLink own index y ∈ zAll) (h : zCalS y cc maxL ret n) : GoodIn zAll (va_wsS own index y (zTs y cc maxL ret)) :=
  z_go (y := y) (cc := cc) (n := maxL) (r := ret) (pre := [.methodLink own index y, .static y, .initialized y.cls]) (by
    intro w hw
    simp only [List.mem_cons, List.not_mem_nil, or_false] at hw
    rcases hw with rfl | rfl | rfl
    · exact hl
    · exact h.1
    · exact h.2.1) h.2.2.1
/-- the judgement: from the frame at pc, over the world ws, the machine comes to Q -/
def zG (p : Program) (l : Launch) (e : Env) (R : Room) (s : State) (m : MethodId) (args : Array Value) (below : List Frame) (meth : Method) (c : Code) (nL : Nat) (D : va_G) (A : Nat → Prop) (cells slots : Nat) (Q : State → Prop) (ws : va_W) (pc : Nat) (L : List (Nat × Value)) (st : List Value) : Prop :=
  ∀ (H : Heap) (locs : List Loc) (ls : Array Slot), va_P D vwCl ws H → va_D A ws → va_S A s.heap H locs → lv_has ls nL L → W p l e R s m args below meth c H locs cells slots Q (F0 m pc ls st)
/-- what stays through a method -/
def zC (p : Program) (s : State) (m : MethodId) (args : Array Value) (meth : Method) (c : Code) (cc : ByteArray) (nL : Nat) (own : String) (D : va_G) (tys : List (ClassId × FieldType)) (A : Nat → Prop) : Prop :=
  p.tables.exec = Jvm.exec ∧ c.code = cc ∧ c.maxLocals = nL ∧ s.vm.findClass own = some m.cls ∧ (∀ w ∈ zAll, w.before args s = true) ∧ va_K D vwCl tys s ∧ (∀ q : Nat, s.heap.size ≤ q → A q) ∧ meth.locks = false

section ZROWS
variable {p : Program} {l : Launch} {e : Env} {R : Room} {s : State} {m : MethodId} {args : Array Value} {below : List Frame} {meth : Method} {c : Code} {cc : ByteArray} {nL : Nat} {own : String} {D : va_G} {tys : List (ClassId × FieldType)} {A : Nat → Prop} {cells slots : Nat} {Q : State → Prop} {ws : va_W} {pc : Nat} {L : List (Nat × Value)} {st : List Value}
theorem g_iconst (C : zC p s m args meth c cc nL own D tys A) {n : Int} {v : Int32} (hdg : decode cc pc = .ok (.iconst n, 1)) (hv : Int32.ofInt n = v)
    (kk : zG p l e R s m args below meth c nL D A cells slots Q ws (pc + 1) L (.int v :: st)) : zG p l e R s m args below meth c nL D A cells slots Q ws pc L st := by
  obtain ⟨hx, hb, hml, hown, hts, hK, hA, hlk⟩ := C
  intro H locs ls hP hD hS hl9
  exact lv_iconst hx hb hdg hv (kk H locs ls hP hD hS hl9)
theorem g_bipush (C : zC p s m args meth c cc nL own D tys A) {n : Int} {v : Int32} (hdg : decode cc pc = .ok (.bipush n, 2)) (hv : (Int8.ofInt n).toInt32 = v)
    (kk : zG p l e R s m args below meth c nL D A cells slots Q ws (pc + 2) L (.int v :: st)) : zG p l e R s m args below meth c nL D A cells slots Q ws pc L st := by
  obtain ⟨hx, hb, hml, hown, hts, hK, hA, hlk⟩ := C
  intro H locs ls hP hD hS hl9
  exact lv_bipush hx hb hdg hv (kk H locs ls hP hD hS hl9)
theorem g_sipush (C : zC p s m args meth c cc nL own D tys A) {n : Int} {v : Int32} (hdg : decode cc pc = .ok (.sipush n, 3)) (hv : (Int16.ofInt n).toInt32 = v)
    (kk : zG p l e R s m args below meth c nL D A cells slots Q ws (pc + 3) L (.int v :: st)) : zG p l e R s m args below meth c nL D A cells slots Q ws pc L st := by
  obtain ⟨hx, hb, hml, hown, hts, hK, hA, hlk⟩ := C
  intro H locs ls hP hD hS hl9
  exact lv_sipush hx hb hdg hv (kk H locs ls hP hD hS hl9)
theorem g_ldci (C : zC p s m args meth c cc nL own D tys A) {index : Nat} {v : Int32} (hdg : decode cc pc = .ok (.ldc index, 2)) (hv : (Jvm.Cond.constant own index v) ∈ zAll)
    (kk : zG p l e R s m args below meth c nL D A cells slots Q ws (pc + 2) L (.int v :: st)) : zG p l e R s m args below meth c nL D A cells slots Q ws pc L st := by
  obtain ⟨hx, hb, hml, hown, hts, hK, hA, hlk⟩ := C
  intro H locs ls hP hD hS hl9
  exact lv_ldc hx hb hown (hts _ hv) hdg (kk H locs ls hP hD hS hl9)
theorem g_iload_n (C : zC p s m args meth c cc nL own D tys A) {k : Fin 4} {i j : Nat} {x : Int32} (hdg : decode cc pc = .ok (.iload_n k, 1)) (hi : (k : Nat) = i) (hl : L[j]? = some (i, .int x))
    (kk : zG p l e R s m args below meth c nL D A cells slots Q ws (pc + 1) L (.int x :: st)) : zG p l e R s m args below meth c nL D A cells slots Q ws pc L st := by
  obtain ⟨hx, hb, hml, hown, hts, hK, hA, hlk⟩ := C
  intro H locs ls hP hD hS hl9
  exact lv_iload_n hx hb hdg hi (lv_at hl9 j hl) (kk H locs ls hP hD hS hl9)
theorem g_iload (C : zC p s m args meth c cc nL own D tys A) {i j : Nat} {x : Int32} (hdg : decode cc pc = .ok (.iload i, 2)) (hl : L[j]? = some (i, .int x))
    (kk : zG p l e R s m args below meth c nL D A cells slots Q ws (pc + 2) L (.int x :: st)) : zG p l e R s m args below meth c nL D A cells slots Q ws pc L st := by
  obtain ⟨hx, hb, hml, hown, hts, hK, hA, hlk⟩ := C
  intro H locs ls hP hD hS hl9
  exact lv_iload hx hb hdg (lv_at hl9 j hl) (kk H locs ls hP hD hS hl9)
theorem g_aload_n (C : zC p s m args meth c cc nL own D tys A) {k : Fin 4} {i j : Nat} {x : Nat} (hdg : decode cc pc = .ok (.aload_n k, 1)) (hi : (k : Nat) = i) (hl : L[j]? = some (i, .ref x))
    (kk : zG p l e R s m args below meth c nL D A cells slots Q ws (pc + 1) L (.ref x :: st)) : zG p l e R s m args below meth c nL D A cells slots Q ws pc L st := by
  obtain ⟨hx, hb, hml, hown, hts, hK, hA, hlk⟩ := C
  intro H locs ls hP hD hS hl9
  exact lv_aload_n hx hb hdg hi (lv_at hl9 j hl) (kk H locs ls hP hD hS hl9)
theorem g_aload (C : zC p s m args meth c cc nL own D tys A) {i j : Nat} {x : Nat} (hdg : decode cc pc = .ok (.aload i, 2)) (hl : L[j]? = some (i, .ref x))
    (kk : zG p l e R s m args below meth c nL D A cells slots Q ws (pc + 2) L (.ref x :: st)) : zG p l e R s m args below meth c nL D A cells slots Q ws pc L st := by
  obtain ⟨hx, hb, hml, hown, hts, hK, hA, hlk⟩ := C
  intro H locs ls hP hD hS hl9
  exact lv_aload hx hb hdg (lv_at hl9 j hl) (kk H locs ls hP hD hS hl9)
theorem g_istore_n (C : zC p s m args meth c cc nL own D tys A) {k : Fin 4} {i : Nat} {x : Int32} {L' : List (Nat × Value)} (hdg : decode cc pc = .ok (.istore_n k, 1)) (hi : (k : Nat) = i) (hn : i < nL) (hl : (i, Value.int x) :: L.filter (fun q => !(q.1 == i) && !(q.1 + 1 == i && q.2.category == 2)) = L')
    (kk : zG p l e R s m args below meth c nL D A cells slots Q ws (pc + 1) L' st) : zG p l e R s m args below meth c nL D A cells slots Q ws pc L (Value.int x :: st) := by
  obtain ⟨hx, hb, hml, hown, hts, hK, hA, hlk⟩ := C
  intro H locs ls hP hD hS hl9
  exact lv_istore_n hx hb hdg hi hl9 hn hl (fun ls' hl8 => kk H locs ls' hP hD hS hl8)
theorem g_istore (C : zC p s m args meth c cc nL own D tys A) {i : Nat} {x : Int32} {L' : List (Nat × Value)} (hdg : decode cc pc = .ok (.istore i, 2)) (hn : i < nL) (hl : (i, Value.int x) :: L.filter (fun q => !(q.1 == i) && !(q.1 + 1 == i && q.2.category == 2)) = L')
    (kk : zG p l e R s m args below meth c nL D A cells slots Q ws (pc + 2) L' st) : zG p l e R s m args below meth c nL D A cells slots Q ws pc L (Value.int x :: st) := by
  obtain ⟨hx, hb, hml, hown, hts, hK, hA, hlk⟩ := C
  intro H locs ls hP hD hS hl9
  exact lv_istore hx hb hdg hl9 hn hl (fun ls' hl8 => kk H locs ls' hP hD hS hl8)
theorem g_astore_n (C : zC p s m args meth c cc nL own D tys A) {k : Fin 4} {i : Nat} {x : Nat} {L' : List (Nat × Value)} (hdg : decode cc pc = .ok (.astore_n k, 1)) (hi : (k : Nat) = i) (hn : i < nL) (hl : (i, Value.ref x) :: L.filter (fun q => !(q.1 == i) && !(q.1 + 1 == i && q.2.category == 2)) = L')
    (kk : zG p l e R s m args below meth c nL D A cells slots Q ws (pc + 1) L' st) : zG p l e R s m args below meth c nL D A cells slots Q ws pc L (Value.ref x :: st) := by
  obtain ⟨hx, hb, hml, hown, hts, hK, hA, hlk⟩ := C
  intro H locs ls hP hD hS hl9
  exact lv_astore_n hx hb hdg hi hl9 hn hl (fun ls' hl8 => kk H locs ls' hP hD hS hl8)
theorem g_astore (C : zC p s m args meth c cc nL own D tys A) {i : Nat} {x : Nat} {L' : List (Nat × Value)} (hdg : decode cc pc = .ok (.astore i, 2)) (hn : i < nL) (hl : (i, Value.ref x) :: L.filter (fun q => !(q.1 == i) && !(q.1 + 1 == i && q.2.category == 2)) = L')
    (kk : zG p l e R s m args below meth c nL D A cells slots Q ws (pc + 2) L' st) : zG p l e R s m args below meth c nL D A cells slots Q ws pc L (Value.ref x :: st) := by
  obtain ⟨hx, hb, hml, hown, hts, hK, hA, hlk⟩ := C
  intro H locs ls hP hD hS hl9
  exact lv_astore hx hb hdg hl9 hn hl (fun ls' hl8 => kk H locs ls' hP hD hS hl8)
theorem g_astore_nN (C : zC p s m args meth c cc nL own D tys A) {k : Fin 4} {i : Nat} {L' : List (Nat × Value)} (hdg : decode cc pc = .ok (.astore_n k, 1)) (hi : (k : Nat) = i) (hn : i < nL) (hl : (i, Value.null) :: L.filter (fun q => !(q.1 == i) && !(q.1 + 1 == i && q.2.category == 2)) = L')
    (kk : zG p l e R s m args below meth c nL D A cells slots Q ws (pc + 1) L' st) : zG p l e R s m args below meth c nL D A cells slots Q ws pc L (Value.null :: st) := by
  obtain ⟨hx, hb, hml, hown, hts, hK, hA, hlk⟩ := C
  intro H locs ls hP hD hS hl9
  exact lv_astore_nN hx hb hdg hi hl9 hn hl (fun ls' hl8 => kk H locs ls' hP hD hS hl8)
theorem g_aload_nN (C : zC p s m args meth c cc nL own D tys A) {k : Fin 4} {i j : Nat} (hdg : decode cc pc = .ok (.aload_n k, 1)) (hi : (k : Nat) = i) (hl : L[j]? = some (i, .null))
    (kk : zG p l e R s m args below meth c nL D A cells slots Q ws (pc + 1) L (.null :: st)) : zG p l e R s m args below meth c nL D A cells slots Q ws pc L st := by
  obtain ⟨hx, hb, hml, hown, hts, hK, hA, hlk⟩ := C
  intro H locs ls hP hD hS hl9
  exact lv_aload_nN hx hb hdg hi (lv_at hl9 j hl) (kk H locs ls hP hD hS hl9)
theorem g_iinc (C : zC p s m args meth c cc nL own D tys A) {i k : Nat} {n : Int} {x v : Int32} {L' : List (Nat × Value)} (hdg : decode cc pc = .ok (.iinc i n, 3)) (hk : L[k]? = some (i, .int x)) (hv : x + Int32.ofInt n = v) (hn : i < nL) (hl : (i, Value.int v) :: L.filter (fun q => !(q.1 == i) && !(q.1 + 1 == i && q.2.category == 2)) = L')
    (kk : zG p l e R s m args below meth c nL D A cells slots Q ws (pc + 3) L' st) : zG p l e R s m args below meth c nL D A cells slots Q ws pc L st := by
  obtain ⟨hx, hb, hml, hown, hts, hK, hA, hlk⟩ := C
  intro H locs ls hP hD hS hl9
  exact lv_iinc hx hb hdg hl9 hk hv hn hl (fun ls' hl8 => kk H locs ls' hP hD hS hl8)
theorem g_iadd (C : zC p s m args meth c cc nL own D tys A) {x y : Int32} (hdg : decode cc pc = .ok (.iadd, 1))
    (kk : zG p l e R s m args below meth c nL D A cells slots Q ws (pc + 1) L (.int (x + y) :: st)) : zG p l e R s m args below meth c nL D A cells slots Q ws pc L (.int y :: .int x :: st) := by
  obtain ⟨hx, hb, hml, hown, hts, hK, hA, hlk⟩ := C
  intro H locs ls hP hD hS hl9
  exact lv_iadd hx hb hdg (kk H locs ls hP hD hS hl9)
theorem g_isub (C : zC p s m args meth c cc nL own D tys A) {x y : Int32} (hdg : decode cc pc = .ok (.isub, 1))
    (kk : zG p l e R s m args below meth c nL D A cells slots Q ws (pc + 1) L (.int (x - y) :: st)) : zG p l e R s m args below meth c nL D A cells slots Q ws pc L (.int y :: .int x :: st) := by
  obtain ⟨hx, hb, hml, hown, hts, hK, hA, hlk⟩ := C
  intro H locs ls hP hD hS hl9
  exact lv_isub hx hb hdg (kk H locs ls hP hD hS hl9)
theorem g_imul (C : zC p s m args meth c cc nL own D tys A) {x y : Int32} (hdg : decode cc pc = .ok (.imul, 1))
    (kk : zG p l e R s m args below meth c nL D A cells slots Q ws (pc + 1) L (.int (x * y) :: st)) : zG p l e R s m args below meth c nL D A cells slots Q ws pc L (.int y :: .int x :: st) := by
  obtain ⟨hx, hb, hml, hown, hts, hK, hA, hlk⟩ := C
  intro H locs ls hP hD hS hl9
  exact lv_imul hx hb hdg (kk H locs ls hP hD hS hl9)
theorem g_iand (C : zC p s m args meth c cc nL own D tys A) {x y : Int32} (hdg : decode cc pc = .ok (.iand, 1))
    (kk : zG p l e R s m args below meth c nL D A cells slots Q ws (pc + 1) L (.int (x &&& y) :: st)) : zG p l e R s m args below meth c nL D A cells slots Q ws pc L (.int y :: .int x :: st) := by
  obtain ⟨hx, hb, hml, hown, hts, hK, hA, hlk⟩ := C
  intro H locs ls hP hD hS hl9
  exact lv_iand hx hb hdg (kk H locs ls hP hD hS hl9)
theorem g_ior (C : zC p s m args meth c cc nL own D tys A) {x y : Int32} (hdg : decode cc pc = .ok (.ior, 1))
    (kk : zG p l e R s m args below meth c nL D A cells slots Q ws (pc + 1) L (.int (x ||| y) :: st)) : zG p l e R s m args below meth c nL D A cells slots Q ws pc L (.int y :: .int x :: st) := by
  obtain ⟨hx, hb, hml, hown, hts, hK, hA, hlk⟩ := C
  intro H locs ls hP hD hS hl9
  exact lv_ior hx hb hdg (kk H locs ls hP hD hS hl9)
theorem g_ixor (C : zC p s m args meth c cc nL own D tys A) {x y : Int32} (hdg : decode cc pc = .ok (.ixor, 1))
    (kk : zG p l e R s m args below meth c nL D A cells slots Q ws (pc + 1) L (.int (x ^^^ y) :: st)) : zG p l e R s m args below meth c nL D A cells slots Q ws pc L (.int y :: .int x :: st) := by
  obtain ⟨hx, hb, hml, hown, hts, hK, hA, hlk⟩ := C
  intro H locs ls hP hD hS hl9
  exact lv_ixor hx hb hdg (kk H locs ls hP hD hS hl9)
theorem g_ishl (C : zC p s m args meth c cc nL own D tys A) {x y : Int32} (hdg : decode cc pc = .ok (.ishl, 1))
    (kk : zG p l e R s m args below meth c nL D A cells slots Q ws (pc + 1) L (.int (x <<< (y &&& 31)) :: st)) : zG p l e R s m args below meth c nL D A cells slots Q ws pc L (.int y :: .int x :: st) := by
  obtain ⟨hx, hb, hml, hown, hts, hK, hA, hlk⟩ := C
  intro H locs ls hP hD hS hl9
  exact lv_ishl hx hb hdg (kk H locs ls hP hD hS hl9)
theorem g_ishr (C : zC p s m args meth c cc nL own D tys A) {x y : Int32} (hdg : decode cc pc = .ok (.ishr, 1))
    (kk : zG p l e R s m args below meth c nL D A cells slots Q ws (pc + 1) L (.int (x >>> (y &&& 31)) :: st)) : zG p l e R s m args below meth c nL D A cells slots Q ws pc L (.int y :: .int x :: st) := by
  obtain ⟨hx, hb, hml, hown, hts, hK, hA, hlk⟩ := C
  intro H locs ls hP hD hS hl9
  exact lv_ishr hx hb hdg (kk H locs ls hP hD hS hl9)
theorem g_idiv (C : zC p s m args meth c cc nL own D tys A) {x y : Int32} (hdg : decode cc pc = .ok (.idiv, 1)) (hne : ¬ y = 0)
    (kk : zG p l e R s m args below meth c nL D A cells slots Q ws (pc + 1) L (.int (x / y) :: st)) : zG p l e R s m args below meth c nL D A cells slots Q ws pc L (.int y :: .int x :: st) := by
  obtain ⟨hx, hb, hml, hown, hts, hK, hA, hlk⟩ := C
  intro H locs ls hP hD hS hl9
  exact lv_idiv hx hb hdg hne (kk H locs ls hP hD hS hl9)
theorem g_irem (C : zC p s m args meth c cc nL own D tys A) {x y : Int32} (hdg : decode cc pc = .ok (.irem, 1)) (hne : ¬ y = 0)
    (kk : zG p l e R s m args below meth c nL D A cells slots Q ws (pc + 1) L (.int (x - x / y * y) :: st)) : zG p l e R s m args below meth c nL D A cells slots Q ws pc L (.int y :: .int x :: st) := by
  obtain ⟨hx, hb, hml, hown, hts, hK, hA, hlk⟩ := C
  intro H locs ls hP hD hS hl9
  exact lv_irem hx hb hdg hne (kk H locs ls hP hD hS hl9)
theorem g_iushr (C : zC p s m args meth c cc nL own D tys A) {x y v : Int32} (hdg : decode cc pc = .ok (.iushr, 1)) (hv : (x.toUInt32 >>> (y.toUInt32 &&& Int32.toUInt32 31)).toInt32 = v)
    (kk : zG p l e R s m args below meth c nL D A cells slots Q ws (pc + 1) L (.int v :: st)) : zG p l e R s m args below meth c nL D A cells slots Q ws pc L (.int y :: .int x :: st) := by
  obtain ⟨hx, hb, hml, hown, hts, hK, hA, hlk⟩ := C
  intro H locs ls hP hD hS hl9
  exact lv_iushr hx hb hdg hv (kk H locs ls hP hD hS hl9)
theorem g_ineg (C : zC p s m args meth c cc nL own D tys A) {x : Int32} (hdg : decode cc pc = .ok (.ineg, 1))
    (kk : zG p l e R s m args below meth c nL D A cells slots Q ws (pc + 1) L (.int (-x) :: st)) : zG p l e R s m args below meth c nL D A cells slots Q ws pc L (.int x :: st) := by
  obtain ⟨hx, hb, hml, hown, hts, hK, hA, hlk⟩ := C
  intro H locs ls hP hD hS hl9
  exact lv_ineg hx hb hdg (kk H locs ls hP hD hS hl9)
theorem g_i2c (C : zC p s m args meth c cc nL own D tys A) {x v : Int32} (hdg : decode cc pc = .ok (.i2c, 1)) (hv : (x.toUInt32 % 65536).toInt32 = v)
    (kk : zG p l e R s m args below meth c nL D A cells slots Q ws (pc + 1) L (.int v :: st)) : zG p l e R s m args below meth c nL D A cells slots Q ws pc L (.int x :: st) := by
  obtain ⟨hx, hb, hml, hown, hts, hK, hA, hlk⟩ := C
  intro H locs ls hP hD hS hl9
  exact lv_i2c hx hb hdg hv (kk H locs ls hP hD hS hl9)
-- branches: the conditions as the kit has them
theorem g_if_eq (C : zC p s m args meth c cc nL own D tys A) {x : Int32} {off : Int} {tgt : Nat} (hdg : decode cc pc = .ok (.ifCond .eq off, 3)) (ht : (pc : Int) + off = (tgt : Int))
    (kt : x = 0 → zG p l e R s m args below meth c nL D A cells slots Q ws tgt L st) (kf : ¬ x = 0 → zG p l e R s m args below meth c nL D A cells slots Q ws (pc + 3) L st) : zG p l e R s m args below meth c nL D A cells slots Q ws pc L (.int x :: st) := by
  obtain ⟨hx, hb, hml, hown, hts, hK, hA, hlk⟩ := C
  intro H locs ls hP hD hS hl9
  exact lv_if_eq hx hb hdg ht (fun h => kt h H locs ls hP hD hS hl9) (fun h => kf h H locs ls hP hD hS hl9)
theorem g_icmp_eq (C : zC p s m args meth c cc nL own D tys A) {x y : Int32} {off : Int} {tgt : Nat} (hdg : decode cc pc = .ok (.if_icmp .eq off, 3)) (ht : (pc : Int) + off = (tgt : Int))
    (kt : x = y → zG p l e R s m args below meth c nL D A cells slots Q ws tgt L st) (kf : ¬ x = y → zG p l e R s m args below meth c nL D A cells slots Q ws (pc + 3) L st) : zG p l e R s m args below meth c nL D A cells slots Q ws pc L (.int y :: .int x :: st) := by
  obtain ⟨hx, hb, hml, hown, hts, hK, hA, hlk⟩ := C
  intro H locs ls hP hD hS hl9
  exact lv_icmp_eq hx hb hdg ht (fun h => kt h H locs ls hP hD hS hl9) (fun h => kf h H locs ls hP hD hS hl9)
theorem g_if_ne (C : zC p s m args meth c cc nL own D tys A) {x : Int32} {off : Int} {tgt : Nat} (hdg : decode cc pc = .ok (.ifCond .ne off, 3)) (ht : (pc : Int) + off = (tgt : Int))
    (kt : ¬ x = 0 → zG p l e R s m args below meth c nL D A cells slots Q ws tgt L st) (kf : x = 0 → zG p l e R s m args below meth c nL D A cells slots Q ws (pc + 3) L st) : zG p l e R s m args below meth c nL D A cells slots Q ws pc L (.int x :: st) := by
  obtain ⟨hx, hb, hml, hown, hts, hK, hA, hlk⟩ := C
  intro H locs ls hP hD hS hl9
  exact lv_if_ne hx hb hdg ht (fun h => kt h H locs ls hP hD hS hl9) (fun h => kf h H locs ls hP hD hS hl9)
theorem g_icmp_ne (C : zC p s m args meth c cc nL own D tys A) {x y : Int32} {off : Int} {tgt : Nat} (hdg : decode cc pc = .ok (.if_icmp .ne off, 3)) (ht : (pc : Int) + off = (tgt : Int))
    (kt : ¬ x = y → zG p l e R s m args below meth c nL D A cells slots Q ws tgt L st) (kf : x = y → zG p l e R s m args below meth c nL D A cells slots Q ws (pc + 3) L st) : zG p l e R s m args below meth c nL D A cells slots Q ws pc L (.int y :: .int x :: st) := by
  obtain ⟨hx, hb, hml, hown, hts, hK, hA, hlk⟩ := C
  intro H locs ls hP hD hS hl9
  exact lv_icmp_ne hx hb hdg ht (fun h => kt h H locs ls hP hD hS hl9) (fun h => kf h H locs ls hP hD hS hl9)
theorem g_if_lt (C : zC p s m args meth c cc nL own D tys A) {x : Int32} {off : Int} {tgt : Nat} (hdg : decode cc pc = .ok (.ifCond .lt off, 3)) (ht : (pc : Int) + off = (tgt : Int))
    (kt : x < 0 → zG p l e R s m args below meth c nL D A cells slots Q ws tgt L st) (kf : ¬ x < 0 → zG p l e R s m args below meth c nL D A cells slots Q ws (pc + 3) L st) : zG p l e R s m args below meth c nL D A cells slots Q ws pc L (.int x :: st) := by
  obtain ⟨hx, hb, hml, hown, hts, hK, hA, hlk⟩ := C
  intro H locs ls hP hD hS hl9
  exact lv_if_lt hx hb hdg ht (fun h => kt h H locs ls hP hD hS hl9) (fun h => kf h H locs ls hP hD hS hl9)
theorem g_icmp_lt (C : zC p s m args meth c cc nL own D tys A) {x y : Int32} {off : Int} {tgt : Nat} (hdg : decode cc pc = .ok (.if_icmp .lt off, 3)) (ht : (pc : Int) + off = (tgt : Int))
    (kt : x < y → zG p l e R s m args below meth c nL D A cells slots Q ws tgt L st) (kf : ¬ x < y → zG p l e R s m args below meth c nL D A cells slots Q ws (pc + 3) L st) : zG p l e R s m args below meth c nL D A cells slots Q ws pc L (.int y :: .int x :: st) := by
  obtain ⟨hx, hb, hml, hown, hts, hK, hA, hlk⟩ := C
  intro H locs ls hP hD hS hl9
  exact lv_icmp_lt hx hb hdg ht (fun h => kt h H locs ls hP hD hS hl9) (fun h => kf h H locs ls hP hD hS hl9)
theorem g_if_ge (C : zC p s m args meth c cc nL own D tys A) {x : Int32} {off : Int} {tgt : Nat} (hdg : decode cc pc = .ok (.ifCond .ge off, 3)) (ht : (pc : Int) + off = (tgt : Int))
    (kt : 0 ≤ x → zG p l e R s m args below meth c nL D A cells slots Q ws tgt L st) (kf : ¬ 0 ≤ x → zG p l e R s m args below meth c nL D A cells slots Q ws (pc + 3) L st) : zG p l e R s m args below meth c nL D A cells slots Q ws pc L (.int x :: st) := by
  obtain ⟨hx, hb, hml, hown, hts, hK, hA, hlk⟩ := C
  intro H locs ls hP hD hS hl9
  exact lv_if_ge hx hb hdg ht (fun h => kt h H locs ls hP hD hS hl9) (fun h => kf h H locs ls hP hD hS hl9)
theorem g_icmp_ge (C : zC p s m args meth c cc nL own D tys A) {x y : Int32} {off : Int} {tgt : Nat} (hdg : decode cc pc = .ok (.if_icmp .ge off, 3)) (ht : (pc : Int) + off = (tgt : Int))
    (kt : y ≤ x → zG p l e R s m args below meth c nL D A cells slots Q ws tgt L st) (kf : ¬ y ≤ x → zG p l e R s m args below meth c nL D A cells slots Q ws (pc + 3) L st) : zG p l e R s m args below meth c nL D A cells slots Q ws pc L (.int y :: .int x :: st) := by
  obtain ⟨hx, hb, hml, hown, hts, hK, hA, hlk⟩ := C
  intro H locs ls hP hD hS hl9
  exact lv_icmp_ge hx hb hdg ht (fun h => kt h H locs ls hP hD hS hl9) (fun h => kf h H locs ls hP hD hS hl9)
theorem g_if_gt (C : zC p s m args meth c cc nL own D tys A) {x : Int32} {off : Int} {tgt : Nat} (hdg : decode cc pc = .ok (.ifCond .gt off, 3)) (ht : (pc : Int) + off = (tgt : Int))
    (kt : 0 < x → zG p l e R s m args below meth c nL D A cells slots Q ws tgt L st) (kf : ¬ 0 < x → zG p l e R s m args below meth c nL D A cells slots Q ws (pc + 3) L st) : zG p l e R s m args below meth c nL D A cells slots Q ws pc L (.int x :: st) := by
  obtain ⟨hx, hb, hml, hown, hts, hK, hA, hlk⟩ := C
  intro H locs ls hP hD hS hl9
  exact lv_if_gt hx hb hdg ht (fun h => kt h H locs ls hP hD hS hl9) (fun h => kf h H locs ls hP hD hS hl9)
theorem g_icmp_gt (C : zC p s m args meth c cc nL own D tys A) {x y : Int32} {off : Int} {tgt : Nat} (hdg : decode cc pc = .ok (.if_icmp .gt off, 3)) (ht : (pc : Int) + off = (tgt : Int))
    (kt : y < x → zG p l e R s m args below meth c nL D A cells slots Q ws tgt L st) (kf : ¬ y < x → zG p l e R s m args below meth c nL D A cells slots Q ws (pc + 3) L st) : zG p l e R s m args below meth c nL D A cells slots Q ws pc L (.int y :: .int x :: st) := by
  obtain ⟨hx, hb, hml, hown, hts, hK, hA, hlk⟩ := C
  intro H locs ls hP hD hS hl9
  exact lv_icmp_gt hx hb hdg ht (fun h => kt h H locs ls hP hD hS hl9) (fun h => kf h H locs ls hP hD hS hl9)
theorem g_if_le (C : zC p s m args meth c cc nL own D tys A) {x : Int32} {off : Int} {tgt : Nat} (hdg : decode cc pc = .ok (.ifCond .le off, 3)) (ht : (pc : Int) + off = (tgt : Int))
    (kt : x ≤ 0 → zG p l e R s m args below meth c nL D A cells slots Q ws tgt L st) (kf : ¬ x ≤ 0 → zG p l e R s m args below meth c nL D A cells slots Q ws (pc + 3) L st) : zG p l e R s m args below meth c nL D A cells slots Q ws pc L (.int x :: st) := by
  obtain ⟨hx, hb, hml, hown, hts, hK, hA, hlk⟩ := C
  intro H locs ls hP hD hS hl9
  exact lv_if_le hx hb hdg ht (fun h => kt h H locs ls hP hD hS hl9) (fun h => kf h H locs ls hP hD hS hl9)
theorem g_icmp_le (C : zC p s m args meth c cc nL own D tys A) {x y : Int32} {off : Int} {tgt : Nat} (hdg : decode cc pc = .ok (.if_icmp .le off, 3)) (ht : (pc : Int) + off = (tgt : Int))
    (kt : x ≤ y → zG p l e R s m args below meth c nL D A cells slots Q ws tgt L st) (kf : ¬ x ≤ y → zG p l e R s m args below meth c nL D A cells slots Q ws (pc + 3) L st) : zG p l e R s m args below meth c nL D A cells slots Q ws pc L (.int y :: .int x :: st) := by
  obtain ⟨hx, hb, hml, hown, hts, hK, hA, hlk⟩ := C
  intro H locs ls hP hD hS hl9
  exact lv_icmp_le hx hb hdg ht (fun h => kt h H locs ls hP hD hS hl9) (fun h => kf h H locs ls hP hD hS hl9)
theorem g_goto (C : zC p s m args meth c cc nL own D tys A) {off : Int} {tgt : Nat} (hdg : decode cc pc = .ok (.goto off, 3)) (ht : (pc : Int) + off = (tgt : Int))
    (kk : zG p l e R s m args below meth c nL D A cells slots Q ws tgt L st) : zG p l e R s m args below meth c nL D A cells slots Q ws pc L st := by
  obtain ⟨hx, hb, hml, hown, hts, hK, hA, hlk⟩ := C
  intro H locs ls hP hD hS hl9
  exact lv_goto hx hb hdg ht (kk H locs ls hP hD hS hl9)
theorem g_dup (C : zC p s m args meth c cc nL own D tys A) {va : Value} (hdg : decode cc pc = .ok (.dup, 1)) (hva : va.category = 1)
    (kk : zG p l e R s m args below meth c nL D A cells slots Q ws (pc + 1) L (va :: va :: st)) : zG p l e R s m args below meth c nL D A cells slots Q ws pc L (va :: st) := by
  obtain ⟨hx, hb, hml, hown, hts, hK, hA, hlk⟩ := C
  intro H locs ls hP hD hS hl9
  exact lv_dup hx hb hdg hva (kk H locs ls hP hD hS hl9)
theorem g_dup2 (C : zC p s m args meth c cc nL own D tys A) {va vb : Value} (hdg : decode cc pc = .ok (.dup2, 1)) (hva : va.category = 1) (hvb : vb.category = 1)
    (kk : zG p l e R s m args below meth c nL D A cells slots Q ws (pc + 1) L (va :: vb :: va :: vb :: st)) : zG p l e R s m args below meth c nL D A cells slots Q ws pc L (va :: vb :: st) := by
  obtain ⟨hx, hb, hml, hown, hts, hK, hA, hlk⟩ := C
  intro H locs ls hP hD hS hl9
  exact lv_dup2_11 hx hb hdg hva hvb (kk H locs ls hP hD hS hl9)
theorem g_pop (C : zC p s m args meth c cc nL own D tys A) {va : Value} (hdg : decode cc pc = .ok (.pop, 1)) (hva : va.category = 1)
    (kk : zG p l e R s m args below meth c nL D A cells slots Q ws (pc + 1) L st) : zG p l e R s m args below meth c nL D A cells slots Q ws pc L (va :: st) := by
  obtain ⟨hx, hb, hml, hown, hts, hK, hA, hlk⟩ := C
  intro H locs ls hP hD hS hl9
  exact lv_pop hx hb hdg hva (kk H locs ls hP hD hS hl9)
theorem g_tabIn (C : zC p s m args meth c cc nL own D tys A) {dflt lo hi : Int} {offs : Array Int} {len : Nat} {x : Int32} {off : Int} {tgt : Nat} (hdg : decode cc pc = .ok (.tableswitch dflt lo hi offs, len)) (h1 : ¬ x.toInt < lo) (h2 : ¬ hi < x.toInt) (ho : offs[(x.toInt - lo).toNat]? = some off) (ht : (pc : Int) + off = (tgt : Int))
    (kk : zG p l e R s m args below meth c nL D A cells slots Q ws tgt L st) : zG p l e R s m args below meth c nL D A cells slots Q ws pc L (.int x :: st) := by
  obtain ⟨hx, hb, hml, hown, hts, hK, hA, hlk⟩ := C
  intro H locs ls hP hD hS hl9
  exact lv_tableIn hx hb hdg h1 h2 ho ht (kk H locs ls hP hD hS hl9)
theorem g_tabOut (C : zC p s m args meth c cc nL own D tys A) {dflt lo hi : Int} {offs : Array Int} {len : Nat} {x : Int32} {tgt : Nat} (hdg : decode cc pc = .ok (.tableswitch dflt lo hi offs, len)) (h : x.toInt < lo ∨ hi < x.toInt) (ht : (pc : Int) + dflt = (tgt : Int))
    (kk : zG p l e R s m args below meth c nL D A cells slots Q ws tgt L st) : zG p l e R s m args below meth c nL D A cells slots Q ws pc L (.int x :: st) := by
  obtain ⟨hx, hb, hml, hown, hts, hK, hA, hlk⟩ := C
  intro H locs ls hP hD hS hl9
  exact lv_tableOut hx hb hdg h ht (kk H locs ls hP hD hS hl9)
theorem g_null (C : zC p s m args meth c cc nL own D tys A) (hdg : decode cc pc = .ok (.aconst_null, 1))
    (kk : zG p l e R s m args below meth c nL D A cells slots Q ws (pc + 1) L (.null :: st)) : zG p l e R s m args below meth c nL D A cells slots Q ws pc L st := by
  obtain ⟨hx, hb, hml, hown, hts, hK, hA, hlk⟩ := C
  intro H locs ls hP hD hS hl9
  exact lv_null hx hb hdg (kk H locs ls hP hD hS hl9)
theorem g_ifnull (C : zC p s m args meth c cc nL own D tys A) {x : Nat} {off : Int} (hdg : decode cc pc = .ok (.ifnull off, 3))
    (kk : zG p l e R s m args below meth c nL D A cells slots Q ws (pc + 3) L st) : zG p l e R s m args below meth c nL D A cells slots Q ws pc L (.ref x :: st) := by
  obtain ⟨hx, hb, hml, hown, hts, hK, hA, hlk⟩ := C
  intro H locs ls hP hD hS hl9
  exact lv_ifnull hx hb hdg (kk H locs ls hP hD hS hl9)
theorem zG_L {L' : List (Nat × Value)} (h : L = L') (kk : zG p l e R s m args below meth c nL D A cells slots Q ws pc L' st) : zG p l e R s m args below meth c nL D A cells slots Q ws pc L st := h ▸ kk
theorem zG_sub {L' : List (Nat × Value)} (ks : List Nat) (h : lv_pick L ks = L') (kk : zG p l e R s m args below meth c nL D A cells slots Q ws pc L' st) : zG p l e R s m args below meth c nL D A cells slots Q ws pc L st := fun H locs ls hP hD hS hl => kk H locs ls hP hD hS (lv_sub hl ks h)
theorem g_ldcw (C : zC p s m args meth c cc nL own D tys A) {index : Nat} {v : Int32} (hdg : decode cc pc = .ok (.ldc_w index, 3)) (hv : (Jvm.Cond.constant own index v) ∈ zAll)
    (kk : zG p l e R s m args below meth c nL D A cells slots Q ws (pc + 3) L (.int v :: st)) : zG p l e R s m args below meth c nL D A cells slots Q ws pc L st := by
  obtain ⟨hx, hb, hml, hown, hts, hK, hA, hlk⟩ := C
  intro H locs ls hP hD hS hl9
  exact lv_ldcw hx hb hown (hts _ hv) hdg (kk H locs ls hP hD hS hl9)
theorem g_tabEq (C : zC p s m args meth c cc nL own D tys A) {dflt lo hi : Int} {offs : Array Int} {len : Nat} {x k : Int32} {off : Int} {tgt : Nat} (hdg : decode cc pc = .ok (.tableswitch dflt lo hi offs, len)) (hxk : x = k) (h1 : ¬ k.toInt < lo) (h2 : ¬ hi < k.toInt) (ho : offs[(k.toInt - lo).toNat]? = some off) (ht : (pc : Int) + off = (tgt : Int))
    (kk : zG p l e R s m args below meth c nL D A cells slots Q ws tgt L st) : zG p l e R s m args below meth c nL D A cells slots Q ws pc L (.int x :: st) := by
  obtain ⟨hx, hb, hml, hown, hts, hK, hA, hlk⟩ := C
  intro H locs ls hP hD hS hl9
  subst hxk; exact lv_tableIn hx hb hdg h1 h2 ho ht (kk H locs ls hP hD hS hl9)
theorem g_ifnullN (C : zC p s m args meth c cc nL own D tys A) {off : Int} {tgt : Nat} (hdg : decode cc pc = .ok (.ifnull off, 3)) (ht : (pc : Int) + off = (tgt : Int))
    (kk : zG p l e R s m args below meth c nL D A cells slots Q ws tgt L st) : zG p l e R s m args below meth c nL D A cells slots Q ws pc L (.null :: st) := by
  obtain ⟨hx, hb, hml, hown, hts, hK, hA, hlk⟩ := C
  intro H locs ls hP hD hS hl9
  exact lv_ifnullN hx hb hdg ht (kk H locs ls hP hD hS hl9)
-- the memory
variable {cy : Nat → ClassId} {ad : Nat → Nat} {sh : List zSh} {E : va_W} {X : Nat → Nat → Int32}
theorem g_geti (C : zC p s m args meth c cc nL own D (zTy cy) A) {r ci : Nat} {fl : List (Option Nat)} {C0 : String} {T : u_T} {N k index : Nat} (hs : sh[r]? = some (.inr (.inr (ci, fl)))) (hc : vwCl[ci]? = some (C0, T, N)) (hin : ∀ w ∈ u_ws C0 T N, w ∈ zAll) (hk : k < N) (hf : fl[k]? = some none) (hlink : (Cond.fieldLink own index C0 (T k).2.1 (T k).2.2.1) ∈ zAll) (hdec : (T k).1 = C0) (hdg : decode cc pc = .ok (.getfield index, 3))
    (kk : zG p l e R s m args below meth c nL D A cells slots Q (zW cy ad sh E X) (pc + 3) L (.int (X r k) :: st)) : zG p l e R s m args below meth c nL D A cells slots Q (zW cy ad sh E X) pc L (.ref (ad r) :: st) := by
  obtain ⟨hx, hb, hml, hown, hts, hK, hA, hlk⟩ := C
  intro H locs ls hP hD hS hl9
  exact va_get (D := D) hx hb hts hin hown hK hP r (zW_get X hs) hc k hk (hts _ hlink) (fun _ h => by rw [hdec] at h; exact h) (by rw [z_fs_get, hf]; simp only [Option.map, z_val, Nat.zero_add]) hdg (kk H locs ls hP hD hS hl9)
theorem g_getr (C : zC p s m args meth c cc nL own D (zTy cy) A) {r2 : Nat} {r ci : Nat} {fl : List (Option Nat)} {C0 : String} {T : u_T} {N k index : Nat} (hs : sh[r]? = some (.inr (.inr (ci, fl)))) (hc : vwCl[ci]? = some (C0, T, N)) (hin : ∀ w ∈ u_ws C0 T N, w ∈ zAll) (hk : k < N) (hf : fl[k]? = some (some r2)) (hlink : (Cond.fieldLink own index C0 (T k).2.1 (T k).2.2.1) ∈ zAll) (hdec : (T k).1 = C0) (hdg : decode cc pc = .ok (.getfield index, 3))
    (kk : zG p l e R s m args below meth c nL D A cells slots Q (zW cy ad sh E X) (pc + 3) L (.ref (ad r2) :: st)) : zG p l e R s m args below meth c nL D A cells slots Q (zW cy ad sh E X) pc L (.ref (ad r) :: st) := by
  obtain ⟨hx, hb, hml, hown, hts, hK, hA, hlk⟩ := C
  intro H locs ls hP hD hS hl9
  exact va_get (D := D) hx hb hts hin hown hK hP r (zW_get X hs) hc k hk (hts _ hlink) (fun _ h => by rw [hdec] at h; exact h) (by rw [z_fs_get, hf]; simp only [Option.map, z_val, Nat.zero_add]) hdg (kk H locs ls hP hD hS hl9)
theorem g_puti (C : zC p s m args meth c cc nL own D (zTy cy) A) {ty : FieldType} {ty0 : Nat → FieldType} {v : Int32} {r ci : Nat} {fl : List (Option Nat)} {C0 : String} {T : u_T} {N k index : Nat} (hs : sh[r]? = some (.inr (.inr (ci, fl)))) (hc : vwCl[ci]? = some (C0, T, N)) (hin : ∀ w ∈ u_ws C0 T N, w ∈ zAll) (hk : k < N) (hf : fl[k]? = some none) (hlink : (Cond.fieldLink own index C0 (T k).2.1 (T k).2.2.1) ∈ zAll) (hdec : (T k).1 = C0) (hty : ∀ k, k < N → parseFieldDescriptor (T k).2.2.1 = some (ty0 k)) (hnm : ∀ a, a < N → ∀ b, b < N → a ≠ b → (T a).2.1 ≠ (T b).2.1) (hfin : (T k).2.2.2 = false) (hd : parseFieldDescriptor (T k).2.2.1 = some ty) (hn : narrow ty (.int v) = .int v) (hfit : fits ty (.int v) = true) (hdg : decode cc pc = .ok (.putfield index, 3))
    (kk : zG p l e R s m args below meth c nL D A cells slots Q (zW cy ad sh E (zU X r k v)) (pc + 3) L st) : zG p l e R s m args below meth c nL D A cells slots Q (zW cy ad sh E X) pc L (.int v :: .ref (ad r) :: st) := by
  obtain ⟨hx, hb, hml, hown, hts, hK, hA, hlk⟩ := C
  intro H locs ls hP hD hS hl9
  refine va_put (D := D) hx hb hts hin ty0 hty hnm hown hK hP hD hS r (zW_get X hs) hc k hk (hts _ hlink) (fun _ h => by rw [hdec] at h; exact h) hfin hd hn hfit (by rw [z_fs_len]; exact (List.getElem?_eq_some_iff.mp hf).1) hdg (fun H1 locs1 hP hD hS => ?_)
  have e : (zW cy ad sh E X).set r (ad r, .inr (ci, (z_fs ad (X r) 0 fl).set k (.int v))) = zW cy ad sh E (zU X r k v) := by
    rw [z_fs_set ad v fl (X r) 0 k hf, Nat.zero_add]
    exact zW_set X _ hs
  rw [e] at hP hD
  exact kk H1 locs1 ls hP hD hS hl9
theorem g_iald (C : zC p s m args meth c cc nL own D (zTy cy) A) {r n : Nat} {i : Int32} (hs : sh[r]? = some (.inl (0, n))) (hin : ¬ (i < 0 ∨ n ≤ i.toNatClampNeg)) (hdg : decode cc pc = .ok (.iaload, 1))
    (kk : zG p l e R s m args below meth c nL D A cells slots Q (zW cy ad sh E X) (pc + 1) L (.int (X r i.toNatClampNeg) :: st)) : zG p l e R s m args below meth c nL D A cells slots Q (zW cy ad sh E X) pc L (.int i :: .ref (ad r) :: st) := by
  obtain ⟨hx, hb, hml, hown, hts, hK, hA, hlk⟩ := C
  intro H locs ls hP hD hS hl9
  exact va_iald hx hb hK hP r 0 (zW_get X hs) rfl hin hdg (kk H locs ls hP hD hS hl9)
theorem g_cald (C : zC p s m args meth c cc nL own D (zTy cy) A) {r n : Nat} {i : Int32} (hs : sh[r]? = some (.inl (1, n))) (hin : ¬ (i < 0 ∨ n ≤ i.toNatClampNeg)) (hdg : decode cc pc = .ok (.caload, 1))
    (kk : zG p l e R s m args below meth c nL D A cells slots Q (zW cy ad sh E X) (pc + 1) L (.int (X r i.toNatClampNeg) :: st)) : zG p l e R s m args below meth c nL D A cells slots Q (zW cy ad sh E X) pc L (.int i :: .ref (ad r) :: st) := by
  obtain ⟨hx, hb, hml, hown, hts, hK, hA, hlk⟩ := C
  intro H locs ls hP hD hS hl9
  exact va_cald hx hb hK hP r 1 (zW_get X hs) rfl hin hdg (kk H locs ls hP hD hS hl9)
theorem g_iast (C : zC p s m args meth c cc nL own D (zTy cy) A) {r n : Nat} {i x : Int32} (hs : sh[r]? = some (.inl (0, n))) (hin : ¬ (i < 0 ∨ n ≤ i.toNatClampNeg)) (hdg : decode cc pc = .ok (.iastore, 1))
    (kk : zG p l e R s m args below meth c nL D A cells slots Q (zW cy ad sh E (zU X r i.toNatClampNeg x)) (pc + 1) L st) : zG p l e R s m args below meth c nL D A cells slots Q (zW cy ad sh E X) pc L (.int x :: .int i :: .ref (ad r) :: st) := by
  obtain ⟨hx, hb, hml, hown, hts, hK, hA, hlk⟩ := C
  intro H locs ls hP hD hS hl9
  refine va_iast hx hb hK hP hD hS r 0 (zW_get X hs) rfl hin hdg (fun H1 locs1 hP hD hS => ?_)
  have e : (zW cy ad sh E X).set r (ad r, .inl (cy 0, n, .inl (upd (X r) i.toNatClampNeg x))) = zW cy ad sh E (zU X r i.toNatClampNeg x) := zW_set X _ hs
  rw [e] at hP hD
  exact kk H1 locs1 ls hP hD hS hl9
theorem g_cast (C : zC p s m args meth c cc nL own D (zTy cy) A) {r n : Nat} {i x : Int32} (hs : sh[r]? = some (.inl (1, n))) (hin : ¬ (i < 0 ∨ n ≤ i.toNatClampNeg)) (hdg : decode cc pc = .ok (.castore, 1))
    (kk : zG p l e R s m args below meth c nL D A cells slots Q (zW cy ad sh E (zU X r i.toNatClampNeg (vp_nar .char x))) (pc + 1) L st) : zG p l e R s m args below meth c nL D A cells slots Q (zW cy ad sh E X) pc L (.int x :: .int i :: .ref (ad r) :: st) := by
  obtain ⟨hx, hb, hml, hown, hts, hK, hA, hlk⟩ := C
  intro H locs ls hP hD hS hl9
  refine va_cast hx hb hK hP hD hS r 1 (zW_get X hs) rfl hin hdg (fun H1 locs1 hP hD hS => ?_)
  have e : (zW cy ad sh E X).set r (ad r, .inl (cy 1, n, .inl (upd (X r) i.toNatClampNeg (vp_nar .char x)))) = zW cy ad sh E (zU X r i.toNatClampNeg (vp_nar .char x)) := zW_set X _ hs
  rw [e] at hP hD
  exact kk H1 locs1 ls hP hD hS hl9
theorem g_alen (C : zC p s m args meth c cc nL own D (zTy cy) A) {r t n : Nat} {ty : FieldType} (hs : sh[r]? = some (.inl (t, n))) (ht : (zTy cy)[t]? = some (cy t, ty)) (hdg : decode cc pc = .ok (.arraylength, 1))
    (kk : zG p l e R s m args below meth c nL D A cells slots Q (zW cy ad sh E X) (pc + 1) L (.int (nI n) :: st)) : zG p l e R s m args below meth c nL D A cells slots Q (zW cy ad sh E X) pc L (.ref (ad r) :: st) := by
  obtain ⟨hx, hb, hml, hown, hts, hK, hA, hlk⟩ := C
  intro H locs ls hP hD hS hl9
  exact va_alen hx hb hK hP r t (zW_get X hs) ht rfl hdg (kk H locs ls hP hD hS hl9)
theorem g_alenq (C : zC p s m args meth c cc nL own D (zTy cy) A) {r t n : Nat} {lr : List Nat} {ty : FieldType} (hn : lr.length = n) (hs : sh[r]? = some (.inr (.inl (t, lr)))) (ht : (zTy cy)[t]? = some (cy t, ty)) (hdg : decode cc pc = .ok (.arraylength, 1))
    (kk : zG p l e R s m args below meth c nL D A cells slots Q (zW cy ad sh E X) (pc + 1) L (.int (nI n) :: st)) : zG p l e R s m args below meth c nL D A cells slots Q (zW cy ad sh E X) pc L (.ref (ad r) :: st) := by
  obtain ⟨hx, hb, hml, hown, hts, hK, hA, hlk⟩ := C
  intro H locs ls hP hD hS hl9
  subst hn; exact va_alen hx hb hK hP r t (zW_get X hs) ht rfl hdg (kk H locs ls hP hD hS hl9)
theorem g_aaldq (C : zC p s m args meth c cc nL own D (zTy cy) A) {r r2 : Nat} {i : Int32} {lr : List Nat} (hs : sh[r]? = some (.inr (.inl (3, lr)))) (hin : ¬ (i < 0 ∨ lr.length ≤ i.toNatClampNeg)) (hr : lr[i.toNatClampNeg]? = some r2) (hdg : decode cc pc = .ok (.aaload, 1))
    (kk : zG p l e R s m args below meth c nL D A cells slots Q (zW cy ad sh E X) (pc + 1) L (.ref (ad r2) :: st)) : zG p l e R s m args below meth c nL D A cells slots Q (zW cy ad sh E X) pc L (.int i :: .ref (ad r) :: st) := by
  obtain ⟨hx, hb, hml, hown, hts, hK, hA, hlk⟩ := C
  intro H locs ls hP hD hS hl9
  refine va_aldq hx hb hK hP r 3 (zW_get X hs) rfl hin hdg ?_
  have e : va_rf ((lr[i.toNatClampNeg]?).map ad) = Value.ref (ad r2) := by rw [hr]; rfl
  rw [e]
  exact kk H locs ls hP hD hS hl9
-- Math and arraycopy
theorem g_mmax (C : zC p s m args meth c cc nL own D tys A) {x y : Int32} {index : Nat} (hlink : (Cond.methodLink own index Lib.Math.max.name) ∈ zAll) (hfr : 1 ≤ R.frames) (hlo : (st.map fun v => v.category).sum + 13 ≤ R.locals) (hcr : cells ≤ R.cells) (hsr : slots ≤ R.slots) (hdg : decode cc pc = .ok (.invokestatic index, 3))
    (kk : zG p l e R s m args below meth c nL D A cells slots Q ws (pc + 3) L (.int (if x < y then y else x) :: st)) : zG p l e R s m args below meth c nL D A cells slots Q ws pc L (.int y :: .int x :: st) := by
  obtain ⟨hx, hb, hml, hown, hts, hK, hA, hlk⟩ := C
  intro H locs ls hP hD hS hl9
  exact va_mmax hx hb (hml.trans hl9.1.symm) hown (hts _ hlink) (hts _ z_Mmax.1) (hts _ z_Mmax.2.1) (hts _ z_Mmax.2.2) hfr hlo hcr hsr hdg (kk H locs ls hP hD hS hl9)
theorem g_mmin (C : zC p s m args meth c cc nL own D tys A) {x y : Int32} {index : Nat} (hlink : (Cond.methodLink own index Lib.Math.min.name) ∈ zAll) (hfr : 1 ≤ R.frames) (hlo : (st.map fun v => v.category).sum + 13 ≤ R.locals) (hcr : cells ≤ R.cells) (hsr : slots ≤ R.slots) (hdg : decode cc pc = .ok (.invokestatic index, 3))
    (kk : zG p l e R s m args below meth c nL D A cells slots Q ws (pc + 3) L (.int (if y < x then y else x) :: st)) : zG p l e R s m args below meth c nL D A cells slots Q ws pc L (.int y :: .int x :: st) := by
  obtain ⟨hx, hb, hml, hown, hts, hK, hA, hlk⟩ := C
  intro H locs ls hP hD hS hl9
  exact va_mmin hx hb (hml.trans hl9.1.symm) hown (hts _ hlink) (hts _ z_Mmin.1) (hts _ z_Mmin.2.1) (hts _ z_Mmin.2.2) hfr hlo hcr hsr hdg (kk H locs ls hP hD hS hl9)
theorem g_mabs (C : zC p s m args meth c cc nL own D tys A) {x : Int32} {index : Nat} (hlink : (Cond.methodLink own index Lib.Math.abs.name) ∈ zAll) (hfr : 1 ≤ R.frames) (hlo : (st.map fun v => v.category).sum + 13 ≤ R.locals) (hcr : cells ≤ R.cells) (hsr : slots ≤ R.slots) (hdg : decode cc pc = .ok (.invokestatic index, 3))
    (kk : zG p l e R s m args below meth c nL D A cells slots Q ws (pc + 3) L (.int (if 0 ≤ x then x else 0 - x) :: st)) : zG p l e R s m args below meth c nL D A cells slots Q ws pc L (.int x :: st) := by
  obtain ⟨hx, hb, hml, hown, hts, hK, hA, hlk⟩ := C
  intro H locs ls hP hD hS hl9
  exact va_mabs hx hb (hml.trans hl9.1.symm) hown (hts _ hlink) (hts _ z_Mabs.1) (hts _ z_Mabs.2.1) (hts _ z_Mabs.2.2) hfr hlo hcr hsr hdg (kk H locs ls hP hD hS hl9)
theorem g_copyi (C : zC p s m args meth c cc nL own D (zTy cy) A) {r0 r1 n0 n1 index : Nat} {sp dp n : Int32} (hs0 : sh[r0]? = some (.inl (0, n0))) (hs1 : sh[r1]? = some (.inl (0, n1))) (hlink : (Cond.methodLink own index arraycopyName) ∈ zAll) (h1 : ¬ sp < 0) (h2 : ¬ dp < 0) (h3 : ¬ n < 0) (h4 : sp.toNatClampNeg + n.toNatClampNeg ≤ n0) (h5 : dp.toNatClampNeg + n.toNatClampNeg ≤ n1) (hfr : 1 ≤ R.frames) (hlo : (st.map fun v => v.category).sum + (nativeFrameWords "java/lang/System" "arraycopy" 5 + 11) ≤ R.locals) (hdg : decode cc pc = .ok (.invokestatic index, 3))
    (kk : zG p l e R s m args below meth c nL D A cells slots Q (zW cy ad sh E (zR X r1 (va_cpy (X r0) (X r1) sp.toNatClampNeg dp.toNatClampNeg n.toNatClampNeg))) (pc + 3) L st) : zG p l e R s m args below meth c nL D A cells slots Q (zW cy ad sh E X) pc L (.int n :: .int dp :: .ref (ad r1) :: .int sp :: .ref (ad r0) :: st) := by
  obtain ⟨hx, hb, hml, hown, hts, hK, hA, hlk⟩ := C
  intro H locs ls hP hD hS hl9
  refine va_copyi hx hb (hml.trans hl9.1.symm) hown (hts _ hlink) (hts _ z_acopy.1) (hts _ z_acopy.2.1) (hts _ z_acopy.2.2) hK hP hD hS r0 r1 0 0 (zW_get X hs0) (zW_get X hs1) rfl rfl rfl h1 h2 h3 h4 h5 (fun i hi => rfl) hfr hlo hdg (fun H1 locs1 hP hD hS => ?_)
  have e : (zW cy ad sh E X).set r1 (ad r1, .inl (cy 0, n1, .inl (va_cpy (X r0) (X r1) sp.toNatClampNeg dp.toNatClampNeg n.toNatClampNeg))) = zW cy ad sh E (zR X r1 (va_cpy (X r0) (X r1) sp.toNatClampNeg dp.toNatClampNeg n.toNatClampNeg)) := zW_set X _ hs1
  rw [e] at hP hD
  exact kk H1 locs1 ls hP hD hS hl9
end ZROWS
/-- the room of a method whose calls go d deep -/
abbrev zrm (d : Nat) : Room := { frames := d + 6, cells := 0, slots := 0, locals := 60 * d + 200 }
abbrev zFuel : Nat := 5000
def zlet {α β : Type} (a : α) (f : α → β) : β := f a
theorem zlet_ex {α β : Type} {a : α} {f : α → β} {r : β} (h : zlet a f = r) : ∃ x, x = a ∧ f x = r := ⟨a, rfl, h⟩
theorem z_iinc {x k : Int32} {n : Int} (h : Int32.ofInt n = k) : x + Int32.ofInt n = x + k := by rw [h]
theorem z_nb {v : Int32} (h : v = 0 ∨ v = 1) : narrow .boolean (.int v) = .int v := by rcases h with rfl | rfl <;> rfl
theorem z_fb {v : Int32} (h : v = 0 ∨ v = 1) : fits .boolean (.int v) = true := by rcases h with rfl | rfl <;> rfl
theorem z_nc {v : Int32} (h : (v.toUInt32 % 65536).toInt32 = v) : narrow .char (.int v) = .int v := by rw [← h]; exact pk_nc v
theorem z_ge {i : Int32} (h : 0 ≤ i) : ¬ i < 0 := by
  rw [Int32.le_iff_toInt_le] at h
  rw [Int32.lt_iff_toInt_lt]
  omega
theorem z_in {n : Nat} {i : Int32} (hn : n < 2 ^ 31) (h1 : ¬ i < 0) (h2 : ¬ nI n ≤ i) : ¬ (i < 0 ∨ n ≤ i.toNatClampNeg) := by
  intro h
  rcases h with h | h
  · exact h1 h
  · apply h2
    rw [Int32.le_iff_toInt_le, nI_toInt hn]
    have e : (i.toNatClampNeg : Int) = i.toInt := by
      have h3 : 0 ≤ i.toInt := by
        rw [Int32.lt_iff_toInt_lt, Int32.toInt_zero] at h1
        omega
      exact Int.toNat_of_nonneg h3
    omega
theorem z_min {n0 n1 : Nat} (h0 : n0 < 2 ^ 31) (h1 : n1 < 2 ^ 31) : (if nI n1 < nI n0 then nI n1 else nI n0) = nI (if n1 < n0 then n1 else n0) := by
  by_cases h : n1 < n0
  · rw [if_pos (nI_lt h h0), if_pos h]
  · rw [if_neg (nI_nlt (by omega) h1), if_neg h]
theorem z_min_nn {n0 n1 : Nat} (h0 : n0 < 2 ^ 31) (h1 : n1 < 2 ^ 31) : ¬ (if nI n1 < nI n0 then nI n1 else nI n0) < 0 := by
  rw [z_min h0 h1]
  exact nI_pos (by split <;> assumption)
theorem z_min_cl {n0 n1 : Nat} (h0 : n0 < 2 ^ 31) (h1 : n1 < 2 ^ 31) : (if nI n1 < nI n0 then nI n1 else nI n0).toNatClampNeg = (if n1 < n0 then n1 else n0) := by
  rw [z_min h0 h1]
  exact nI_clamp (by split <;> assumption)
theorem z_min_le1 {n0 n1 : Nat} (h0 : n0 < 2 ^ 31) (h1 : n1 < 2 ^ 31) : (0 : Int32).toNatClampNeg + (if nI n1 < nI n0 then nI n1 else nI n0).toNatClampNeg ≤ n0 := by
  rw [z_min_cl h0 h1, show (0 : Int32).toNatClampNeg = 0 from rfl]
  split <;> omega
theorem z_min_le2 {n0 n1 : Nat} (h0 : n0 < 2 ^ 31) (h1 : n1 < 2 ^ 31) : (0 : Int32).toNatClampNeg + (if nI n1 < nI n0 then nI n1 else nI n0).toNatClampNeg ≤ n1 := by
  rw [z_min_cl h0 h1, show (0 : Int32).toNatClampNeg = 0 from rfl]
  split <;> omega
theorem z_ne_toInt {x k : Int32} (h : ¬ x = k) : x.toInt ≠ k.toInt := fun q => h (Int32.toInt_inj.mp q)
theorem z_tabout_3 {x k0 k1 k2 : Int32} {lo hi : Int} (h0 : ¬ x = k0) (h1 : ¬ x = k1) (h2 : ¬ x = k2) (hk : hi = lo + 2 ∧ k0.toInt = lo + 0 ∧ k1.toInt = lo + 1 ∧ k2.toInt = lo + 2) : x.toInt < lo ∨ hi < x.toInt := by
  obtain ⟨hh, e0, e1, e2⟩ := hk
  have q0 := z_ne_toInt h0
  have q1 := z_ne_toInt h1
  have q2 := z_ne_toInt h2
  rw [e0] at q0
  rw [e1] at q1
  rw [e2] at q2
  omega
theorem z_tabout_4 {x k0 k1 k2 k3 : Int32} {lo hi : Int} (h0 : ¬ x = k0) (h1 : ¬ x = k1) (h2 : ¬ x = k2) (h3 : ¬ x = k3) (hk : hi = lo + 3 ∧ k0.toInt = lo + 0 ∧ k1.toInt = lo + 1 ∧ k2.toInt = lo + 2 ∧ k3.toInt = lo + 3) : x.toInt < lo ∨ hi < x.toInt := by
  obtain ⟨hh, e0, e1, e2, e3⟩ := hk
  have q0 := z_ne_toInt h0
  have q1 := z_ne_toInt h1
  have q2 := z_ne_toInt h2
  have q3 := z_ne_toInt h3
  rw [e0] at q0
  rw [e1] at q1
  rw [e2] at q2
  rw [e3] at q3
  omega
theorem z_tabout_5 {x k0 k1 k2 k3 k4 : Int32} {lo hi : Int} (h0 : ¬ x = k0) (h1 : ¬ x = k1) (h2 : ¬ x = k2) (h3 : ¬ x = k3) (h4 : ¬ x = k4) (hk : hi = lo + 4 ∧ k0.toInt = lo + 0 ∧ k1.toInt = lo + 1 ∧ k2.toInt = lo + 2 ∧ k3.toInt = lo + 3 ∧ k4.toInt = lo + 4) : x.toInt < lo ∨ hi < x.toInt := by
  obtain ⟨hh, e0, e1, e2, e3, e4⟩ := hk
  have q0 := z_ne_toInt h0
  have q1 := z_ne_toInt h1
  have q2 := z_ne_toInt h2
  have q3 := z_ne_toInt h3
  have q4 := z_ne_toInt h4
  rw [e0] at q0
  rw [e1] at q1
  rw [e2] at q2
  rw [e3] at q3
  rw [e4] at q4
  omega
theorem z_tabout_8 {x k0 k1 k2 k3 k4 k5 k6 k7 : Int32} {lo hi : Int} (h0 : ¬ x = k0) (h1 : ¬ x = k1) (h2 : ¬ x = k2) (h3 : ¬ x = k3) (h4 : ¬ x = k4) (h5 : ¬ x = k5) (h6 : ¬ x = k6) (h7 : ¬ x = k7) (hk : hi = lo + 7 ∧ k0.toInt = lo + 0 ∧ k1.toInt = lo + 1 ∧ k2.toInt = lo + 2 ∧ k3.toInt = lo + 3 ∧ k4.toInt = lo + 4 ∧ k5.toInt = lo + 5 ∧ k6.toInt = lo + 6 ∧ k7.toInt = lo + 7) : x.toInt < lo ∨ hi < x.toInt := by
  obtain ⟨hh, e0, e1, e2, e3, e4, e5, e6, e7⟩ := hk
  have q0 := z_ne_toInt h0
  have q1 := z_ne_toInt h1
  have q2 := z_ne_toInt h2
  have q3 := z_ne_toInt h3
  have q4 := z_ne_toInt h4
  have q5 := z_ne_toInt h5
  have q6 := z_ne_toInt h6
  have q7 := z_ne_toInt h7
  rw [e0] at q0
  rw [e1] at q1
  rw [e2] at q2
  rw [e3] at q3
  rw [e4] at q4
  rw [e5] at q5
  rw [e6] at q6
  rw [e7] at q7
  omega
theorem z_tabout_11 {x k0 k1 k2 k3 k4 k5 k6 k7 k8 k9 k10 : Int32} {lo hi : Int} (h0 : ¬ x = k0) (h1 : ¬ x = k1) (h2 : ¬ x = k2) (h3 : ¬ x = k3) (h4 : ¬ x = k4) (h5 : ¬ x = k5) (h6 : ¬ x = k6) (h7 : ¬ x = k7) (h8 : ¬ x = k8) (h9 : ¬ x = k9) (h10 : ¬ x = k10) (hk : hi = lo + 10 ∧ k0.toInt = lo + 0 ∧ k1.toInt = lo + 1 ∧ k2.toInt = lo + 2 ∧ k3.toInt = lo + 3 ∧ k4.toInt = lo + 4 ∧ k5.toInt = lo + 5 ∧ k6.toInt = lo + 6 ∧ k7.toInt = lo + 7 ∧ k8.toInt = lo + 8 ∧ k9.toInt = lo + 9 ∧ k10.toInt = lo + 10) : x.toInt < lo ∨ hi < x.toInt := by
  obtain ⟨hh, e0, e1, e2, e3, e4, e5, e6, e7, e8, e9, e10⟩ := hk
  have q0 := z_ne_toInt h0
  have q1 := z_ne_toInt h1
  have q2 := z_ne_toInt h2
  have q3 := z_ne_toInt h3
  have q4 := z_ne_toInt h4
  have q5 := z_ne_toInt h5
  have q6 := z_ne_toInt h6
  have q7 := z_ne_toInt h7
  have q8 := z_ne_toInt h8
  have q9 := z_ne_toInt h9
  have q10 := z_ne_toInt h10
  rw [e0] at q0
  rw [e1] at q1
  rw [e2] at q2
  rw [e3] at q3
  rw [e4] at q4
  rw [e5] at q5
  rw [e6] at q6
  rw [e7] at q7
  rw [e8] at q8
  rw [e9] at q9
  rw [e10] at q10
  omega
/-- a method's start over a world, and its end: the world ws' -/
def zPre (D : va_G) (tys : List (ClassId × FieldType)) (ws : va_W) (av : List Value) (sz : Nat) : Array Value → State → Prop := va_Pc av (fun U => U.heap.size = sz ∧ va_P D vwCl ws U.heap ∧ va_K D vwCl tys U ∧ va_D (fun _ => True) ws)
def zB (D : va_G) (tys : List (ClassId × FieldType)) (A : Nat → Prop) (ws' : va_W) (t : State) : Prop := va_P D vwCl ws' t.heap ∧ va_K D vwCl tys t ∧ va_D A ws'
/-- a method that makes nothing: it answers res, the world is ws' then -/
def zMi (l : Launch) (y : MethodName) (cc : ByteArray) (maxL : Nat) (ret : Option FieldType) (rm : Room) (D : va_G) (tys : List (ClassId × FieldType)) (ws : va_W) (av : List Value) (res : Int32) (ws' : va_W) : Prop :=
  ∀ sz : Nat, Met l y (zTs y cc maxL ret) rm (zPre D tys ws av sz) (va_Qi (fun (r : Int32) (_ : Unit) => r = res) (fun _ t => zB D tys (va_A ws sz) ws' t) (va_A ws sz)) 0 0 (va_A ws sz)
def zMv (l : Launch) (y : MethodName) (cc : ByteArray) (maxL : Nat) (ret : Option FieldType) (rm : Room) (D : va_G) (tys : List (ClassId × FieldType)) (ws : va_W) (av : List Value) (ws' : va_W) : Prop :=
  ∀ sz : Nat, Met l y (zTs y cc maxL ret) rm (zPre D tys ws av sz) (va_Qv (fun (_ : Unit) => True) (fun _ t => zB D tys (va_A ws sz) ws' t) (va_A ws sz)) 0 0 (va_A ws sz)
theorem zPre_blind (D : va_G) (tys : List (ClassId × FieldType)) (ws : va_W) (av : List Value) (sz : Nat) : FrameBlind (zPre D tys ws av sz) := fun a U g mk q => by
  obtain ⟨q0, q1, qP, qK, qD⟩ := q
  exact ⟨q0, q1, qP, va_K.moved (u := U) (U := U.calling g mk a) (Vm.Alike.refl U.vm) qK, qD⟩
theorem z_free {A0 : Nat → Prop} {ws : va_W} {H0 H : Heap} {locs : List Loc} (hD : va_D A0 ws) (hS : va_S A0 H0 H locs) (hA : ∀ q, H0.size ≤ q → A0 q) : ∀ q, va_A ws H.size q → A0 q := by
  intro q h
  rcases h with ⟨k, e, h⟩ | h
  · exact hD.2 k (q, e) h
  · exact hA q (Nat.le_trans hS.1 h)
/-- from the walk of the body to the contract -/
theorem zMi.of {l : Launch} {y : MethodName} {rm : Room} {D : va_G} {tys : List (ClassId × FieldType)} {ws ws' : va_W} {av : List Value} {res : Int32} {cc : ByteArray} {maxL : Nat} {ret : Option FieldType}
    (hy : plainName y.cls = true) (hav : (lg_sl av).length ≤ maxL)
    (body : ∀ (p : Program) (e : Env) (s : State) (m : MethodId) (below : List Frame) (meth : Method) (c : Code) (A : Nat → Prop), zC p s m av.toArray meth c cc maxL y.cls D tys A → meth.sig.returnType = ret →
      zG p l e rm s m av.toArray below meth c maxL D A 0 0 (MQ below (va_Qi (fun (r : Int32) (_ : Unit) => r = res) (fun _ t => zB D tys A ws' t) A) av.toArray s 0 0 A) ws 0 (lv_args 0 av) []) : zMi l y cc maxL ret rm D tys ws av res ws' := by
  intro sz
  refine Met.ofW (cc := cc) (maxL := maxL) (ret := ret) (ws' := zAll) hy rfl ?_
  intro p e s m args below meth c s₁ B hml hv
  obtain ⟨rfl, hsz, hP, hK, hD0⟩ := hv
  subst hsz
  have hl := lv_entry av (n := maxL) hav
  rw [lg_entry_eq]
  refine body p e s m below meth c (va_A ws s.heap.size) ⟨B.exec, B.bytes, hml, findClass_of_methodNamed B.named, fun w hw => atoms_spec (ws := zTs y cc maxL ret) B.pre w (List.mem_cons_of_mem _ hw), hK, fun q h => Or.inr h, B.notSynchronized⟩ B.returns s.heap [] _ hP (hD0.self (sz := s.heap.size)) va_S.rf hl
theorem zMv.of {l : Launch} {y : MethodName} {rm : Room} {D : va_G} {tys : List (ClassId × FieldType)} {ws ws' : va_W} {av : List Value} {cc : ByteArray} {maxL : Nat} {ret : Option FieldType}
    (hy : plainName y.cls = true) (hav : (lg_sl av).length ≤ maxL)
    (body : ∀ (p : Program) (e : Env) (s : State) (m : MethodId) (below : List Frame) (meth : Method) (c : Code) (A : Nat → Prop), zC p s m av.toArray meth c cc maxL y.cls D tys A → meth.sig.returnType = ret →
      zG p l e rm s m av.toArray below meth c maxL D A 0 0 (MQ below (va_Qv (fun (_ : Unit) => True) (fun _ t => zB D tys A ws' t) A) av.toArray s 0 0 A) ws 0 (lv_args 0 av) []) : zMv l y cc maxL ret rm D tys ws av ws' := by
  intro sz
  refine Met.ofW (cc := cc) (maxL := maxL) (ret := ret) (ws' := zAll) hy rfl ?_
  intro p e s m args below meth c s₁ B hml hv
  obtain ⟨rfl, hsz, hP, hK, hD0⟩ := hv
  subst hsz
  have hl := lv_entry av (n := maxL) hav
  rw [lg_entry_eq]
  refine body p e s m below meth c (va_A ws s.heap.size) ⟨B.exec, B.bytes, hml, findClass_of_methodNamed B.named, fun w hw => atoms_spec (ws := zTs y cc maxL ret) B.pre w (List.mem_cons_of_mem _ hw), hK, fun q h => Or.inr h, B.notSynchronized⟩ B.returns s.heap [] _ hP (hD0.self (sz := s.heap.size)) va_S.rf hl
section ZROWS
variable {p : Program} {l : Launch} {e : Env} {R : Room} {s : State} {m : MethodId} {args : Array Value} {below : List Frame} {meth : Method} {c : Code} {cc : ByteArray} {nL : Nat} {own : String} {D : va_G} {tys : List (ClassId × FieldType)} {A : Nat → Prop} {cells slots : Nat} {Q : State → Prop} {ws : va_W} {pc : Nat} {L : List (Nat × Value)} {st : List Value}
theorem g_iret {v : Int32} {ty : FieldType} {A2 : Nat → Prop} (hA2 : A2 = A) (C : zC p s m args meth c cc nL own D tys A) (hr : meth.sig.returnType = some ty) (hn : narrow ty (.int v) = .int v) (hdg : decode cc pc = .ok (.ireturn, 1)) :
    zG p l e R s m args below meth c nL D A cells slots (MQ below (va_Qi (fun (r : Int32) (_ : Unit) => r = v) (fun _ t => zB D tys A2 ws t) A2) args s cells slots A2) ws pc L [.int v] := by
  subst hA2
  obtain ⟨hx, hb, hml, hown, hts, hK, hA, hlk⟩ := C
  intro H locs ls hP hD hS hl9
  exact W.zret hx hb hr hn (fun t ht hW => ⟨⟨v, (), rfl, rfl, by rw [ht]; exact hP, va_K.moved hW.alike hK, hD⟩, hS.F ht⟩) hS.2.2 hdg hlk
theorem g_vret {A2 : Nat → Prop} (hA2 : A2 = A) (C : zC p s m args meth c cc nL own D tys A) (hr : meth.sig.returnType = none) (hdg : decode cc pc = .ok (.return_, 1)) :
    zG p l e R s m args below meth c nL D A cells slots (MQ below (va_Qv (fun (_ : Unit) => True) (fun _ t => zB D tys A2 ws t) A2) args s cells slots A2) ws pc L [] := by
  subst hA2
  obtain ⟨hx, hb, hml, hown, hts, hK, hA, hlk⟩ := C
  intro H locs ls hP hD hS hl9
  exact W.vret hx hb hr (fun t ht hW => ⟨⟨(), rfl, trivial, by rw [ht]; exact hP, va_K.moved hW.alike hK, hD⟩, hS.F ht⟩) hS.2.2 hdg hlk
variable {index n maxL : Nat} {y : MethodName} {rm : Room} {As rest : List Value} {a : Nat} {res : Int32} {ws' : va_W} {bytes : ByteArray} {ret : Option FieldType} {C0 : String}
theorem g_vi (C : zC p s m args meth c cc nL own D tys A) (hM : zMi l y bytes maxL ret rm D tys ws (.ref a :: As) res ws') {q0 ci : Nat} {T : u_T} {N : Nat} {fs : List Value} (hlk9 : Cond.methodLink own index y ∈ zAll) (hcal : zCalV C0 y bytes maxL ret n) (hq : ws[q0]? = some (a, .inr (ci, fs))) (hc : vwCl[ci]? = some (C0, T, N)) (hrc : rm.cells = 0) (hrs : rm.slots = 0) (hR : rm.frames + 1 ≤ R.frames ∧ 8 + (maxL + 11) + rm.locals ≤ R.locals) (hn : As.length = n) (hst : st = As.reverse ++ .ref a :: rest) (h8 : (rest.map fun v => v.category).sum ≤ 8) (hf : cells ≤ R.cells ∧ slots ≤ R.slots) (hdg : decode cc pc = .ok (.invokevirtual index, 3))
    (kk : zG p l e R s m args below meth c nL D A cells slots Q ws' (pc + 3) L (.int res :: rest)) : zG p l e R s m args below meth c nL D A cells slots Q ws pc L st := by
  obtain ⟨hx, hb, hml, hown, hts, hK, hA, hlk⟩ := C
  intro H locs ls hP hD hS hl9
  subst hst
  refine va_calli (va_runV (As := As) (rest := rest) ⟨hx, hb, hml, hown, hts⟩ (hM H.size) (cwV n hts (z_goV hlk9 hcal) rfl hrc hrs hcal.2.2.2.2 hR) ⟨zPre_blind D tys ws _ _, va_recv hK hP hc hq, fun U hU hW => ⟨rfl, by rw [hU], by rw [hU]; exact hP, va_K.moved hW.alike hK, hD.weaken (fun _ _ _ _ => trivial)⟩⟩ rfl hn hl9.1 rfl (lv_room h8) hdg hf) hS (fun q _ hq9 => z_free hD hS hA q hq9) (z_free hD hS hA) (fun r u t H1 locs1 ht hvm hw9 hB hz hk1 hS1 => ?_)
  obtain ⟨hP1, hK1, hD1⟩ := hB
  subst hw9
  rw [ht] at hP1
  exact kk H1 locs1 ls hP1 (hD1.weaken (fun _ q _ hq9 => z_free hD hS hA q.1 hq9)) hS1 hl9
theorem g_vv (C : zC p s m args meth c cc nL own D tys A) (hM : zMv l y bytes maxL ret rm D tys ws (.ref a :: As) ws') {q0 ci : Nat} {T : u_T} {N : Nat} {fs : List Value} (hlk9 : Cond.methodLink own index y ∈ zAll) (hcal : zCalV C0 y bytes maxL ret n) (hq : ws[q0]? = some (a, .inr (ci, fs))) (hc : vwCl[ci]? = some (C0, T, N)) (hrc : rm.cells = 0) (hrs : rm.slots = 0) (hR : rm.frames + 1 ≤ R.frames ∧ 8 + (maxL + 11) + rm.locals ≤ R.locals) (hn : As.length = n) (hst : st = As.reverse ++ .ref a :: rest) (h8 : (rest.map fun v => v.category).sum ≤ 8) (hf : cells ≤ R.cells ∧ slots ≤ R.slots) (hdg : decode cc pc = .ok (.invokevirtual index, 3))
    (kk : zG p l e R s m args below meth c nL D A cells slots Q ws' (pc + 3) L rest) : zG p l e R s m args below meth c nL D A cells slots Q ws pc L st := by
  obtain ⟨hx, hb, hml, hown, hts, hK, hA, hlk⟩ := C
  intro H locs ls hP hD hS hl9
  subst hst
  refine va_callv (va_runV (As := As) (rest := rest) ⟨hx, hb, hml, hown, hts⟩ (hM H.size) (cwV n hts (z_goV hlk9 hcal) rfl hrc hrs hcal.2.2.2.2 hR) ⟨zPre_blind D tys ws _ _, va_recv hK hP hc hq, fun U hU hW => ⟨rfl, by rw [hU], by rw [hU]; exact hP, va_K.moved hW.alike hK, hD.weaken (fun _ _ _ _ => trivial)⟩⟩ rfl hn hl9.1 rfl (lv_room h8) hdg hf) hS (fun q _ hq9 => z_free hD hS hA q hq9) (z_free hD hS hA) (fun u t H1 locs1 ht hvm hw9 hB hz hk1 hS1 => ?_)
  obtain ⟨hP1, hK1, hD1⟩ := hB
  skip
  rw [ht] at hP1
  exact kk H1 locs1 ls hP1 (hD1.weaken (fun _ q _ hq9 => z_free hD hS hA q.1 hq9)) hS1 hl9
theorem g_si (C : zC p s m args meth c cc nL own D tys A) (hM : zMi l y bytes maxL ret rm D tys ws As res ws') (hlk9 : Cond.methodLink own index y ∈ zAll) (hcal : zCalS y bytes maxL ret n) (hrc : rm.cells = 0) (hrs : rm.slots = 0) (hR : rm.frames + 1 ≤ R.frames ∧ 8 + (maxL + 11) + rm.locals ≤ R.locals) (hn : As.length = n) (hst : st = As.reverse ++ rest) (h8 : (rest.map fun v => v.category).sum ≤ 8) (hf : cells ≤ R.cells ∧ slots ≤ R.slots) (hdg : decode cc pc = .ok (.invokestatic index, 3))
    (kk : zG p l e R s m args below meth c nL D A cells slots Q ws' (pc + 3) L (.int res :: rest)) : zG p l e R s m args below meth c nL D A cells slots Q ws pc L st := by
  obtain ⟨hx, hb, hml, hown, hts, hK, hA, hlk⟩ := C
  intro H locs ls hP hD hS hl9
  subst hst
  refine va_calli (va_runS (As := As) (rest := rest) ⟨hx, hb, hml, hown, hts⟩ (hM H.size) (va_cwS n hts (z_goS hlk9 hcal) rfl hrc hrs hcal.2.2.2 hR) ⟨zPre_blind D tys ws _ _, fun U hU hW => ⟨rfl, by rw [hU], by rw [hU]; exact hP, va_K.moved hW.alike hK, hD.weaken (fun _ _ _ _ => trivial)⟩⟩ rfl hn hl9.1 rfl (lv_room h8) hdg hf) hS (fun q _ hq9 => z_free hD hS hA q hq9) (z_free hD hS hA) (fun r u t H1 locs1 ht hvm hw9 hB hz hk1 hS1 => ?_)
  obtain ⟨hP1, hK1, hD1⟩ := hB
  subst hw9
  rw [ht] at hP1
  exact kk H1 locs1 ls hP1 (hD1.weaken (fun _ q _ hq9 => z_free hD hS hA q.1 hq9)) hS1 hl9
theorem g_sv (C : zC p s m args meth c cc nL own D tys A) (hM : zMv l y bytes maxL ret rm D tys ws As ws') (hlk9 : Cond.methodLink own index y ∈ zAll) (hcal : zCalS y bytes maxL ret n) (hrc : rm.cells = 0) (hrs : rm.slots = 0) (hR : rm.frames + 1 ≤ R.frames ∧ 8 + (maxL + 11) + rm.locals ≤ R.locals) (hn : As.length = n) (hst : st = As.reverse ++ rest) (h8 : (rest.map fun v => v.category).sum ≤ 8) (hf : cells ≤ R.cells ∧ slots ≤ R.slots) (hdg : decode cc pc = .ok (.invokestatic index, 3))
    (kk : zG p l e R s m args below meth c nL D A cells slots Q ws' (pc + 3) L rest) : zG p l e R s m args below meth c nL D A cells slots Q ws pc L st := by
  obtain ⟨hx, hb, hml, hown, hts, hK, hA, hlk⟩ := C
  intro H locs ls hP hD hS hl9
  subst hst
  refine va_callv (va_runS (As := As) (rest := rest) ⟨hx, hb, hml, hown, hts⟩ (hM H.size) (va_cwS n hts (z_goS hlk9 hcal) rfl hrc hrs hcal.2.2.2 hR) ⟨zPre_blind D tys ws _ _, fun U hU hW => ⟨rfl, by rw [hU], by rw [hU]; exact hP, va_K.moved hW.alike hK, hD.weaken (fun _ _ _ _ => trivial)⟩⟩ rfl hn hl9.1 rfl (lv_room h8) hdg hf) hS (fun q _ hq9 => z_free hD hS hA q hq9) (z_free hD hS hA) (fun u t H1 locs1 ht hvm hw9 hB hz hk1 hS1 => ?_)
  obtain ⟨hP1, hK1, hD1⟩ := hB
  skip
  rw [ht] at hP1
  exact kk H1 locs1 ls hP1 (hD1.weaken (fun _ q _ hq9 => z_free hD hS hA q.1 hq9)) hS1 hl9
end ZROWS
