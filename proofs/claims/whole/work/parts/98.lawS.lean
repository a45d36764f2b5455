/-! THE LAW: what holds at the head of its loop -/
def zEl : zEV := fun A U H => zEw A U H ∧ zEm A U H
theorem zEl_ge : zGE zEl := zEw_ge.and zEm_ge
theorem zEw_th (A : Nat → Prop) (U : State) (H : Heap) (h : zEw A U H) : zTh A U H := h.1.2.1
theorem zEw_e5 (A : Nat → Prop) (U : State) (H : Heap) (h : zEw A U H) : zE5 A U H := h.1
abbrev zOut (cy : Nat → ClassId) (ao : Nat) (fo : Nat → Int64) : Nat × va_E := (ao, .inl (cy 4, 1, .inr (.inl fo)))
abbrev zOuD (cy : Nat → ClassId) (aod : Nat) (fd : Nat → UInt64) : Nat × va_E := (aod, .inl (cy 5, 1, .inr (.inr (.inr (.inl fd)))))
/-- what lies beside the class's memory -/
abbrev zLT (cy : Nat → ClassId) (adM : Nat → Nat) (B1 B2 : va_W) (o od : Nat × va_E) (Y : Nat → Nat → Int32) : va_W := B1 ++ (B2 ++ (o :: od :: z_rend cy adM Y 0 shM))
def zLP (n1 k1 n2 k2 : Nat) (f1 f2 : Nat → Int32) (t1 t2 : Nat → Nat) (X Y : Nat → Nat → Int32) (a : Nat → Nat) : Prop := zInv 0 X Y a ∧ (zTIn t1 k1 Y ∧ sb_Lat t1 k1 f1 ∧ sb_Fit f1 ∧ k1 ≤ n1 ∧ n1 ≤ 120) ∧ (zTOut t2 k2 Y ∧ sb_Lat t2 k2 f2 ∧ sb_Fit f2 ∧ k2 ≤ n2 ∧ 16 ≤ n2 ∧ n2 ≤ 1600)
def zLJ (cy : Nat → ClassId) (ad adM : Nat → Nat) (ao aod : Nat) (w : va_W) : Prop := ∃ (v1 n1 k1 : Nat) (z1 : Int32) (f1 : Nat → Int32) (t1 : Nat → Nat) (v2 n2 k2 : Nat) (z2 : Int32) (f2 : Nat → Int32) (t2 : Nat → Nat) (fo : Nat → Int64) (fd : Nat → UInt64) (X Y : Nat → Nat → Int32) (a : Nat → Nat), w = zW cy ad shC (zLT cy adM (tB cy (ad 152) v1 n1 z1 k1 f1) (tB cy (ad 153) v2 n2 z2 k2 f2) (zOut cy ao fo) (zOuD cy aod fd) Y) X ∧ zLP n1 k1 n2 k2 f1 f2 t1 t2 X Y a
theorem zTIn.txt {t : Nat → Nat} {k : Nat} {Y Y' : Nat → Nat → Int32} (h : zTIn t k Y) (h5 : Y' 5 = Y 5) (h11 : Y' 0 11 = Y 0 11) : zTIn t k Y' := ⟨h.1, h11.trans h.2.1, fun j hj => ⟨(h.2.2 j hj).1, by rw [h5]; exact (h.2.2 j hj).2⟩⟩
theorem zTOut.txt {t : Nat → Nat} {k : Nat} {Y Y' : Nat → Nat → Int32} (h : zTOut t k Y) (h6 : Y' 6 = Y 6) (h14 : Y' 0 14 = Y 0 14) : zTOut t k Y' := ⟨h.1, h14.trans h.2.1, fun j hj => ⟨(h.2.2 j hj).1, by rw [h6]; exact (h.2.2 j hj).2⟩⟩
theorem zLP.step {n1 k1 n2 k2 : Nat} {f1 f2 : Nat → Int32} {t1 t2 : Nat → Nat} {X Y X' Y' : Nat → Nat → Int32} {a a' : Nat → Nat} (h : zLP n1 k1 n2 k2 f1 f2 t1 t2 X Y a) (hI : zInv 0 X' Y' a') (hT : zTxt Y Y') : zLP n1 k1 n2 k2 f1 f2 t1 t2 X' Y' a' :=
  ⟨hI, ⟨h.2.1.1.txt hT.1 hT.2.2.1, h.2.1.2⟩, ⟨h.2.2.1.txt hT.2.1 hT.2.2.2, h.2.2.2⟩⟩
-- the world's places
section LW
variable {cy : Nat → ClassId} {ad : Nat → Nat} {X : Nat → Nat → Int32} {q1 v1 n1 k1 q2 v2 n2 k2 : Nat} {z1 z2 : Int32} {f1 f2 : Nat → Int32} {o o' od od' : Nat × va_E} {E : va_W}
theorem zW_at (k : Nat) : (zW cy ad shC E X)[152 + k]? = E[k]? := by
  have hl : (z_rend cy ad X 0 shC).length = 152 := by rw [z_rend_len]; rfl
  rw [zW, List.getElem?_append_right (by omega), hl, Nat.add_sub_cancel_left]
theorem zW_put (k : Nat) (x : Nat × va_E) : (zW cy ad shC E X).set (152 + k) x = zW cy ad shC (E.set k x) X := by
  have hl : (z_rend cy ad X 0 shC).length = 152 := by rw [z_rend_len]; rfl
  rw [zW, zW, List.set_append_right _ _ (by omega), hl, Nat.add_sub_cancel_left]
theorem zLW_o : (zW cy ad shC (tB cy q1 v1 n1 z1 k1 f1 ++ (tB cy q2 v2 n2 z2 k2 f2 ++ (o :: E))) X)[156]? = some o := zW_at 4
theorem zLW_so : (zW cy ad shC (tB cy q1 v1 n1 z1 k1 f1 ++ (tB cy q2 v2 n2 z2 k2 f2 ++ (o :: E))) X).set 156 o' = zW cy ad shC (tB cy q1 v1 n1 z1 k1 f1 ++ (tB cy q2 v2 n2 z2 k2 f2 ++ (o' :: E))) X := zW_put 4 o'
theorem zLW_d : (zW cy ad shC (tB cy q1 v1 n1 z1 k1 f1 ++ (tB cy q2 v2 n2 z2 k2 f2 ++ (o :: od :: E))) X)[157]? = some od := zW_at 5
theorem zLW_sd : (zW cy ad shC (tB cy q1 v1 n1 z1 k1 f1 ++ (tB cy q2 v2 n2 z2 k2 f2 ++ (o :: od :: E))) X).set 157 od' = zW cy ad shC (tB cy q1 v1 n1 z1 k1 f1 ++ (tB cy q2 v2 n2 z2 k2 f2 ++ (o :: od' :: E))) X := zW_put 5 od'
end LW
theorem zpM (C B1 B2 M : va_W) (o od : Nat × va_E) : (M ++ (C ++ (B1 ++ (B2 ++ [o, od])))).Perm (C ++ (B1 ++ (B2 ++ (o :: od :: M)))) := by
  have h := List.perm_append_comm (l₁ := M) (l₂ := C ++ (B1 ++ (B2 ++ [o, od])))
  simpa only [List.append_assoc, List.cons_append, List.nil_append] using h
theorem zpB (C B1 B2 R : va_W) : (C ++ (B2 ++ (B1 ++ R))).Perm (C ++ (B1 ++ (B2 ++ R))) := (zpT B2 B1 R).append_left C
-- the numbers of the exceptions that are caught
theorem kx_12 : ∀ i c, ([1, 2] : List Nat)[i]? = some c → K12 c = i + 1 := fun i c h => match i, h with
  | 0, h => by cases h; rfl
  | 1, h => by cases h; rfl
theorem kx_31 : ∀ i c, ([3, 1] : List Nat)[i]? = some c → K31 c = i + 1 := fun i c h => match i, h with
  | 0, h => by cases h; rfl
  | 1, h => by cases h; rfl
theorem kx_32 : ∀ i c, ([3, 2] : List Nat)[i]? = some c → K31 c = i + 1 := fun i c h => match i, h with
  | 0, h => by cases h; rfl
  | 1, h => by cases h; rfl
theorem kx_3 : ∀ i c, ([3] : List Nat)[i]? = some c → K31 c = i + 1 := fun i c h => match i, h with
  | 0, h => by cases h; rfl
theorem kx_312 : ∀ i c, ([3, 1, 2] : List Nat)[i]? = some c → K312 c = i + 1 := fun i c h => match i, h with
  | 0, h => by cases h; rfl
  | 1, h => by cases h; rfl
  | 2, h => by cases h; rfl
theorem kx_K3 : ∀ i c, ([3, 1, 2] : List Nat)[i]? = some c → K3 c = i + 1 := fun i c h => match i, h with
  | 0, h => by cases h; rfl
  | 1, h => by cases h; rfl
  | 2, h => by cases h; rfl
theorem kx_316 : ∀ i c, ([3, 1, 6] : List Nat)[i]? = some c → K316 c = i + 1 := fun i c h => match i, h with
  | 0, h => by cases h; rfl
  | 1, h => by cases h; rfl
  | 2, h => by cases h; rfl
theorem kx_315 : ∀ i c, ([3, 1, 5] : List Nat)[i]? = some c → K315 c = i + 1 := fun i c h => match i, h with
  | 0, h => by cases h; rfl
  | 1, h => by cases h; rfl
  | 2, h => by cases h; rfl
theorem kx_3125 : ∀ i c, ([3, 1, 2, 5] : List Nat)[i]? = some c → K3125 c = i + 1 := fun i c h => match i, h with
  | 0, h => by cases h; rfl
  | 1, h => by cases h; rfl
  | 2, h => by cases h; rfl
  | 3, h => by cases h; rfl
theorem kx_61 : ∀ i c, ([6, 1] : List Nat)[i]? = some c → K61 c = i + 1 := fun i c h => match i, h with
  | 0, h => by cases h; rfl
  | 1, h => by cases h; rfl
theorem kx_6 : ∀ i c, ([6] : List Nat)[i]? = some c → K61 c = i + 1 := fun i c h => match i, h with
  | 0, h => by cases h; rfl
theorem kx_1 : ∀ i c, ([1] : List Nat)[i]? = some c → K1 c = i + 1 := fun i c h => match i, h with
  | 0, h => by cases h; rfl
theorem kx_K21 : ∀ i c, ([1] : List Nat)[i]? = some c → K2 c = i + 1 := fun i c h => match i, h with
  | 0, h => by cases h; rfl
theorem kx_K22 : ∀ i c, ([2] : List Nat)[i]? = some c → K2 c = i + 1 := fun i c h => match i, h with
  | 0, h => by cases h; rfl
theorem kx_u3 : ∀ i c, ([3] : List Nat)[i]? = some c → Ku c = i + 1 := fun i c h => match i, h with
  | 0, h => by cases h; rfl
theorem kx_u4 : ∀ i c, ([4] : List Nat)[i]? = some c → Ku c = i + 1 := fun i c h => match i, h with
  | 0, h => by cases h; rfl
theorem kx_15 : ∀ i c, ([1, 5] : List Nat)[i]? = some c → K15 c = i + 1 := fun i c h => match i, h with
  | 0, h => by cases h; rfl
  | 1, h => by cases h; rfl
theorem lg_cmp_rf {x y : Int64} (h : x = y) : lg_cmp x y = 0 := (lg_cmp_eq x y).mpr h
theorem updL_0 (f : Nat → Int64) (x : Int64) : vp_updL f 0 x (nI 0).toNatClampNeg = x := by rw [nI_clamp (by decide)]; exact if_pos rfl
theorem nIs_ne0 {i : Nat} (h : i < 2 ^ 31 - 1) : ¬ nI (i + 1) = 0 := by
  rw [← nI_0, nI_eq (by omega) (by decide)]
  omega
theorem getE_lt {cs : List Nat} {i c : Nat} (h : cs[i]? = some c) (hl : cs.length ≤ 9) : i < 2 ^ 31 - 1 := by
  have := (List.getElem?_eq_some_iff.mp h).1
  omega
