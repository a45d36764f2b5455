/-! the other shows of a day, and the class's table of them -/
/-- s is another show than w, on the day d, that stands -/
def isO (a : Nat → Nat) (w : Int32) (d s : Nat) : Bool := decide (¬ nI s = w) && decide (shw a s 2 = d) && decide (shw a s 8 = 0)
def othL (P : Nat → Bool) : Nat → Nat → List Nat
  | _, 0 => []
  | s, n + 1 => if P s = true then s :: othL P (s + 1) n else othL P (s + 1) n
theorem othL_len (P : Nat → Bool) : ∀ (n s : Nat), (othL P s n).length ≤ n
  | 0, s => Nat.le_refl 0
  | n + 1, s => by
    have := othL_len P n (s + 1)
    rw [othL]
    split
    · rw [List.length_cons]; omega
    · omega
theorem othL_mem {P : Nat → Bool} : ∀ {n s x : Nat}, x ∈ othL P s n → P x = true ∧ s ≤ x ∧ x < s + n
  | 0, s, x, h => by cases h
  | n + 1, s, x, h => by
    rw [othL] at h
    by_cases q : P s = true
    · rw [if_pos q] at h
      rcases List.mem_cons.mp h with rfl | h
      · exact ⟨q, Nat.le_refl _, by omega⟩
      · have := othL_mem h; exact ⟨this.1, by omega, by omega⟩
    · rw [if_neg q] at h
      have := othL_mem h; exact ⟨this.1, by omega, by omega⟩
/-- a row k of the table: the show s -/
def oRow (X : Nat → Nat → Int32) (a : Nat → Nat) (f k s : Nat) : Prop :=
  X 148 (k * 7 + 0) = nI s ∧ X 148 (k * 7 + 1) = nI (shw a s 0) ∧ X 148 (k * 7 + 2) = nI (hal a (shw a s 0) 2) ∧ X 148 (k * 7 + 3) = nI (shw a s 3) ∧ X 148 (k * 7 + 4) = nI (endA a s) ∧ X 148 (k * 7 + 5) = nI (endA a s + clnA a s) ∧ X 148 (k * 7 + 6) = nI (if shw a s 1 = f then endA a s + a 10 else shw a s 3)
/-- the table holds the shows of l, from the row k on -/
def oTab (X : Nat → Nat → Int32) (a : Nat → Nat) (f : Nat) : Nat → List Nat → Prop
  | _, [] => True
  | k, s :: l => oRow X a f k s ∧ oTab X a f (k + 1) l
theorem oTab_app {X : Nat → Nat → Int32} {a : Nat → Nat} {f : Nat} : ∀ (l1 l2 : List Nat) (k : Nat), oTab X a f k (l1 ++ l2) ↔ oTab X a f k l1 ∧ oTab X a f (k + l1.length) l2
  | [], l2, k => by simp [oTab]
  | s :: l1, l2, k => by
    rw [List.cons_append, oTab, oTab, oTab_app l1 l2 (k + 1), List.length_cons, and_assoc, show k + 1 + l1.length = k + (l1.length + 1) by omega]
theorem oTab_keep {X X' : Nat → Nat → Int32} {a : Nat → Nat} {f : Nat} : ∀ (l : List Nat) (k : Nat), (∀ j, j < (k + l.length) * 7 → X' 148 j = X 148 j) → oTab X a f k l → oTab X' a f k l
  | [], k, _, _ => trivial
  | s :: l, k, hX, h => by
    rw [List.length_cons] at hX
    obtain ⟨⟨h0, h1, h2, h3, h4, h5, h6⟩, hl⟩ := h
    exact ⟨⟨by rw [hX _ (by omega)]; exact h0, by rw [hX _ (by omega)]; exact h1, by rw [hX _ (by omega)]; exact h2, by rw [hX _ (by omega)]; exact h3, by rw [hX _ (by omega)]; exact h4, by rw [hX _ (by omega)]; exact h5, by rw [hX _ (by omega)]; exact h6⟩, oTab_keep l (k + 1) (fun j hj => hX j (by omega)) hl⟩
/-- the rules' table stands empty or full: its columns, its most rows -/
def oCon (X : Nat → Nat → Int32) : Prop := X 147 1 = nI 7 ∧ X 147 2 = nI 30
section RU
variable {X Y : Nat → Nat → Int32} {a : Nat → Nat}
theorem n_isShownOn (h : zRB X 1 a) (hG : Gd a) {x d : Nat} (hx : x < a 4) (hd : d < 2 ^ 31) : f_X3_isShownOn X (nI x) (nI d) = if shw a x 2 = d ∧ shw a x 8 = 0 then nI 1 else nI 0 := by
  have hS := hG.2.2.2.2 x hx
  unfold f_X3_isShownOn
  rw [n_shw h hG hx (by decide), n_can h hG hx]
  by_cases c : shw a x 2 = d
  · rw [if_pos (by rw [c])]
    by_cases c8 : shw a x 8 = 0
    · rw [if_pos c8, if_pos nI_0, if_pos ⟨c, c8⟩]
    · rw [if_neg c8, if_neg nI_10, if_neg (fun q => c8 q.2)]
  · rw [if_neg (fun q => c ((nI_eq (by omega) hd).mp q)), if_neg (fun q => c q.1)]
theorem n_addOther (h : zRB X 1 a) (hG : Gd a) (hO : oCon X) {x f k : Nat} (hx : x < a 4) (hf : X 146 1 = nI f) (hf2 : f < 2 ^ 31) (hk : X 147 3 = nI k) (hk30 : k < 30) :
    ∃ X', f_X2_addOther X (nI x) (nI (a 10)) = some X' ∧ (∀ r, r ≠ 147 → r ≠ 148 → X' r = X r) ∧ oCon X' ∧ X' 147 3 = nI (k + 1) ∧ (∀ j, j < k * 7 → X' 148 j = X 148 j) ∧ oRow X' a f k x := by
  have hS := hG.2.2.2.2 x hx
  have h1 := hG.c1
  have h2 := hG.c2
  have hcar : a 10 ≤ 60 := hG.1.2.2.2.2.2.2.2.2.2.1
  have har := n_addRow (X := X) (r := 147) (n := 210) hO.1 hO.2 hk hk30 (by decide) (by omega) (by decide)
  generalize hZ : zU (zR X (147 + 1) (zClr (X (147 + 1)) (k * 7) (k * 7 + 7))) 147 3 (nI (k + 1)) = Z at har
  have z1 : Z 147 1 = nI 7 := by rw [← hZ, zU_k _ _ _ _ (by decide), zR_n _ _ (by decide)]; exact hO.1
  have z2 : Z 147 2 = nI 30 := by rw [← hZ, zU_k _ _ _ _ (by decide), zR_n _ _ (by decide)]; exact hO.2
  have z3 : Z 147 3 = nI (k + 1) := by rw [← hZ, zU_s]
  have zr : ∀ r, r ≠ 147 → r ≠ 148 → Z r = X r := fun r q1 q2 => by rw [← hZ, zU_r _ _ _ _ q1, zR_n _ _ q2]
  have zc : ∀ j, j < k * 7 → Z 148 j = X 148 j := fun j hj => by
    rw [← hZ, zU_r _ _ _ _ (by decide), zR_s]
    exact if_neg (by omega)
  -- a put into the row k
  have pu : ∀ (W : Nat → Nat → Int32) (i : Nat) (v : Int32), W 147 1 = nI 7 → i < 7 → f_X4_put W 147 210 (nI k) (nI i) v = zU W 148 (k * 7 + i) v := fun W i v hW hi => n_put hW (by decide) (by omega) v
  have fin : ∀ (v0 v1 v2 v3 v4 v5 v6 : Int32), ∃ X', X' = zU (zU (zU (zU (zU (zU (zU Z 148 (k * 7 + 0) v0) 148 (k * 7 + 1) v1) 148 (k * 7 + 2) v2) 148 (k * 7 + 3) v3) 148 (k * 7 + 4) v4) 148 (k * 7 + 5) v5) 148 (k * 7 + 6) v6 ∧ (∀ r, r ≠ 147 → r ≠ 148 → X' r = X r) ∧ oCon X' ∧ X' 147 3 = nI (k + 1) ∧ (∀ j, j < k * 7 → X' 148 j = X 148 j) ∧
      X' 148 (k * 7 + 0) = v0 ∧ X' 148 (k * 7 + 1) = v1 ∧ X' 148 (k * 7 + 2) = v2 ∧ X' 148 (k * 7 + 3) = v3 ∧ X' 148 (k * 7 + 4) = v4 ∧ X' 148 (k * 7 + 5) = v5 ∧ X' 148 (k * 7 + 6) = v6 := by
    intro v0 v1 v2 v3 v4 v5 v6
    refine ⟨_, rfl, fun r q1 q2 => ?_, ⟨?_, ?_⟩, ?_, fun j hj => ?_, ?_, ?_, ?_, ?_, ?_, ?_, ?_⟩
    · rw [zU_r _ _ _ _ q2, zU_r _ _ _ _ q2, zU_r _ _ _ _ q2, zU_r _ _ _ _ q2, zU_r _ _ _ _ q2, zU_r _ _ _ _ q2, zU_r _ _ _ _ q2, zr r q1 q2]
    · rw [zU_r _ _ _ _ (by decide), zU_r _ _ _ _ (by decide), zU_r _ _ _ _ (by decide), zU_r _ _ _ _ (by decide), zU_r _ _ _ _ (by decide), zU_r _ _ _ _ (by decide), zU_r _ _ _ _ (by decide), z1]
    · rw [zU_r _ _ _ _ (by decide), zU_r _ _ _ _ (by decide), zU_r _ _ _ _ (by decide), zU_r _ _ _ _ (by decide), zU_r _ _ _ _ (by decide), zU_r _ _ _ _ (by decide), zU_r _ _ _ _ (by decide), z2]
    · rw [zU_r _ _ _ _ (by decide), zU_r _ _ _ _ (by decide), zU_r _ _ _ _ (by decide), zU_r _ _ _ _ (by decide), zU_r _ _ _ _ (by decide), zU_r _ _ _ _ (by decide), zU_r _ _ _ _ (by decide), z3]
    · rw [zU_k _ _ _ _ (by omega), zU_k _ _ _ _ (by omega), zU_k _ _ _ _ (by omega), zU_k _ _ _ _ (by omega), zU_k _ _ _ _ (by omega), zU_k _ _ _ _ (by omega), zU_k _ _ _ _ (by omega), zc j hj]
    · rw [zU_k _ _ _ _ (by omega), zU_k _ _ _ _ (by omega), zU_k _ _ _ _ (by omega), zU_k _ _ _ _ (by omega), zU_k _ _ _ _ (by omega), zU_k _ _ _ _ (by omega), zU_s]
    · rw [zU_k _ _ _ _ (by omega), zU_k _ _ _ _ (by omega), zU_k _ _ _ _ (by omega), zU_k _ _ _ _ (by omega), zU_k _ _ _ _ (by omega), zU_s]
    · rw [zU_k _ _ _ _ (by omega), zU_k _ _ _ _ (by omega), zU_k _ _ _ _ (by omega), zU_k _ _ _ _ (by omega), zU_s]
    · rw [zU_k _ _ _ _ (by omega), zU_k _ _ _ _ (by omega), zU_k _ _ _ _ (by omega), zU_s]
    · rw [zU_k _ _ _ _ (by omega), zU_k _ _ _ _ (by omega), zU_s]
    · rw [zU_k _ _ _ _ (by omega), zU_s]
    · rw [zU_s]
  have hall : ∀ (W : Nat → Nat → Int32), (∀ r, r ≤ 13 → W r = X r) → ∀ i, i < 3 → f_X4_get W 2 24 (nI (shw a x 0)) (nI i) = nI (hal a (shw a x 0) i) := fun W hW i hi => n_hal (zRB_cong (fun r _ q2 => hW r (by omega)) h) hG hS.1 hi
  unfold f_X2_addOther
  rw [n_shw h hG hx (by decide), n_shw h hG hx (by decide), n_shw h hG hx (by decide), n_end h hG hx, hf, har]
  by_cases c : shw a x 1 = f
  · rw [if_pos (by rw [c]), Option.bind_some]
    obtain ⟨X', e, q1, q2, q3, q4, r0, r1, r2, r3, r4, r5, r6⟩ := fin (nI x) (nI (shw a x 0)) (nI (hal a (shw a x 0) 2)) (nI (shw a x 3)) (nI (endA a x)) (nI (endA a x) + nI (hal a (shw a x 0) 1)) (nI (endA a x) + nI (a 10))
    refine ⟨X', ?_, q1, q2, q3, q4, r0, r1, r2, r3, r4, by rw [r5, nI_add]; rfl, by rw [r6, nI_add, if_pos c]⟩
    unfold zlet
    dsimp only
    rw [pu _ 0 _ z1 (by decide), pu _ 1 _ (by rw [zU_r _ _ _ _ (by decide)]; exact z1) (by decide),
      hall _ (fun r hr => by rw [zU_r _ _ _ _ (by omega), zU_r _ _ _ _ (by omega), zr r (by omega) (by omega)]) 2 (by decide),
      pu _ 2 _ (by rw [zU_r _ _ _ _ (by decide), zU_r _ _ _ _ (by decide)]; exact z1) (by decide),
      pu _ 3 _ (by rw [zU_r _ _ _ _ (by decide), zU_r _ _ _ _ (by decide), zU_r _ _ _ _ (by decide)]; exact z1) (by decide),
      pu _ 4 _ (by rw [zU_r _ _ _ _ (by decide), zU_r _ _ _ _ (by decide), zU_r _ _ _ _ (by decide), zU_r _ _ _ _ (by decide)]; exact z1) (by decide),
      hall _ (fun r hr => by rw [zU_r _ _ _ _ (by omega), zU_r _ _ _ _ (by omega), zU_r _ _ _ _ (by omega), zU_r _ _ _ _ (by omega), zU_r _ _ _ _ (by omega), zr r (by omega) (by omega)]) 1 (by decide),
      pu _ 5 _ (by rw [zU_r _ _ _ _ (by decide), zU_r _ _ _ _ (by decide), zU_r _ _ _ _ (by decide), zU_r _ _ _ _ (by decide), zU_r _ _ _ _ (by decide)]; exact z1) (by decide),
      pu _ 6 _ (by rw [zU_r _ _ _ _ (by decide), zU_r _ _ _ _ (by decide), zU_r _ _ _ _ (by decide), zU_r _ _ _ _ (by decide), zU_r _ _ _ _ (by decide), zU_r _ _ _ _ (by decide)]; exact z1) (by decide), e]
  · rw [if_neg (fun q => c ((nI_eq (by omega) hf2).mp q)), Option.bind_some]
    obtain ⟨X', e, q1, q2, q3, q4, r0, r1, r2, r3, r4, r5, r6⟩ := fin (nI x) (nI (shw a x 0)) (nI (hal a (shw a x 0) 2)) (nI (shw a x 3)) (nI (endA a x)) (nI (endA a x) + nI (hal a (shw a x 0) 1)) (nI (shw a x 3))
    refine ⟨X', ?_, q1, q2, q3, q4, r0, r1, r2, r3, r4, by rw [r5, nI_add]; rfl, by rw [r6, if_neg c]⟩
    unfold zlet
    dsimp only
    rw [pu _ 0 _ z1 (by decide), pu _ 1 _ (by rw [zU_r _ _ _ _ (by decide)]; exact z1) (by decide),
      hall _ (fun r hr => by rw [zU_r _ _ _ _ (by omega), zU_r _ _ _ _ (by omega), zr r (by omega) (by omega)]) 2 (by decide),
      pu _ 2 _ (by rw [zU_r _ _ _ _ (by decide), zU_r _ _ _ _ (by decide)]; exact z1) (by decide),
      pu _ 3 _ (by rw [zU_r _ _ _ _ (by decide), zU_r _ _ _ _ (by decide), zU_r _ _ _ _ (by decide)]; exact z1) (by decide),
      pu _ 4 _ (by rw [zU_r _ _ _ _ (by decide), zU_r _ _ _ _ (by decide), zU_r _ _ _ _ (by decide), zU_r _ _ _ _ (by decide)]; exact z1) (by decide),
      hall _ (fun r hr => by rw [zU_r _ _ _ _ (by omega), zU_r _ _ _ _ (by omega), zU_r _ _ _ _ (by omega), zU_r _ _ _ _ (by omega), zU_r _ _ _ _ (by omega), zr r (by omega) (by omega)]) 1 (by decide),
      pu _ 5 _ (by rw [zU_r _ _ _ _ (by decide), zU_r _ _ _ _ (by decide), zU_r _ _ _ _ (by decide), zU_r _ _ _ _ (by decide), zU_r _ _ _ _ (by decide)]; exact z1) (by decide),
      pu _ 6 _ (by rw [zU_r _ _ _ _ (by decide), zU_r _ _ _ _ (by decide), zU_r _ _ _ _ (by decide), zU_r _ _ _ _ (by decide), zU_r _ _ _ _ (by decide), zU_r _ _ _ _ (by decide)]; exact z1) (by decide), e]
end RU
