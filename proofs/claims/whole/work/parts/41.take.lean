section TA
variable {X Y : Nat → Nat → Int32} {a : Nat → Nat}
/-- the rules' table as takeUp leaves it -/
def oFul (X : Nat → Nat → Int32) (a : Nat → Nat) (w : Int32) (f d : Nat) : Prop :=
  oCon X ∧ X 146 1 = nI f ∧ X 146 2 = nI d ∧ X 147 3 = nI (othL (isO a w d) 0 (a 4)).length ∧ oTab X a f 0 (othL (isO a w d) 0 (a 4))
theorem n_takeUp (h : zRB X 1 a) (hG : Gd a) (hO : oCon X) (w : Int32) {f d : Nat} (hf : f < 2 ^ 31) (hd : d < 2 ^ 31) :
    ∃ X', f_X2_takeUp X w (nI f) (nI d) = some X' ∧ (∀ r, r ≠ 146 → r ≠ 147 → r ≠ 148 → X' r = X r) ∧ oFul X' a w f d := by
  have h4 := hG.c4
  -- the loop
  have key : ∀ (n s fu : Nat) (l0 : List Nat) (Z : Nat → Nat → Int32), s + n = a 4 → n < fu → zRB Z 1 a → oCon Z → Z 146 1 = nI f → Z 146 2 = nI d → Z 147 3 = nI l0.length → l0.length ≤ s → oTab Z a f 0 l0 →
      ∃ Z', f_X2_takeUp_L28 w (nI (a 10)) fu Z (nI s) = some Z' ∧ (∀ r, r ≠ 147 → r ≠ 148 → Z' r = Z r) ∧ oCon Z' ∧ Z' 147 3 = nI (l0 ++ othL (isO a w d) s n).length ∧ oTab Z' a f 0 (l0 ++ othL (isO a w d) s n) := by
    intro n
    induction n with
    | zero =>
      intro s fu l0 Z hs hfu hB hOZ z1 z2 z3 hl hT
      obtain ⟨fu', rfl, -⟩ := fu_s hfu
      rw [f_X2_takeUp_L28, n_size (n_nS hB), if_pos (nI_le (by omega) (by omega)), othL, List.append_nil]
      exact ⟨Z, rfl, fun _ _ _ => rfl, hOZ, z3, hT⟩
    | succ n ih =>
      intro s fu l0 Z hs hfu hB hOZ z1 z2 z3 hl hT
      obtain ⟨fu', rfl, hf2⟩ := fu_s hfu
      have hx : s < a 4 := by omega
      rw [f_X2_takeUp_L28, n_size (n_nS hB), if_neg (nI_ge hx (by omega)), nI_1, z2, n_isShownOn hB hG hx hd]
      by_cases c1 : nI s = w
      · rw [if_pos c1, othL, if_neg (by simp [isO, c1])]
        exact ih (s + 1) fu' l0 Z (by omega) (hf2 n rfl) hB hOZ z1 z2 z3 (by omega) hT
      · rw [if_neg c1]
        by_cases c2 : shw a s 2 = d ∧ shw a s 8 = 0
        · rw [if_pos c2, if_neg nI_10, othL, if_pos (by simp [isO, c1, c2.1, c2.2])]
          obtain ⟨Z', e, k1, k2, k3, k4, k5⟩ := n_addOther hB hG hOZ hx z1 hf z3 (by omega)
          rw [e, Option.bind_some]
          have hT' : oTab Z' a f 0 (l0 ++ [s]) := by
            rw [oTab_app, Nat.zero_add]
            exact ⟨oTab_keep l0 0 (fun j hj => k4 j (by omega)) hT, k5, trivial⟩
          obtain ⟨Z2, e2, j1, j2, j3, j4⟩ := ih (s + 1) fu' (l0 ++ [s]) Z' (by omega) (hf2 n rfl) (zRB_cong (fun r _ q => k1 r (by omega) (by omega)) hB) k2 (by rw [k1 146 (by decide) (by decide)]; exact z1) (by rw [k1 146 (by decide) (by decide)]; exact z2) (by rw [k3, List.length_append]; rfl) (by rw [List.length_append]; show l0.length + 1 ≤ s + 1; omega) hT'
          rw [List.append_assoc] at j3 j4
          exact ⟨Z2, e2, fun r q1 q2 => by rw [j1 r q1 q2, k1 r q1 q2], j2, j3, j4⟩
        · rw [if_neg c2, if_pos nI_0, othL, if_neg (by simp only [isO, Bool.and_eq_true, decide_eq_true_eq]; exact fun q => c2 ⟨q.1.2, q.2⟩)]
          exact ih (s + 1) fu' l0 Z (by omega) (hf2 n rfl) hB hOZ z1 z2 z3 (by omega) hT
  unfold f_X2_takeUp zlet
  dsimp only
  have hB3 : zRB (zU (zU X 146 1 (nI f)) 146 2 (nI d)) 1 a := zRB_cong (fun r _ q => by rw [zU_r _ _ _ _ (by omega), zU_r _ _ _ _ (by omega)]) h
  have e10 : f_X3_settingOf (zU (zU X 146 1 (nI f)) 146 2 (nI d)) (nI 2) = nI (a 10) := n_set hB3 (by decide)
  rw [e10]
  have eC : f_X4_clear (zU (zU X 146 1 (nI f)) 146 2 (nI d)) 147 210 = zU (zU (zU X 146 1 (nI f)) 146 2 (nI d)) 147 3 (nI 0) := rfl
  rw [eC]
  obtain ⟨Z', e, k1, k2, k3, k4⟩ := key (a 4) 0 zFuel [] (zU (zU (zU X 146 1 (nI f)) 146 2 (nI d)) 147 3 (nI 0)) (Nat.zero_add _) (by show a 4 < 5000; omega)
    (zRB_cong (fun r _ q => zU_r _ _ _ _ (by omega)) hB3)
    ⟨by rw [zU_k _ _ _ _ (by decide), zU_r _ _ _ _ (by decide), zU_r _ _ _ _ (by decide)]; exact hO.1, by rw [zU_k _ _ _ _ (by decide), zU_r _ _ _ _ (by decide), zU_r _ _ _ _ (by decide)]; exact hO.2⟩
    (by rw [zU_r _ _ _ _ (by decide), zU_k _ _ _ _ (by decide), zU_s])
    (by rw [zU_r _ _ _ _ (by decide), zU_s])
    (by rw [zU_s]; rfl) (Nat.le_refl 0) trivial
  refine ⟨Z', e, fun r q0 q1 q2 => ?_, k2, ?_, ?_, k3, k4⟩
  · rw [k1 r q1 q2, zU_r _ _ _ _ q1, zU_r _ _ _ _ q0, zU_r _ _ _ _ q0]
  · rw [k1 146 (by decide) (by decide), zU_r _ _ _ _ (by decide), zU_k _ _ _ _ (by decide), zU_s]
  · rw [k1 146 (by decide) (by decide), zU_r _ _ _ _ (by decide), zU_s]
end TA
def enO (o : Option Nat) : Int32 := match o with
  | none => -1
  | some k => nI k
/-- rule 6: the times meet in the hall -/
def meet6 (a : Nat → Nat) (h st cl s : Nat) : Bool := decide (shw a s 3 < cl) && decide (st < endA a s + clnA a s) && decide (shw a s 0 = h)
/-- rule 8: the ends are too near at the exit -/
def meet8 (a : Nat → Nat) (x en s : Nat) : Bool := decide (hal a (shw a s 0) 2 = x) && decide (endA a s < en + a 8) && decide (en < endA a s + a 8)
/-- how many cover a minute, this one included -/
def cntO (bg fn : Nat → Nat) (L : List Nat) (m : Nat) : Nat := 1 + L.countP (fun s => decide (bg s ≤ m) && decide (m < fn s))
def okm (fd : Option Nat) (m : Nat) : Bool := match fd with
  | none => true
  | some z => decide (m < z)
/-- the first minute at which they are too many, looked for where one begins -/
def crw (cnt : Nat → Nat) (most fr un : Nat) (bg : Nat → Nat) : Option Nat → List Nat → Option Nat
  | fd, [] => fd
  | fd, s :: l => crw cnt most fr un bg (if decide (fr < bg s) && decide (bg s < un) && okm fd (bg s) && decide (most < cnt (bg s)) then some (bg s) else fd) l
def crw0 (cnt : Nat → Nat) (most fr un : Nat) (bg : Nat → Nat) (L : List Nat) : Option Nat := crw cnt most fr un bg (if most < cnt fr then some fr else none) L
