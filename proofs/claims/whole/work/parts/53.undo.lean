/-- what a call must do on both sides -/
def zSim (X Y : Nat → Nat → Int32) (K : Nat → Nat) (f : Option (Nat × Int32 × (Nat → Nat → Int32))) (g : Option (Int32 × (Nat → Nat → Int32))) : Prop :=
  ∃ (c : Nat) (v b : Int32) (X' Y' : Nat → Nat → Int32) (a' : Nat → Nat), f = some (c, v, X') ∧ g = some (b, Y') ∧ Y' 0 0 = nI (K c) ∧ (c = 0 → v = b) ∧ zInv 0 X' Y' a' ∧ zTxt Y Y'
theorem zSim.mk {X Y : Nat → Nat → Int32} {K : Nat → Nat} {f : Option (Nat × Int32 × (Nat → Nat → Int32))} {g : Option (Int32 × (Nat → Nat → Int32))} (c : Nat) (v b : Int32) (X' Y' : Nat → Nat → Int32) (a' : Nat → Nat) (h1 : f = some (c, v, X')) (h2 : g = some (b, Y')) (h3 : Y' 0 0 = nI (K c)) (h4 : c = 0 → v = b) (h5 : zInv 0 X' Y' a') (h6 : zTxt Y Y') : zSim X Y K f g := ⟨c, v, b, X', Y', a', h1, h2, h3, h4, h5, h6⟩
theorem FY.u0 (Y : Nat → Nat → Int32) (v : Int32) : FY Y (zU Y 0 0 v) := ⟨fun r hr => zU_r _ _ _ _ (by omega), fun k h1 _ => zU_k _ _ _ _ (by omega)⟩
theorem RM.u0 {Y : Nat → Nat → Int32} {a : Nat → Nat} (h : RM (Y 1) a) (k : Nat) (v : Int32) : RM (zU Y 0 k v 1) a := by rw [zU_r _ _ _ _ (by decide)]; exact h
theorem zInv.u0 {q : Nat} {X Y : Nat → Nat → Int32} {a : Nat → Nat} (h : zInv q X Y a) (v : Int32) : zInv q X (zU Y 0 0 v) a := h.fr h.1 (h.2.1.u0 0 v) h.2.2.1 (FX.rf X) h.con (FY.u0 Y v)
theorem zSimR.up {X Y : Nat → Nat → Int32} {K : Nat → Nat} {a : Nat → Nat} {f : Option (Nat × Int32 × (Nat → Nat → Int32))} {g : Option (Int32 × (Nat → Nat → Int32))} (hI : zInv 0 X Y a) (h : zSimR X Y K f g) : zSim X Y K f g := by
  obtain ⟨c, v, b, e1, e2, e3⟩ := h
  exact ⟨c, v, b, X, _, a, e1, e2, zU_s _ _ _ _, e3, hI.u0 _, (FY.u0 Y _).txt⟩
/-- a fault on both sides -/
theorem zSim.no {X Y X' Y' : Nat → Nat → Int32} {K : Nat → Nat} {a : Nat → Nat} {c k : Nat} {v : Int32} (hI : zInv 0 X' Y' a) (hT : zTxt Y Y') (hc : c ≠ 0) (hK : K c = k) : zSim X Y K (some (c, v, X')) (some ((f_X6_fails Y' (nI k)).1, (f_X6_fails Y' (nI k)).2)) :=
  ⟨c, v, nI 0, X', _, a, rfl, rfl, by rw [hK]; exact zU_s Y' 0 0 (nI k), fun q => absurd q hc, hI.u0 _, hT.tr (FY.u0 _ _).txt⟩
/-- an answer on both sides -/
theorem zSim.ok {X Y X' Y' : Nat → Nat → Int32} {K : Nat → Nat} {a : Nat → Nat} {v b : Int32} (hI : zInv 0 X' Y' a) (hT : zTxt Y Y') (hK : K 0 = 0) (hv : v = b) : zSim X Y K (some (0, v, X')) (some ((f_X6_done Y' b).1, (f_X6_done Y' b).2)) :=
  ⟨0, v, b, X', _, a, rfl, rfl, by rw [hK]; exact zU_s Y' 0 0 (nI 0), fun _ => hv, hI.u0 _, hT.tr (FY.u0 _ _).txt⟩
def K2 (c : Nat) : Nat := match c with
  | 0 => 0
  | _ => 1
theorem sl_back {s n i : Nat} (h0 : 0 < n) (hn : n ≤ 8) (hs : s ≤ 8) (hi : i < n - 1) : sl (if s = 0 then 8 else s - 1) (n - 1) i = sl s n i := by
  unfold sl
  split <;> omega
theorem sl_last {s n : Nat} (h0 : 0 < n) (hn : n ≤ 8) (hs : s ≤ 8) : sl s n (n - 1) = 29 + 13 * (if s = 0 then 8 else s - 1) := by
  unfold sl
  split <;> omega
theorem zlet_eq {α β : Type} (v : α) (f : α → β) : zlet v f = f v := rfl
theorem n_bring {X : Nat → Nat → Int32} {t : Nat} {b : Nat → Nat} (ht : t ≤ 8) (x1 : X 27 1 = nI t) (hb : zRB X (29 + 13 * t) b) (hG : Gd b) (hC : zCon X 1) :
    zRB (f_X0_bringSpareBack X) 1 b ∧ (∀ r, r < 1 ∨ 13 < r → f_X0_bringSpareBack X r = X r) := by
  have cp := n_copyFrom (b := 1) (b2 := 29 + 13 * t) hb hG hC (by omega)
  have e : f_X0_bringSpareBack X = f_X3_copyFrom X 1 (29 + 13 * t) := by
    unfold f_X0_bringSpareBack
    rw [x1, if_neg (nI_pos (by omega)), if_neg (nI_ge (by omega) (by omega)), nI_clamp (by omega), zlet_eq]
  rw [e]
  exact ⟨cp.1, fun r q1 => cp.2.1 r (by omega)⟩
theorem n_back (X : Nat → Nat → Int32) {n s : Nat} (hn : X 27 2 = nI n) (hs : X 27 1 = nI s) (h0 : 0 < n) (hs8 : s ≤ 8) :
    f_X0_stepBack X = f_X0_bringSpareBack (zU (zU X 27 1 (nI (if s = 0 then 8 else s - 1))) 27 2 (nI (n - 1))) := by
  have e : ∀ t, (zU X 27 1 (nI t) 27 2) - nI 1 = nI (n - 1) := fun t => by rw [zU_k _ _ _ _ (by decide), hn, pk_sub h0]
  unfold f_X0_stepBack
  simp only [zlet_eq]
  rw [hs]
  by_cases c : s = 0
  · rw [if_pos c, if_pos (show nI s ≤ 0 by rw [c]; decide), show nI 9 - nI 1 = nI 8 from pk_sub (by decide), e]
  · rw [if_neg c, if_neg (show ¬ nI s ≤ 0 by rw [Int32.le_iff_toInt_le, nI_toInt (by omega), Int32.toInt_zero]; omega), pk_sub (by omega), e]
theorem n_stepBack {X : Nat → Nat → Int32} {n s : Nat} {b : Nat → Nat} (hn : X 27 2 = nI n) (hs : X 27 1 = nI s) (h0 : 0 < n) (hs8 : s ≤ 8) {t : Nat} (ht : t = if s = 0 then 8 else s - 1) (hb : zRB X (29 + 13 * t) b) (hG : Gd b) (hC : zCon X 1) :
    zRB (f_X0_stepBack X) 1 b ∧ (∀ r, (r < 1 ∨ 13 < r) → r ≠ 27 → f_X0_stepBack X r = X r) ∧ f_X0_stepBack X 27 2 = nI (n - 1) ∧ f_X0_stepBack X 27 1 = nI t := by
  have ht8 : t ≤ 8 := by rw [ht]; split <;> omega
  rw [n_back X hn hs h0 hs8, ← ht]
  generalize eZ : zU (zU X 27 1 (nI t)) 27 2 (nI (n - 1)) = Z
  have z1 : Z 27 1 = nI t := by rw [← eZ, zU_k _ _ _ _ (by decide), zU_s]
  have z2 : Z 27 2 = nI (n - 1) := by rw [← eZ, zU_s]
  have zr : ∀ r, r ≠ 27 → Z r = X r := fun r hr => by rw [← eZ, zU_r _ _ _ _ hr, zU_r _ _ _ _ hr]
  obtain ⟨p1, p2⟩ := n_bring ht8 z1 (zRB_cong (fun r q1 q2 => zr r (by omega)) hb) hG (zCon_cong (fun r q1 q2 => zr r (by omega)) hC)
  exact ⟨p1, fun r q1 q2 => by rw [p2 r q1, zr r q2], by rw [p2 27 (by omega)]; exact z2, by rw [p2 27 (by omega)]; exact z1⟩
