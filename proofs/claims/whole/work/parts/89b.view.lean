/-! A FAILURE: the class's view b of the reference's state c while the shows of rest are taken out -/
/-- b and c agree but for the states of shows, and the lines -/
def VE (b c : Nat → Nat) : Prop := (∀ j, j < 158 → j ≠ 6 → b j = c j) ∧ ∀ s k, s < 30 → k < 8 → shw b s k = shw c s k
def VW (b c : Nat → Nat) (rest : List Nat) : Prop := VE b c ∧ (∀ s, s < c 4 → (s ∈ rest ↔ shw c s 8 = 2)) ∧ (∀ s, s < c 4 → shw b s 8 = if shw c s 8 = 2 then 1 else shw c s 8) ∧ (∀ s ∈ rest, s < c 4) ∧ b 6 = c 6 + rest.length ∧ (∀ i, i < c 6 → ∀ k, k < 5 → lin b i k = lin c i k) ∧
  ∀ i s, rest[i]? = some s → lin b (c 6 + i) 0 = s ∧ lin b (c 6 + i) 1 = shw c s 3 ∧ lin b (c 6 + i) 2 = 0 ∧ lin b (c 6 + i) 3 = 0 ∧ lin b (c 6 + i) 4 = shw c s 7
/-- what the looks at places need of it -/
def VS (b c : Nat → Nat) : Prop := VE b c ∧ ∀ s, s < c 4 → shw b s 8 = if shw c s 8 = 2 then 1 else shw c s 8
theorem VW.vs {b c : Nat → Nat} {rest : List Nat} (h : VW b c rest) : VS b c := ⟨h.1, h.2.2.1⟩
section VB
variable {b c : Nat → Nat}
theorem VE.lo (h : VE b c) {j : Nat} (hj : j < 158) (h6 : j ≠ 6) : b j = c j := h.1 j hj h6
theorem VE.hal (h : VE b c) {x k : Nat} (hx : x < 6) (hk : k < 4) : hal b x k = hal c x k := h.1 _ (by omega) (by omega)
theorem VE.flm (h : VE b c) {x k : Nat} (hx : x < 8) (hk : k < 8) : flm b x k = flm c x k := h.1 _ (by omega) (by omega)
theorem VE.mi (h : VE b c) {s : Nat} (hs : s < 30) (hf : shw c s 1 < 8) : mins b s = mins c s := by
  unfold mins
  rw [h.2 s 5 hs (by decide), h.2 s 1 hs (by decide), h.flm hf (by decide)]
theorem VE.en (h : VE b c) {s : Nat} (hs : s < 30) (hf : shw c s 1 < 8) : endA b s = endA c s := by
  unfold endA
  rw [h.2 s 3 hs (by decide), h.mi hs hf]
theorem VE.cl (h : VE b c) {s : Nat} (hs : s < 30) (hx : shw c s 0 < 6) : clnA b s = clnA c s := by
  unfold clnA
  rw [h.2 s 0 hs (by decide), h.hal hx (by decide)]
theorem find_cg {p q : Nat → Bool} : ∀ {L : List Nat}, (∀ s ∈ L, p s = q s) → L.find? p = L.find? q
  | [], _ => rfl
  | s :: L, h => by
    rw [List.find?_cons, List.find?_cons, h s List.mem_cons_self, find_cg (fun x hx => h x (List.mem_cons_of_mem _ hx))]
theorem crw_cg {cnt cnt' : Nat → Nat} {most fr un : Nat} {bg bg' : Nat → Nat} : ∀ {L : List Nat} {fd : Option Nat}, (∀ m, cnt m = cnt' m) → (∀ s ∈ L, bg s = bg' s) → crw cnt most fr un bg fd L = crw cnt' most fr un bg' fd L
  | [], fd, _, _ => rfl
  | s :: L, fd, h1, h2 => by
    rw [crw, crw, h2 s List.mem_cons_self, h1, crw_cg h1 (fun x hx => h2 x (List.mem_cons_of_mem _ hx))]
theorem crw0_cg {cnt cnt' : Nat → Nat} {most fr un : Nat} {bg bg' : Nat → Nat} {L : List Nat} (h1 : ∀ m, cnt m = cnt' m) (h2 : ∀ s ∈ L, bg s = bg' s) : crw0 cnt most fr un bg L = crw0 cnt' most fr un bg' L := by
  unfold crw0
  rw [h1, crw_cg h1 h2]
theorem cntO_cg {bg bg' fn fn' : Nat → Nat} {L : List Nat} (h1 : ∀ s ∈ L, bg s = bg' s) (h2 : ∀ s ∈ L, fn s = fn' s) (m : Nat) : cntO bg fn L m = cntO bg' fn' L m := by
  unfold cntO
  congr 1
  refine List.countP_congr (fun s hs => ?_)
  rw [h1 s hs, h2 s hs]
theorem othL_cg {P P' : Nat → Bool} : ∀ (n s : Nat), (∀ x, s ≤ x → x < s + n → P x = P' x) → othL P s n = othL P' s n
  | 0, s, _ => rfl
  | n + 1, s, h => by
    rw [othL, othL, h s (Nat.le_refl s) (by omega), othL_cg n (s + 1) (fun x h1 h2 => h x (by omega) (by omega))]
theorem VS.iso (h : VS b c) (hG : Gd c) {w : Int32} {d s : Nat} (hs : s < c 4) : isO b w d s = isO c w d s := by
  have h4 := hG.c4
  unfold isO
  rw [h.1.2 s 2 (by omega) (by decide)]
  have e : decide (shw b s 8 = 0) = decide (shw c s 8 = 0) := by
    rw [decide_eq_decide, h.2 s hs]
    split <;> omega
  rw [e]
/-- both see the same rules broken -/
theorem VS.bk (h : VS b c) (hG : Gd c) {w : Int32} {f d x st en : Nat} (hx : x < c 1) (hf : f < c 2) (hst : st < 960) : brk b w f d x st en = brk c w f d x st en := by
  have h4 := hG.c4
  have h1 := hG.c1
  have h2 := hG.c2
  have hV := h.1
  have e4 : b 4 = c 4 := hV.lo (by decide) (by decide)
  have eL : othL (isO b w d) 0 (b 4) = othL (isO c w d) 0 (c 4) := by
    rw [e4]
    exact othL_cg (c 4) 0 (fun x _ hx => h.iso hG (by omega))
  have mem : ∀ s ∈ othL (isO c w d) 0 (c 4), s < c 4 := fun s hs => by have := (othL_mem hs).2.2; omega
  have sh : ∀ s ∈ othL (isO c w d) 0 (c 4), shw b s 3 = shw c s 3 ∧ shw b s 0 = shw c s 0 ∧ endA b s = endA c s ∧ clnA b s = clnA c s ∧ shw b s 1 = shw c s 1 ∧ shw c s 0 < 6 := fun s hs => by
    have hs4 := mem s hs
    have hS := hG.2.2.2.2 s hs4
    exact ⟨hV.2 s 3 (by omega) (by decide), hV.2 s 0 (by omega) (by decide), hV.en (by omega) (by omega), hV.cl (by omega) (by omega), hV.2 s 1 (by omega) (by decide), by omega⟩
  unfold brk brkL
  rw [eL, hV.lo (j := 0) (by decide) (by decide), hV.hal (x := x) (k := 3) (by omega) (by decide), hV.flm (x := f) (k := 4) (by omega) (by decide), hV.lo (j := 14 + st / 60) (by omega) (by omega), hV.flm (x := f) (k := 1) (by omega) (by decide), hV.hal (x := x) (k := 1) (by omega) (by decide), hV.flm (x := f) (k := 3) (by omega) (by decide), hV.lo (j := 10) (by decide) (by decide), hV.hal (x := x) (k := 2) (by omega) (by decide), hV.lo (j := 9) (by decide) (by decide)]
  rw [find_cg (p := meet6 b x st (en + hal c x 1)) (q := meet6 c x st (en + hal c x 1)) (fun s hs => by
      obtain ⟨q1, q2, q3, q4, q5, q6⟩ := sh s hs
      unfold meet6
      rw [q1, q2, q3, q4]),
    find_cg (p := meet8 b (hal c x 2) en) (q := meet8 c (hal c x 2) en) (fun s hs => by
      obtain ⟨q1, q2, q3, q4, q5, q6⟩ := sh s hs
      unfold meet8
      rw [q2, q3, hV.hal q6 (by decide), hV.lo (j := 8) (by decide) (by decide)]),
    crw0_cg (cnt := cntO (bg7 b) (fn7 b f) (othL (isO c w d) 0 (c 4))) (cnt' := cntO (bg7 c) (fn7 c f) (othL (isO c w d) 0 (c 4))) (bg := bg7 b) (bg' := bg7 c) (fun m => cntO_cg (fun s hs => (sh s hs).1) (fun s hs => by
      obtain ⟨q1, q2, q3, q4, q5, q6⟩ := sh s hs
      unfold fn7
      rw [q1, q3, q5, hV.lo (j := 10) (by decide) (by decide)]) m) (fun s hs => (sh s hs).1),
    crw0_cg (cnt := cntO (endA b) (fn9 b) (othL (isO c w d) 0 (c 4))) (cnt' := cntO (endA c) (fn9 c) (othL (isO c w d) 0 (c 4))) (bg := endA b) (bg' := endA c) (fun m => cntO_cg (fun s hs => (sh s hs).2.2.1) (fun s hs => by
      obtain ⟨q1, q2, q3, q4, q5, q6⟩ := sh s hs
      unfold fn9
      rw [q3, q4]) m) (fun s hs => (sh s hs).2.2.1)]
end VB
