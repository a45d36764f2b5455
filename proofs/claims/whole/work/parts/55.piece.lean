/-! the state by its pieces -/
def up (a : Nat → Nat) (k n : Nat) : Nat → Nat := fun j => if j = k then n else a j
theorem up_s (a : Nat → Nat) (k n : Nat) : up a k n k = n := if_pos rfl
theorem up_n (a : Nat → Nat) {k n j : Nat} (h : j ≠ k) : up a k n j = a j := if_neg h
def PH (X : Nat → Nat → Int32) (a : Nat → Nat) : Prop := (X 2 1 = nI 4 ∧ X 2 2 = nI 6 ∧ X 2 3 = nI (a 1)) ∧ ∀ h, h < a 1 → (∀ k, k < 3 → X 3 (h * 4 + k) = nI (hal a h k)) ∧ X 3 (h * 4 + 3) = nI (hal a h 3) - 1
def PF (X : Nat → Nat → Int32) (a : Nat → Nat) : Prop := (X 4 1 = nI 12 ∧ X 4 2 = nI 8 ∧ X 4 3 = nI (a 2)) ∧ ∀ f, f < a 2 → (∀ k, k < 5 → X 5 (f * 12 + k) = nI (flm a f k)) ∧ ∀ k, k < 3 → X 5 (f * 12 + (9 + k)) = nI (flm a f (5 + k))
def PT (X : Nat → Nat → Int32) (a : Nat → Nat) : Prop := (X 6 1 = nI 4 ∧ X 6 2 = nI 10 ∧ X 6 3 = nI (a 3)) ∧ ∀ t, t < a 3 → ∀ k, k < 4 → X 7 (t * 4 + k) = nI (trl a t k)
def PSr (X : Nat → Nat → Int32) (a : Nat → Nat) (s : Nat) : Prop := (∀ k, k < 4 → X 9 (s * 12 + k) = nI (shw a s k)) ∧ X 9 (s * 12 + 4) = nI (endA a s) ∧ X 9 (s * 12 + 5) = nI (shw a s 7) ∧ X 9 (s * 12 + 6) = nI (shw a s 4) ∧ X 9 (s * 12 + 7) = nI (shw a s 6) ∧ X 9 (s * 12 + 8) = nI (if shw a s 8 = 0 then 0 else 1) ∧ X 9 (s * 12 + 11) = nI (shw a s 5)
def PS (X : Nat → Nat → Int32) (a : Nat → Nat) : Prop := (X 8 1 = nI 12 ∧ X 8 2 = nI 30 ∧ X 8 3 = nI (a 4)) ∧ ∀ s, s < a 4 → PSr X a s
def PL (X : Nat → Nat → Int32) (a : Nat → Nat) : Prop := (X 10 1 = nI 5 ∧ X 10 2 = nI 30 ∧ X 10 3 = nI (a 6)) ∧ ∀ i, i < a 6 → X 11 (i * 5 + 0) = nI (lin a i 0) ∧ X 11 (i * 5 + 1) = nI (lin a i 1) ∧ X 11 (i * 5 + 2) = nI (lin a i 2) - 1 ∧ X 11 (i * 5 + 3) = nI (lin a i 3) - 1 ∧ X 11 (i * 5 + 4) = nI (lin a i 4)
def PC (X : Nat → Nat → Int32) (a : Nat → Nat) : Prop := X 12 1 = nI 26 ∧ (∀ k, k < 6 → X 13 k = nI (a (8 + k))) ∧ ∀ h, h < 16 → X 13 (10 + h) = nI (a (14 + h))
def P1 (X : Nat → Nat → Int32) (a : Nat → Nat) : Prop := X 1 6 = nI (a 0) ∧ X 1 7 = nI (a 5)
theorem zRB_iff {X : Nat → Nat → Int32} {a : Nat → Nat} : zRB X 1 a ↔ PH X a ∧ PF X a ∧ PT X a ∧ PS X a ∧ PL X a ∧ PC X a ∧ P1 X a ∧ (a 7 = 0 → a 6 = 0) := by
  constructor
  · rintro ⟨⟨r1, r2, r3, r4, r5, r6, r7, r8⟩, pH, pF, pT, pS, pL, pC, pM, p0⟩
    exact ⟨⟨r1, pH⟩, ⟨r2, pF⟩, ⟨r3, pT⟩, ⟨r4, pS⟩, ⟨r5, pL⟩, ⟨r6, pC, pM⟩, ⟨r7, r8⟩, p0⟩
  · rintro ⟨⟨r1, pH⟩, ⟨r2, pF⟩, ⟨r3, pT⟩, ⟨r4, pS⟩, ⟨r5, pL⟩, ⟨r6, pC, pM⟩, ⟨r7, r8⟩, p0⟩
    exact ⟨⟨r1, r2, r3, r4, r5, r6, r7, r8⟩, pH, pF, pT, pS, pL, pC, pM, p0⟩
section PI
variable {X X' : Nat → Nat → Int32} {a a' : Nat → Nat}
theorem hal_cg {h k : Nat} (hh : h < 6) (hk : k < 4) (ha : ∀ j, 30 ≤ j → j < 54 → a' j = a j) : hal a' h k = hal a h k := ha _ (by omega) (by omega)
theorem flm_cg {f k : Nat} (hf : f < 8) (hk : k < 8) (ha : ∀ j, 54 ≤ j → j < 118 → a' j = a j) : flm a' f k = flm a f k := ha _ (by omega) (by omega)
theorem trl_cg {t k : Nat} (ht : t < 10) (hk : k < 4) (ha : ∀ j, 118 ≤ j → j < 158 → a' j = a j) : trl a' t k = trl a t k := ha _ (by omega) (by omega)
theorem shw_cg {s k : Nat} (hs : s < 30) (hk : k < 9) (ha : ∀ j, 158 ≤ j → j < 428 → a' j = a j) : shw a' s k = shw a s k := ha _ (by omega) (by omega)
theorem lin_cg {i k : Nat} (hi : i < 30) (hk : k < 5) (ha : ∀ j, 428 ≤ j → j < 578 → a' j = a j) : lin a' i k = lin a i k := ha _ (by omega) (by omega)
theorem PH.cg (h : PH X a) (hG : Gd a) (h2 : X' 2 = X 2) (h3 : X' 3 = X 3) (h1 : a' 1 = a 1) (ha : ∀ j, 30 ≤ j → j < 54 → a' j = a j) : PH X' a' := by
  have := hG.c1
  unfold PH
  rw [h2, h3, h1]
  refine ⟨h.1, fun x hx => ⟨fun k hk => ?_, ?_⟩⟩
  · rw [hal_cg (by omega) (by omega) ha]; exact (h.2 x hx).1 k hk
  · rw [hal_cg (by omega) (by omega) ha]; exact (h.2 x hx).2
theorem PF.cg (h : PF X a) (hG : Gd a) (h2 : X' 4 = X 4) (h3 : X' 5 = X 5) (h1 : a' 2 = a 2) (ha : ∀ j, 54 ≤ j → j < 118 → a' j = a j) : PF X' a' := by
  have := hG.c2
  unfold PF
  rw [h2, h3, h1]
  refine ⟨h.1, fun x hx => ⟨fun k hk => ?_, fun k hk => ?_⟩⟩
  · rw [flm_cg (by omega) (by omega) ha]; exact (h.2 x hx).1 k hk
  · rw [flm_cg (by omega) (by omega) ha]; exact (h.2 x hx).2 k hk
theorem PT.cg (h : PT X a) (hG : Gd a) (h2 : X' 6 = X 6) (h3 : X' 7 = X 7) (h1 : a' 3 = a 3) (ha : ∀ j, 118 ≤ j → j < 158 → a' j = a j) : PT X' a' := by
  have := hG.c3
  unfold PT
  rw [h2, h3, h1]
  refine ⟨h.1, fun x hx k hk => ?_⟩
  rw [trl_cg (by omega) (by omega) ha]; exact h.2 x hx k hk
theorem endA_cg {s : Nat} (hG : Gd a) (hs : s < a 4) (ha : ∀ j, 158 ≤ j → j < 428 → a' j = a j) (hf : ∀ f, f < a 2 → flm a' f 0 = flm a f 0) : endA a' s = endA a s := by
  have h4 := hG.c4
  unfold endA mins
  rw [shw_cg (by omega) (by decide) ha, shw_cg (by omega) (by decide) ha, shw_cg (by omega) (by decide) ha, hf _ (hG.s1 hs)]
theorem PS.cg (h : PS X a) (hG : Gd a) (h2 : X' 8 = X 8) (h3 : X' 9 = X 9) (h1 : a' 4 = a 4) (ha : ∀ j, 158 ≤ j → j < 428 → a' j = a j) (hf : ∀ f, f < a 2 → flm a' f 0 = flm a f 0) : PS X' a' := by
  have h4 := hG.c4
  unfold PS
  rw [h2, h1]
  refine ⟨h.1, fun x hx => ?_⟩
  have := h.2 x hx
  unfold PSr at this ⊢
  rw [h3, endA_cg hG hx ha hf, shw_cg (by omega) (by decide) ha, shw_cg (by omega) (by decide) ha, shw_cg (by omega) (by decide) ha, shw_cg (by omega) (by decide) ha, shw_cg (by omega) (by decide) ha]
  refine ⟨fun k hk => ?_, this.2⟩
  rw [shw_cg (by omega) (by omega) ha]; exact this.1 k hk
theorem PL.cg (h : PL X a) (hG : Gd a) (h2 : X' 10 = X 10) (h3 : X' 11 = X 11) (h1 : a' 6 = a 6) (ha : ∀ j, 428 ≤ j → j < 578 → a' j = a j) : PL X' a' := by
  have h6 := hG.c6
  unfold PL
  rw [h2, h3, h1]
  refine ⟨h.1, fun x hx => ?_⟩
  rw [lin_cg (by omega) (by decide) ha, lin_cg (by omega) (by decide) ha, lin_cg (by omega) (by decide) ha, lin_cg (by omega) (by decide) ha, lin_cg (by omega) (by decide) ha]
  exact h.2 x hx
theorem PC.cg (h : PC X a) (h2 : X' 12 = X 12) (h3 : X' 13 = X 13) (ha : ∀ j, 8 ≤ j → j < 30 → a' j = a j) : PC X' a' := by
  unfold PC
  rw [h2, h3]
  refine ⟨h.1, fun k hk => ?_, fun k hk => ?_⟩
  · rw [ha _ (by omega) (by omega)]; exact h.2.1 k hk
  · rw [ha _ (by omega) (by omega)]; exact h.2.2 k hk
theorem P1.cg (h : P1 X a) (h2 : X' 1 = X 1) (h0 : a' 0 = a 0) (h5 : a' 5 = a 5) : P1 X' a' := by
  unfold P1
  rw [h2, h0, h5]
  exact h
theorem GdC.cg (h : Gd a) (h1 : a' 1 ≤ 6) (h2 : a' 2 ≤ 8) (h3 : a' 3 ≤ 10) (h4 : a' 4 ≤ 30) (ha : ∀ j, j = 0 ∨ 6 ≤ j → j < 30 → a' j = a j) : GdC a' := by
  have := h.1
  unfold GdC at this ⊢
  rw [ha 0 (by omega) (by decide), ha 6 (by omega) (by decide), ha 7 (by omega) (by decide), ha 8 (by omega) (by decide), ha 9 (by omega) (by decide), ha 10 (by omega) (by decide), ha 11 (by omega) (by decide), ha 12 (by omega) (by decide), ha 13 (by omega) (by decide)]
  obtain ⟨q0, -, -, -, -, q6, q7, q8, q9, q10, q11, q12, q13, q14⟩ := this
  exact ⟨q0, h1, h2, h3, h4, q6, q7, q8, q9, q10, q11, q12, q13, fun h hh => by rw [ha _ (by omega) (by omega)]; exact q14 h hh⟩
theorem GdH.cg (h : Gd a) (h1 : a' 1 = a 1) (ha : ∀ j, 30 ≤ j → j < 54 → a' j = a j) : GdH a' := by
  have h6 := h.c1
  unfold GdH
  rw [h1]
  intro x hx
  rw [hal_cg (by omega) (by decide) ha, hal_cg (by omega) (by decide) ha, hal_cg (by omega) (by decide) ha, hal_cg (by omega) (by decide) ha]
  exact h.2.1 x hx
theorem GdF.cg (h : Gd a) (h1 : a' 2 = a 2) (ha : ∀ j, 54 ≤ j → j < 118 → a' j = a j) : GdF a' := by
  have h6 := h.c2
  unfold GdF
  rw [h1]
  intro x hx
  rw [flm_cg (by omega) (by decide) ha, flm_cg (by omega) (by decide) ha, flm_cg (by omega) (by decide) ha, flm_cg (by omega) (by decide) ha, flm_cg (by omega) (by decide) ha, flm_cg (by omega) (by decide) ha, flm_cg (by omega) (by decide) ha, flm_cg (by omega) (by decide) ha]
  exact h.2.2.1 x hx
theorem GdT.cg (h : Gd a) (h1 : a' 3 = a 3) (h2 : a 2 ≤ a' 2) (ha : ∀ j, 118 ≤ j → j < 158 → a' j = a j) : GdT a' := by
  have h6 := h.c3
  unfold GdT
  rw [h1]
  intro x hx
  rw [trl_cg (by omega) (by decide) ha, trl_cg (by omega) (by decide) ha, trl_cg (by omega) (by decide) ha, trl_cg (by omega) (by decide) ha]
  have := h.2.2.2.1 x hx
  exact ⟨by omega, this.2⟩
theorem GdS.cg (h : Gd a) (h1 : a 1 ≤ a' 1) (h2 : a 2 ≤ a' 2) (h4 : a' 4 = a 4) (ha : ∀ j, 158 ≤ j → j < 428 → a' j = a j) (hf : ∀ f, f < a 2 → flm a' f 0 = flm a f 0 ∧ flm a' f 4 = flm a f 4) : GdS a' := by
  have h30 := h.c4
  unfold GdS
  rw [h4]
  intro x hx
  rw [endA_cg h hx ha (fun f q => (hf f q).1), shw_cg (by omega) (by decide) ha, shw_cg (by omega) (by decide) ha, shw_cg (by omega) (by decide) ha, shw_cg (by omega) (by decide) ha, shw_cg (by omega) (by decide) ha, shw_cg (by omega) (by decide) ha, shw_cg (by omega) (by decide) ha, shw_cg (by omega) (by decide) ha, shw_cg (by omega) (by decide) ha, (hf _ (h.s1 hx)).2]
  have := h.2.2.2.2 x hx
  exact ⟨by omega, by omega, this.2.2⟩
theorem Gd2.cg (h : Gd2 a) (hG : Gd a') (h4 : a' 4 = a 4) (ha : ∀ j, 158 ≤ j → j < 428 → a' j = a j) : Gd2 a' := by
  have h30 := h.1.c4
  refine ⟨hG, fun s hs => ?_, fun s t hs ht hst => ?_⟩
  · rw [h4] at hs
    rw [shw_cg (by omega) (by decide) ha]; exact h.2.1 s hs
  · rw [h4] at hs ht
    rw [shw_cg (by omega) (by decide) ha, shw_cg (by omega) (by decide) ha, shw_cg (by omega) (by decide) ha, shw_cg (by omega) (by decide) ha, shw_cg (by omega) (by decide) ha, shw_cg (by omega) (by decide) ha, shw_cg (by omega) (by decide) ha, shw_cg (by omega) (by decide) ha]
    exact h.2.2 s t hs ht hst
theorem RM.put {Y : Nat → Nat → Int32} (h : RM (Y 1) a) {k n : Nat} {v : Int32} (hv : v = en k n) : RM (zU Y 1 k v 1) (up a k n) := by
  intro j hj
  by_cases c : j = k
  · subst c; rw [zU_s, up_s]; exact hv
  · rw [zU_k _ _ _ _ c, up_n _ c]; exact h j hj
end PI
