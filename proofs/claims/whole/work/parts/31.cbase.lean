/-! THE CLASS'S BLOCK OF A STATE holds the same numbers a -/
def zRB (X : Nat → Nat → Int32) (b : Nat) (a : Nat → Nat) : Prop :=
  ((X (b + 1) 1 = nI 4 ∧ X (b + 1) 2 = nI 6 ∧ X (b + 1) 3 = nI (a 1)) ∧ (X (b + 3) 1 = nI 12 ∧ X (b + 3) 2 = nI 8 ∧ X (b + 3) 3 = nI (a 2)) ∧ (X (b + 5) 1 = nI 4 ∧ X (b + 5) 2 = nI 10 ∧ X (b + 5) 3 = nI (a 3)) ∧
   (X (b + 7) 1 = nI 12 ∧ X (b + 7) 2 = nI 30 ∧ X (b + 7) 3 = nI (a 4)) ∧ (X (b + 9) 1 = nI 5 ∧ X (b + 9) 2 = nI 30 ∧ X (b + 9) 3 = nI (a 6)) ∧ X (b + 11) 1 = nI 26 ∧ X b 6 = nI (a 0) ∧ X b 7 = nI (a 5)) ∧
  (∀ h, h < a 1 → (∀ k, k < 3 → X (b + 2) (h * 4 + k) = nI (hal a h k)) ∧ X (b + 2) (h * 4 + 3) = nI (hal a h 3) - 1) ∧
  (∀ f, f < a 2 → (∀ k, k < 5 → X (b + 4) (f * 12 + k) = nI (flm a f k)) ∧ ∀ k, k < 3 → X (b + 4) (f * 12 + (9 + k)) = nI (flm a f (5 + k))) ∧
  (∀ t, t < a 3 → ∀ k, k < 4 → X (b + 6) (t * 4 + k) = nI (trl a t k)) ∧
  (∀ s, s < a 4 → (∀ k, k < 4 → X (b + 8) (s * 12 + k) = nI (shw a s k)) ∧ X (b + 8) (s * 12 + 4) = nI (endA a s) ∧ X (b + 8) (s * 12 + 5) = nI (shw a s 7) ∧ X (b + 8) (s * 12 + 6) = nI (shw a s 4) ∧ X (b + 8) (s * 12 + 7) = nI (shw a s 6) ∧ X (b + 8) (s * 12 + 8) = nI (if shw a s 8 = 0 then 0 else 1) ∧ X (b + 8) (s * 12 + 11) = nI (shw a s 5)) ∧
  (∀ i, i < a 6 → X (b + 10) (i * 5 + 0) = nI (lin a i 0) ∧ X (b + 10) (i * 5 + 1) = nI (lin a i 1) ∧ X (b + 10) (i * 5 + 2) = nI (lin a i 2) - 1 ∧ X (b + 10) (i * 5 + 3) = nI (lin a i 3) - 1 ∧ X (b + 10) (i * 5 + 4) = nI (lin a i 4)) ∧
  (∀ k, k < 6 → X (b + 12) k = nI (a (8 + k))) ∧ (∀ h, h < 16 → X (b + 12) (10 + h) = nI (a (14 + h))) ∧ (a 7 = 0 → a 6 = 0)
theorem c_get_in {X : Nat → Nat → Int32} {r n c x k : Nat} (hc : X r 1 = nI c) (hn : n < 2 ^ 31) (h : x * c + k < n) : f_X4_get X r n (nI x) (nI k) = X (r + 1) (x * c + k) := by
  unfold f_X4_get
  rw [hc, pk_mul, nI_add, if_neg (nI_pos (by omega)), if_neg (fun q => by rw [nI_leI hn (by omega)] at q; omega), nI_clamp (by omega)]
theorem c_isRow {X : Nat → Nat → Int32} {r n c : Nat} (hc : X r 3 = nI c) (hn : c < 2 ^ 31) (x : Int32) : (f_X4_isRow X r n x = nI 0 ∧ (x < 0 ∨ nI c ≤ x)) ∨ (f_X4_isRow X r n x = nI 1 ∧ ∃ k, k < c ∧ x = nI k) := by
  unfold f_X4_isRow
  rw [hc]
  by_cases h : x < 0
  · rw [if_pos h]; exact Or.inl ⟨rfl, Or.inl h⟩
  · rw [if_neg h]
    by_cases h2 : nI c ≤ x
    · rw [if_pos h2]; exact Or.inl ⟨rfl, Or.inr h2⟩
    · rw [if_neg h2]
      rcases pk_ix x hn with h3 | h3 | h3
      · exact absurd h3 h
      · exact absurd h3 h2
      · exact Or.inr ⟨rfl, h3⟩
theorem Gd.c1 {a : Nat → Nat} (h : Gd a) : a 1 ≤ 6 := h.1.2.1
theorem Gd.c2 {a : Nat → Nat} (h : Gd a) : a 2 ≤ 8 := h.1.2.2.1
theorem Gd.c3 {a : Nat → Nat} (h : Gd a) : a 3 ≤ 10 := h.1.2.2.2.1
theorem Gd.c4 {a : Nat → Nat} (h : Gd a) : a 4 ≤ 30 := h.1.2.2.2.2.1
theorem Gd.c6 {a : Nat → Nat} (h : Gd a) : a 6 ≤ 30 := h.1.2.2.2.2.2.1
section CR
variable {X : Nat → Nat → Int32} {a : Nat → Nat}
theorem n_hal (h : zRB X 1 a) (hG : Gd a) {x k : Nat} (hx : x < a 1) (hk : k < 3) : f_X4_get X 2 24 (nI x) (nI k) = nI (hal a x k) := by
  have := hG.c1
  rw [c_get_in (c := 4) h.1.1.1 (by decide) (by omega)]
  exact (h.2.1 x hx).1 k hk
theorem n_clo (h : zRB X 1 a) (hG : Gd a) {x : Nat} (hx : x < a 1) : f_X4_get X 2 24 (nI x) (nI 3) = nI (hal a x 3) - 1 := by
  have := hG.c1
  rw [c_get_in (c := 4) h.1.1.1 (by decide) (by omega)]
  exact (h.2.1 x hx).2
theorem n_flm (h : zRB X 1 a) (hG : Gd a) {x k : Nat} (hx : x < a 2) (hk : k < 5) : f_X4_get X 4 96 (nI x) (nI k) = nI (flm a x k) := by
  have := hG.c2
  rw [c_get_in (c := 12) h.1.2.1.1 (by decide) (by omega)]
  exact (h.2.2.1 x hx).1 k hk
theorem n_flm9 (h : zRB X 1 a) (hG : Gd a) {x : Nat} (hx : x < a 2) : f_X4_get X 4 96 (nI x) (nI 9) = nI (flm a x 5) := by
  have := hG.c2
  rw [c_get_in (c := 12) h.1.2.1.1 (by decide) (by omega)]
  exact (h.2.2.1 x hx).2 0 (by decide)
theorem n_flm10 (h : zRB X 1 a) (hG : Gd a) {x : Nat} (hx : x < a 2) : f_X4_get X 4 96 (nI x) (nI 10) = nI (flm a x 6) := by
  have := hG.c2
  rw [c_get_in (c := 12) h.1.2.1.1 (by decide) (by omega)]
  exact (h.2.2.1 x hx).2 1 (by decide)
theorem n_flm11 (h : zRB X 1 a) (hG : Gd a) {x : Nat} (hx : x < a 2) : f_X4_get X 4 96 (nI x) (nI 11) = nI (flm a x 7) := by
  have := hG.c2
  rw [c_get_in (c := 12) h.1.2.1.1 (by decide) (by omega)]
  exact (h.2.2.1 x hx).2 2 (by decide)
theorem n_trl (h : zRB X 1 a) (hG : Gd a) {x k : Nat} (hx : x < a 3) (hk : k < 4) : f_X4_get X 6 40 (nI x) (nI k) = nI (trl a x k) := by
  have := hG.c3
  rw [c_get_in (c := 4) h.1.2.2.1.1 (by decide) (by omega)]
  exact h.2.2.2.1 x hx k hk
theorem n_shw (h : zRB X 1 a) (hG : Gd a) {x k : Nat} (hx : x < a 4) (hk : k < 4) : f_X4_get X 8 360 (nI x) (nI k) = nI (shw a x k) := by
  have := hG.c4
  rw [c_get_in (c := 12) h.1.2.2.2.1.1 (by decide) (by omega)]
  exact (h.2.2.2.2.1 x hx).1 k hk
theorem n_end (h : zRB X 1 a) (hG : Gd a) {x : Nat} (hx : x < a 4) : f_X4_get X 8 360 (nI x) (nI 4) = nI (endA a x) := by
  have := hG.c4
  rw [c_get_in (c := 12) h.1.2.2.2.1.1 (by decide) (by omega)]
  exact (h.2.2.2.2.1 x hx).2.1
theorem n_tic (h : zRB X 1 a) (hG : Gd a) {x : Nat} (hx : x < a 4) : f_X4_get X 8 360 (nI x) (nI 5) = nI (shw a x 7) := by
  have := hG.c4
  rw [c_get_in (c := 12) h.1.2.2.2.1.1 (by decide) (by omega)]
  exact (h.2.2.2.2.1 x hx).2.2.1
theorem n_ree (h : zRB X 1 a) (hG : Gd a) {x : Nat} (hx : x < a 4) : f_X4_get X 8 360 (nI x) (nI 6) = nI (shw a x 4) := by
  have := hG.c4
  rw [c_get_in (c := 12) h.1.2.2.2.1.1 (by decide) (by omega)]
  exact (h.2.2.2.2.1 x hx).2.2.2.1
theorem n_pri (h : zRB X 1 a) (hG : Gd a) {x : Nat} (hx : x < a 4) : f_X4_get X 8 360 (nI x) (nI 7) = nI (shw a x 6) := by
  have := hG.c4
  rw [c_get_in (c := 12) h.1.2.2.2.1.1 (by decide) (by omega)]
  exact (h.2.2.2.2.1 x hx).2.2.2.2.1
theorem n_can (h : zRB X 1 a) (hG : Gd a) {x : Nat} (hx : x < a 4) : f_X4_get X 8 360 (nI x) (nI 8) = nI (if shw a x 8 = 0 then 0 else 1) := by
  have := hG.c4
  rw [c_get_in (c := 12) h.1.2.2.2.1.1 (by decide) (by omega)]
  exact (h.2.2.2.2.1 x hx).2.2.2.2.2.1
theorem n_rmi (h : zRB X 1 a) (hG : Gd a) {x : Nat} (hx : x < a 4) : f_X4_get X 8 360 (nI x) (nI 11) = nI (shw a x 5) := by
  have := hG.c4
  rw [c_get_in (c := 12) h.1.2.2.2.1.1 (by decide) (by omega)]
  exact (h.2.2.2.2.1 x hx).2.2.2.2.2.2
theorem n_set (h : zRB X 1 a) {k : Nat} (hk : k < 6) : f_X4_get X 12 26 (nI 0) (nI k) = nI (a (8 + k)) := by
  rw [c_get_in (c := 26) h.1.2.2.2.2.2.1 (by decide) (by omega), Nat.zero_mul, Nat.zero_add]
  exact h.2.2.2.2.2.2.1 k hk
theorem n_lim (h : zRB X 1 a) {k : Nat} (hk : k < 16) : f_X4_get X 12 26 (nI 0) (nI (10 + k)) = nI (a (14 + k)) := by
  rw [c_get_in (c := 26) h.1.2.2.2.2.2.1 (by decide) (by omega), Nat.zero_mul, Nat.zero_add]
  exact h.2.2.2.2.2.2.2.1 k hk
theorem n_nH (h : zRB X 1 a) : X 2 3 = nI (a 1) := h.1.1.2.2
theorem n_nF (h : zRB X 1 a) : X 4 3 = nI (a 2) := h.1.2.1.2.2
theorem n_nT (h : zRB X 1 a) : X 6 3 = nI (a 3) := h.1.2.2.1.2.2
theorem n_nS (h : zRB X 1 a) : X 8 3 = nI (a 4) := h.1.2.2.2.1.2.2
theorem n_nL (h : zRB X 1 a) : X 10 3 = nI (a 6) := h.1.2.2.2.2.1.2.2
theorem n_today (h : zRB X 1 a) : X 1 6 = nI (a 0) := h.1.2.2.2.2.2.2.1
theorem n_given (h : zRB X 1 a) : X 1 7 = nI (a 5) := h.1.2.2.2.2.2.2.2
theorem Gd.s0 {a : Nat → Nat} (h : Gd a) {s : Nat} (hs : s < a 4) : shw a s 0 < a 1 := (h.2.2.2.2 s hs).1
theorem Gd.s1 {a : Nat → Nat} (h : Gd a) {s : Nat} (hs : s < a 4) : shw a s 1 < a 2 := (h.2.2.2.2 s hs).2.1
theorem n_minutesOf (h : zRB X 1 a) (hG : Gd a) {x : Nat} (hx : x < a 4) : f_X3_minutesOf X (nI x) = nI (mins a x) := by
  unfold f_X3_minutesOf
  rw [n_end h hG hx, n_shw h hG hx (by decide), pk_sub (by unfold endA; omega)]
  congr 1
  unfold endA
  omega
theorem n_seatsOf (h : zRB X 1 a) (hG : Gd a) {x : Nat} (hx : x < a 4) : f_X3_seatsOf X (nI x) = nI (hal a (shw a x 0) 0) := by
  unfold f_X3_seatsOf
  rw [n_shw h hG hx (by decide), n_hal h hG (hG.s0 hx) (by decide)]
theorem n_cleaningOf (h : zRB X 1 a) (hG : Gd a) {x : Nat} (hx : x < a 4) : f_X3_cleaningOf X (nI x) = nI (clnA a x) := by
  unfold f_X3_cleaningOf
  rw [n_shw h hG hx (by decide), n_hal h hG (hG.s0 hx) (by decide)]
  rfl
end CR
