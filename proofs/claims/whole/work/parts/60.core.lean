section S1
variable {X Y X' : Nat → Nat → Int32} {a a' : Nat → Nat}
theorem PSr.cg {s : Nat} (h : PSr X a s) (hX : ∀ j, j < 12 → X' 9 (s * 12 + j) = X 9 (s * 12 + j)) (ha : ∀ k, k < 9 → shw a' s k = shw a s k) (he : endA a' s = endA a s) : PSr X' a' s := by
  unfold PSr at h ⊢
  rw [hX 4 (by decide), hX 5 (by decide), hX 6 (by decide), hX 7 (by decide), hX 8 (by decide), hX 11 (by decide), he, ha 7 (by decide), ha 4 (by decide), ha 6 (by decide), ha 8 (by decide), ha 5 (by decide)]
  exact ⟨fun k hk => by rw [hX k (by omega), ha k (by omega)]; exact h.1 k hk, h.2⟩
def GdSr (a : Nat → Nat) (s : Nat) : Prop := shw a s 0 < a 1 ∧ shw a s 1 < a 2 ∧ shw a s 2 < 60 ∧ flm a (shw a s 1) 4 ≤ shw a s 2 ∧ shw a s 3 < 960 ∧ shw a s 4 < 1024 ∧ shw a s 5 ≤ 24 ∧ 1 ≤ shw a s 6 ∧ shw a s 6 ≤ 99 ∧ shw a s 7 ≤ 400 ∧ shw a s 8 ≤ 2 ∧ endA a s ≤ 960
theorem endA_flm {s : Nat} (h0 : ∀ k, k < 9 → shw a' s k = shw a s k) (hf : flm a' (shw a s 1) 0 = flm a (shw a s 1) 0) : endA a' s = endA a s := by
  unfold endA mins
  rw [h0 3 (by decide), h0 5 (by decide), h0 1 (by decide), hf]
theorem fr_S (hB : zRB X 1 a) (hG : Gd2 a) (bS : PS X' a') (b1' : P1 X' a') (gS : GdS a') (n2 : ∀ s, s < a' 4 → shw a' s 8 ≤ 1) (ds : Ds a') (xr : ∀ r, r ≠ 1 → r ≠ 8 → r ≠ 9 → X' r = X r) (to : ∀ j, j ≠ 4 → j ≠ 5 → (j < 158 ∨ 428 ≤ j) → a' j = a j) (h4 : a' 4 ≤ 30) : zRB X' 1 a' ∧ Gd2 a' := by
  obtain ⟨bH, bF, bT, -, bL, bC, -, b0⟩ := zRB_iff.mp hB
  have c2 := hG.1.c2
  have e1 := to 1 (by decide) (by decide) (by omega)
  have e2 := to 2 (by decide) (by decide) (by omega)
  have e3 := to 3 (by decide) (by decide) (by omega)
  refine ⟨zRB_iff.mpr ⟨bH.cg hG.1 (xr 2 (by decide) (by decide) (by decide)) (xr 3 (by decide) (by decide) (by decide)) e1 (fun j k1 k2 => to j (by omega) (by omega) (by omega)), bF.cg hG.1 (xr 4 (by decide) (by decide) (by decide)) (xr 5 (by decide) (by decide) (by decide)) e2 (fun j k1 k2 => to j (by omega) (by omega) (by omega)), bT.cg hG.1 (xr 6 (by decide) (by decide) (by decide)) (xr 7 (by decide) (by decide) (by decide)) e3 (fun j k1 k2 => to j (by omega) (by omega) (by omega)), bS, bL.cg hG.1 (xr 10 (by decide) (by decide) (by decide)) (xr 11 (by decide) (by decide) (by decide)) (to 6 (by decide) (by decide) (by omega)) (fun j k1 k2 => to j (by omega) (by omega) (by omega)), bC.cg (xr 12 (by decide) (by decide) (by decide)) (xr 13 (by decide) (by decide) (by decide)) (fun j k1 k2 => to j (by omega) (by omega) (by omega)), b1', by rw [to 7 (by decide) (by decide) (by omega), to 6 (by decide) (by decide) (by omega)]; exact b0⟩, ⟨GdC.cg hG.1 (by rw [e1]; exact hG.1.c1) (by rw [e2]; exact c2) (by rw [e3]; exact hG.1.c3) h4 (fun j k1 k2 => to j (by omega) (by omega) (by omega)), GdH.cg hG.1 e1 (fun j k1 k2 => to j (by omega) (by omega) (by omega)), GdF.cg hG.1 e2 (fun j k1 k2 => to j (by omega) (by omega) (by omega)), GdT.cg hG.1 e3 (by rw [e2]; exact Nat.le_refl _) (fun j k1 k2 => to j (by omega) (by omega) (by omega)), gS⟩, n2, ds⟩
/-- one show changes -/
theorem fr_S1 (hB : zRB X 1 a) (hG : Gd2 a) {s : Nat} (hs : s < a 4) (bS : PSr X' a' s) (b1' : P1 X' a') (gS : GdSr a' s) (n2 : shw a' s 8 ≤ 1)
    (ds : shw a' s 8 = 0 → ∀ t, t < a 4 → t ≠ s → shw a t 8 = 0 → shw a' s 0 = shw a t 0 → shw a' s 2 = shw a t 2 → shw a' s 3 ≠ shw a t 3)
    (xr : ∀ r, r ≠ 1 → r ≠ 9 → X' r = X r) (xc : ∀ j, j < s * 12 ∨ s * 12 + 12 ≤ j → X' 9 j = X 9 j) (to : ∀ j, j ≠ 5 → (j < 158 + 9 * s ∨ 158 + 9 * s + 9 ≤ j) → a' j = a j) : zRB X' 1 a' ∧ Gd2 a' := by
  obtain ⟨-, -, -, pS, -, -, -, -⟩ := zRB_iff.mp hB
  have c4 := hG.1.c4
  have c2 := hG.1.c2
  have e4 : a' 4 = a 4 := to 4 (by decide) (by omega)
  have e1 : a' 1 = a 1 := to 1 (by decide) (by omega)
  have e2 : a' 2 = a 2 := to 2 (by decide) (by omega)
  have hsh : ∀ x k, x ≠ s → k < 9 → shw a' x k = shw a x k := fun x k hx hk => to _ (by omega) (by omega)
  have hfl : ∀ f k, f < a 2 → k < 8 → flm a' f k = flm a f k := fun f k hf hk => flm_cg (by omega) hk (fun j k1 k2 => to j (by omega) (by omega))
  refine fr_S hB hG ⟨by rw [xr 8 (by decide) (by decide), e4]; exact pS.1, fun x hx => ?_⟩ b1' (fun x hx => ?_) (fun x hx => ?_) (fun x t hx ht hxt h1 h2 h3 h5 => ?_) (fun r q1 q2 q3 => xr r q1 q3) (fun j q1 q2 q3 => to j q2 (by omega)) (by omega)
  · rw [e4] at hx
    by_cases c : x = s
    · subst c; exact bS
    · exact (pS.2 x hx).cg (fun j hj => xc _ (by omega)) (fun k hk => hsh x k c hk) (endA_flm (fun k hk => hsh x k c hk) (hfl _ 0 (hG.1.s1 hx) (by decide)))
  · rw [e4] at hx
    by_cases c : x = s
    · subst c; exact gS
    · have := hG.1.2.2.2.2 x hx
      rw [endA_flm (fun k hk => hsh x k c hk) (hfl _ 0 (hG.1.s1 hx) (by decide)), hsh x 0 c (by decide), hsh x 1 c (by decide), hsh x 2 c (by decide), hsh x 3 c (by decide), hsh x 4 c (by decide), hsh x 5 c (by decide), hsh x 6 c (by decide), hsh x 7 c (by decide), hsh x 8 c (by decide), e1, e2, hfl _ 4 (hG.1.s1 hx) (by decide)]
      exact this
  · rw [e4] at hx
    by_cases c : x = s
    · subst c; exact n2
    · rw [hsh x 8 c (by decide)]; exact hG.2.1 x hx
  · rw [e4] at hx ht
    by_cases c : x = s
    · have ct : t ≠ s := fun q => hxt (c.trans q.symm)
      subst c
      rw [hsh t 8 ct (by decide)] at h2
      rw [hsh t 0 ct (by decide)] at h3
      rw [hsh t 2 ct (by decide)] at h5
      rw [hsh t 3 ct (by decide)]
      exact ds h1 t ht ct h2 h3 h5
    · by_cases ct : t = s
      · subst ct
        rw [hsh x 8 c (by decide)] at h1
        rw [hsh x 0 c (by decide)] at h3
        rw [hsh x 2 c (by decide)] at h5
        rw [hsh x 3 c (by decide)]
        exact fun q => ds h2 x hx c h1 h3.symm h5.symm q.symm
      · rw [hsh x 8 c (by decide)] at h1
        rw [hsh t 8 ct (by decide)] at h2
        rw [hsh x 0 c (by decide), hsh t 0 ct (by decide)] at h3
        rw [hsh x 2 c (by decide), hsh t 2 ct (by decide)] at h5
        rw [hsh x 3 c (by decide), hsh t 3 ct (by decide)]
        exact hG.2.2 x t hx ht hxt h1 h2 h3 h5
end S1
/-! a command's core: the faults are looked for, then the change is made -/
def FXr (X X' : Nat → Nat → Int32) : Prop := (∀ k, k ≠ 8 → k ≠ 9 → X' 0 k = X 0 k) ∧ ∀ r, 14 ≤ r → r ≠ 146 → r ≠ 147 → r ≠ 148 → X' r = X r
def FYr (Y Y' : Nat → Nat → Int32) : Prop := (∀ r, 2 ≤ r → Y' r = Y r) ∧ ∀ k, 1 ≤ k → k < 15 → k ≠ 8 → k ≠ 9 → Y' 0 k = Y 0 k
theorem FX.r {X X' : Nat → Nat → Int32} (h : FX X X') : FXr X X' := ⟨fun k _ _ => by rw [h.1], h.2⟩
theorem FY.r {Y Y' : Nat → Nat → Int32} (h : FY Y Y') : FYr Y Y' := ⟨h.1, fun k q1 q2 _ _ => h.2 k q1 q2⟩
theorem FXr.tr {X Y Z : Nat → Nat → Int32} (h : FXr X Y) (h2 : FXr Y Z) : FXr X Z := ⟨fun k q1 q2 => (h2.1 k q1 q2).trans (h.1 k q1 q2), fun r q1 q2 q3 q4 => (h2.2 r q1 q2 q3 q4).trans (h.2 r q1 q2 q3 q4)⟩
theorem FYr.tr {X Y Z : Nat → Nat → Int32} (h : FYr X Y) (h2 : FYr Y Z) : FYr X Z := ⟨fun r q => (h2.1 r q).trans (h.1 r q), fun k q1 q2 q3 q4 => (h2.2 k q1 q2 q3 q4).trans (h.2 k q1 q2 q3 q4)⟩
theorem FYr.txt {Y Y' : Nat → Nat → Int32} (h : FYr Y Y') : zTxt Y Y' := ⟨h.1 5 (by decide), h.1 6 (by decide), h.2 11 (by decide) (by decide) (by decide) (by decide), h.2 14 (by decide) (by decide) (by decide) (by decide)⟩
/-- q: quiet; flt: the fault that the class finds, in the memory X1; chg: the class's change; g: the reference's call; Kf: its numbers of the faults -/
def zCore (q : Nat) (X Y : Nat → Nat → Int32) (a : Nat → Nat) (flt : Int32) (X1 : Nat → Nat → Int32) (chg : (Nat → Nat → Int32) → Option (Int32 × (Nat → Nat → Int32))) (g : Option (Int32 × (Nat → Nat → Int32))) (Kf : Nat → Nat) : Prop :=
  (∃ n Y1 b, flt = nI n ∧ 1 ≤ n ∧ n ≤ 4 ∧ g = some (b, Y1) ∧ Y1 0 0 = nI (Kf n) ∧ zInv q X1 Y1 a ∧ FXr X X1 ∧ FYr Y Y1) ∨
  (flt = nI 0 ∧ ∃ Z1, zInv q X1 Z1 a ∧ FXr X X1 ∧ FYr Y Z1 ∧ ∀ Xk Yr, f_X6_remembers Z1 = some Yr → zInv q Xk Yr a →
    ∃ v X' Y' a', chg Xk = some (v, X') ∧ g = some (v, Y') ∧ Y' 0 0 = nI 0 ∧ zInv q X' Y' a' ∧ FXr Xk X' ∧ FYr Yr Y')
/-- a refusal is kept on both sides -/
theorem zInv.refuse {q : Nat} {X Y : Nat → Nat → Int32} {a : Nat → Nat} (h : zInv q X Y a) {r : Nat} (h1 : 1 ≤ r) (h2 : r ≤ 12) (d t : Int32) :
    zInv q (f_X5_refuse X (nI r) d) (zU (zU (zU Y 0 8 (nI r)) 0 9 d) 0 0 t) a ∧ FXr X (f_X5_refuse X (nI r) d) ∧ FYr Y (zU (zU (zU Y 0 8 (nI r)) 0 9 d) 0 0 t) := by
  have eX : f_X5_refuse X (nI r) d = zU (zU X 0 8 (nI r)) 0 9 d := rfl
  rw [eX]
  have xr : ∀ p, p ≠ 0 → zU (zU X 0 8 (nI r)) 0 9 d p = X p := fun p hp => by rw [zU_r _ _ _ _ hp, zU_r _ _ _ _ hp]
  have xk : ∀ k, k ≠ 8 → k ≠ 9 → zU (zU X 0 8 (nI r)) 0 9 d 0 k = X 0 k := fun k q1 q2 => by rw [zU_k _ _ _ _ q2, zU_k _ _ _ _ q1]
  have yr : ∀ p, p ≠ 0 → zU (zU (zU Y 0 8 (nI r)) 0 9 d) 0 0 t p = Y p := fun p hp => by rw [zU_r _ _ _ _ hp, zU_r _ _ _ _ hp, zU_r _ _ _ _ hp]
  have yk : ∀ k, k ≠ 0 → k ≠ 8 → k ≠ 9 → zU (zU (zU Y 0 8 (nI r)) 0 9 d) 0 0 t 0 k = Y 0 k := fun k q0 q1 q2 => by rw [zU_k _ _ _ _ q0, zU_k _ _ _ _ q2, zU_k _ _ _ _ q1]
  obtain ⟨hB, hR, hG, ⟨⟨n, s, n8, s8, y3, x2, x1, hh⟩, ⟨hc1, hc2⟩, hs, hr, he, hO, r1, r2⟩, h7⟩ := h
  refine ⟨⟨zRB_cong (fun p q1 q2 => xr p (by omega)) hB, by rw [yr 1 (by decide)]; exact hR, hG, ⟨⟨n, s, n8, s8, by rw [yk 3 (by decide) (by decide) (by decide)]; exact y3, by rw [xr 27 (by decide)]; exact x2, by rw [xr 27 (by decide)]; exact x1, fun i hi => ?_⟩, ⟨zCon_cong (fun p q1 q2 => xr p (by omega)) hc1, fun i hi => zCon_cong (fun p q1 q2 => xr p (by omega)) (hc2 i hi)⟩, ?_, ?_, ?_, hO.fr (xr 147 (by decide)), by rw [xr 150 (by decide)]; exact r1, by rw [xr 150 (by decide)]; exact r2⟩, by rw [yk 7 (by decide) (by decide) (by decide)]; exact h7⟩, ⟨xk, fun p q1 _ _ _ => xr p (by omega)⟩, ⟨fun p q1 => yr p (by omega), fun k q1 _ q3 q4 => yk k (by omega) q3 q4⟩⟩
  · obtain ⟨b', d1, d2, d3⟩ := hh i hi
    have hl := sl_lt s n i
    exact ⟨b', d1, by rw [yr 2 (by decide)]; exact d2, zRB_cong (fun p q1 q2 => xr p (by omega)) d3⟩
  · unfold zSav at hs ⊢
    rw [xk 7 (by decide) (by decide), yk 5 (by decide) (by decide) (by decide), yr 3 (by decide)]
    rcases hs with hs | ⟨s1, s2, b, d1, d2, d3⟩
    · exact Or.inl hs
    · exact Or.inr ⟨s1, s2, b, d1, d2, zRB_cong (fun p q1 q2 => xr p (by omega)) d3⟩
  · refine Or.inr ⟨r, h1, h2, by rw [zU_k _ _ _ _ (by decide), zU_s], by rw [zU_k _ _ _ _ (by decide), zU_k _ _ _ _ (by decide), zU_s], ?_⟩
    rw [zU_s, zU_k _ _ _ _ (by decide), zU_s]
  · unfold zErr at he ⊢
    rw [xk 10 (by decide) (by decide), yk 12 (by decide) (by decide) (by decide)]
    exact he
