/-! a block of a state copied into another one -/
/-- what never changes in a block -/
def zCon (X : Nat → Nat → Int32) (b : Nat) : Prop :=
  (X (b + 1) 1 = nI 4 ∧ X (b + 1) 2 = nI 6) ∧ (X (b + 3) 1 = nI 12 ∧ X (b + 3) 2 = nI 8) ∧ (X (b + 5) 1 = nI 4 ∧ X (b + 5) 2 = nI 10) ∧ (X (b + 7) 1 = nI 12 ∧ X (b + 7) 2 = nI 30) ∧ (X (b + 9) 1 = nI 5 ∧ X (b + 9) 2 = nI 30) ∧ X (b + 11) 1 = nI 26
theorem zCon_cong {X X' : Nat → Nat → Int32} {b : Nat} (hX : ∀ r, b ≤ r → r ≤ b + 12 → X' r = X r) (h : zCon X b) : zCon X' b := by
  unfold zCon at h ⊢
  rw [hX (b + 1) (by omega) (by omega), hX (b + 3) (by omega) (by omega), hX (b + 5) (by omega) (by omega), hX (b + 7) (by omega) (by omega), hX (b + 9) (by omega) (by omega), hX (b + 11) (by omega) (by omega)]
  exact h
theorem zRB.con {X : Nat → Nat → Int32} {b : Nat} {a : Nat → Nat} (h : zRB X b a) : zCon X b :=
  ⟨⟨h.1.1.1, h.1.1.2.1⟩, ⟨h.1.2.1.1, h.1.2.1.2.1⟩, ⟨h.1.2.2.1.1, h.1.2.2.1.2.1⟩, ⟨h.1.2.2.2.1.1, h.1.2.2.2.1.2.1⟩, ⟨h.1.2.2.2.2.1.1, h.1.2.2.2.2.1.2.1⟩, h.1.2.2.2.2.2.1⟩
theorem zRB_copy {X X' : Nat → Nat → Int32} {b b2 : Nat} {a : Nat → Nat} (h : zRB X b2 a) (hG : Gd a) (hC : zCon X' b)
    (h1 : X' (b + 1) 3 = X (b2 + 1) 3) (h2 : ∀ j, j < 24 → X' (b + 2) j = X (b2 + 2) j) (h3 : X' (b + 3) 3 = X (b2 + 3) 3) (h4 : ∀ j, j < 96 → X' (b + 4) j = X (b2 + 4) j)
    (h5 : X' (b + 5) 3 = X (b2 + 5) 3) (h6 : ∀ j, j < 40 → X' (b + 6) j = X (b2 + 6) j) (h7 : X' (b + 7) 3 = X (b2 + 7) 3) (h8 : ∀ j, j < 360 → X' (b + 8) j = X (b2 + 8) j)
    (h9 : X' (b + 9) 3 = X (b2 + 9) 3) (h10 : ∀ j, j < 150 → X' (b + 10) j = X (b2 + 10) j) (h12 : ∀ j, j < 26 → X' (b + 12) j = X (b2 + 12) j) (h06 : X' b 6 = X b2 6) (h07 : X' b 7 = X b2 7) : zRB X' b a := by
  have g1 := hG.c1
  have g2 := hG.c2
  have g3 := hG.c3
  have g4 := hG.c4
  have g6 := hG.c6
  obtain ⟨c1, c2, c3, c4, c5, c6⟩ := hC
  obtain ⟨⟨r1, r2, r3, r4, r5, r6, r7, r8⟩, pH, pF, pT, pS, pL, pC, pM, p0⟩ := h
  refine ⟨⟨⟨c1.1, c1.2, by rw [h1]; exact r1.2.2⟩, ⟨c2.1, c2.2, by rw [h3]; exact r2.2.2⟩, ⟨c3.1, c3.2, by rw [h5]; exact r3.2.2⟩, ⟨c4.1, c4.2, by rw [h7]; exact r4.2.2⟩, ⟨c5.1, c5.2, by rw [h9]; exact r5.2.2⟩, c6, by rw [h06]; exact r7, by rw [h07]; exact r8⟩, ?_, ?_, ?_, ?_, ?_, ?_, ?_, p0⟩
  · exact fun x hx => ⟨fun k hk => by rw [h2 _ (by omega)]; exact (pH x hx).1 k hk, by rw [h2 _ (by omega)]; exact (pH x hx).2⟩
  · exact fun x hx => ⟨fun k hk => by rw [h4 _ (by omega)]; exact (pF x hx).1 k hk, fun k hk => by rw [h4 _ (by omega)]; exact (pF x hx).2 k hk⟩
  · exact fun x hx k hk => by rw [h6 _ (by omega)]; exact pT x hx k hk
  · intro x hx
    obtain ⟨q1, q2, q3, q4, q5, q6, q7⟩ := pS x hx
    exact ⟨fun k hk => by rw [h8 _ (by omega)]; exact q1 k hk, by rw [h8 _ (by omega)]; exact q2, by rw [h8 _ (by omega)]; exact q3, by rw [h8 _ (by omega)]; exact q4, by rw [h8 _ (by omega)]; exact q5, by rw [h8 _ (by omega)]; exact q6, by rw [h8 _ (by omega)]; exact q7⟩
  · intro x hx
    obtain ⟨q1, q2, q3, q4, q5⟩ := pL x hx
    exact ⟨by rw [h10 _ (by omega)]; exact q1, by rw [h10 _ (by omega)]; exact q2, by rw [h10 _ (by omega)]; exact q3, by rw [h10 _ (by omega)]; exact q4, by rw [h10 _ (by omega)]; exact q5⟩
  · exact fun k hk => by rw [h12 _ (by omega)]; exact pC k hk
  · exact fun k hk => by rw [h12 _ (by omega)]; exact pM k hk
theorem cp_r {X : Nat → Nat → Int32} {r n r2 n2 q : Nat} (h : q ≠ r) (h2 : q ≠ r + 1) : f_X4_copyFrom X r n r2 n2 q = X q := by
  unfold f_X4_copyFrom zlet
  dsimp only
  rw [zR_n _ _ h2, zU_r _ _ _ _ h]
theorem cp_1 {X : Nat → Nat → Int32} {r n r2 n2 j : Nat} (h : j ≠ 3) : f_X4_copyFrom X r n r2 n2 r j = X r j := by
  unfold f_X4_copyFrom zlet
  dsimp only
  rw [zR_n _ _ (by omega), zU_k _ _ _ _ h]
theorem cp_3 {X : Nat → Nat → Int32} {r n r2 n2 : Nat} : f_X4_copyFrom X r n r2 n2 r 3 = X r2 3 := by
  unfold f_X4_copyFrom zlet
  dsimp only
  rw [zR_n _ _ (by omega), zU_s]
theorem cp_c {X : Nat → Nat → Int32} {r n r2 j : Nat} (hn : n < 2 ^ 31) (h : j < n) (h2 : r2 + 1 ≠ r) : f_X4_copyFrom X r n r2 n (r + 1) j = X (r2 + 1) j := by
  unfold f_X4_copyFrom zlet
  dsimp only
  rw [zR_s, zU_r _ _ _ _ h2, if_neg (nI_nlt (Nat.le_refl n) hn), nI_clamp hn]
  unfold va_cpy
  have h0 : (nI 0).toNatClampNeg = 0 := rfl
  rw [h0, if_pos (by omega), show 0 + (j - 0) = j by omega]
theorem n_copyFrom {X : Nat → Nat → Int32} {b b2 : Nat} {a : Nat → Nat} (h : zRB X b2 a) (hG : Gd a) (hC : zCon X b) (hb : b + 12 < b2 ∨ b2 + 12 < b) :
    zRB (f_X3_copyFrom X b b2) b a ∧ (∀ r, r < b ∨ b + 12 < r → f_X3_copyFrom X b b2 r = X r) ∧ ∀ k, k < 6 → f_X3_copyFrom X b b2 b k = X b k := by
  unfold f_X3_copyFrom zlet
  dsimp only
  generalize e1 : f_X4_copyFrom X (b + 1) 24 (b2 + 1) 24 = X1
  generalize e2 : f_X4_copyFrom X1 (b + 3) 96 (b2 + 3) 96 = X2
  generalize e3 : f_X4_copyFrom X2 (b + 5) 40 (b2 + 5) 40 = X3
  generalize e4 : f_X4_copyFrom X3 (b + 7) 360 (b2 + 7) 360 = X4
  generalize e5 : f_X4_copyFrom X4 (b + 9) 150 (b2 + 9) 150 = X5
  generalize e6 : f_X4_copyFrom X5 (b + 11) 26 (b2 + 11) 26 = X6
  have k1 : ∀ q, q ≠ b + 1 → q ≠ b + 2 → X1 q = X q := fun q h1 h2 => by rw [← e1]; exact cp_r h1 h2
  have k2 : ∀ q, q ≠ b + 3 → q ≠ b + 4 → X2 q = X1 q := fun q h1 h2 => by rw [← e2]; exact cp_r h1 h2
  have k3 : ∀ q, q ≠ b + 5 → q ≠ b + 6 → X3 q = X2 q := fun q h1 h2 => by rw [← e3]; exact cp_r h1 h2
  have k4 : ∀ q, q ≠ b + 7 → q ≠ b + 8 → X4 q = X3 q := fun q h1 h2 => by rw [← e4]; exact cp_r h1 h2
  have k5 : ∀ q, q ≠ b + 9 → q ≠ b + 10 → X5 q = X4 q := fun q h1 h2 => by rw [← e5]; exact cp_r h1 h2
  have k6 : ∀ q, q ≠ b + 11 → q ≠ b + 12 → X6 q = X5 q := fun q h1 h2 => by rw [← e6]; exact cp_r h1 h2
  -- what the source holds stays
  have s1 : ∀ q, b2 ≤ q → q ≤ b2 + 12 → X1 q = X q := fun q h1 h2 => k1 q (by omega) (by omega)
  have s2 : ∀ q, b2 ≤ q → q ≤ b2 + 12 → X2 q = X q := fun q h1 h2 => by rw [k2 q (by omega) (by omega), s1 q h1 h2]
  have s3 : ∀ q, b2 ≤ q → q ≤ b2 + 12 → X3 q = X q := fun q h1 h2 => by rw [k3 q (by omega) (by omega), s2 q h1 h2]
  have s4 : ∀ q, b2 ≤ q → q ≤ b2 + 12 → X4 q = X q := fun q h1 h2 => by rw [k4 q (by omega) (by omega), s3 q h1 h2]
  have s5 : ∀ q, b2 ≤ q → q ≤ b2 + 12 → X5 q = X q := fun q h1 h2 => by rw [k5 q (by omega) (by omega), s4 q h1 h2]
  have s6 : ∀ q, b2 ≤ q → q ≤ b2 + 12 → X6 q = X q := fun q h1 h2 => by rw [k6 q (by omega) (by omega), s5 q h1 h2]
  -- a table of the goal
  have d1 : ∀ q, q = b + 1 ∨ q = b + 2 → X6 q = X1 q := fun q hq => by rw [k6 q (by omega) (by omega), k5 q (by omega) (by omega), k4 q (by omega) (by omega), k3 q (by omega) (by omega), k2 q (by omega) (by omega)]
  have d2 : ∀ q, q = b + 3 ∨ q = b + 4 → X6 q = X2 q := fun q hq => by rw [k6 q (by omega) (by omega), k5 q (by omega) (by omega), k4 q (by omega) (by omega), k3 q (by omega) (by omega)]
  have d3 : ∀ q, q = b + 5 ∨ q = b + 6 → X6 q = X3 q := fun q hq => by rw [k6 q (by omega) (by omega), k5 q (by omega) (by omega), k4 q (by omega) (by omega)]
  have d4 : ∀ q, q = b + 7 ∨ q = b + 8 → X6 q = X4 q := fun q hq => by rw [k6 q (by omega) (by omega), k5 q (by omega) (by omega)]
  have d5 : ∀ q, q = b + 9 ∨ q = b + 10 → X6 q = X5 q := fun q hq => by rw [k6 q (by omega) (by omega)]
  have d0 : X6 b = X b := by rw [k6 b (by omega) (by omega), k5 b (by omega) (by omega), k4 b (by omega) (by omega), k3 b (by omega) (by omega), k2 b (by omega) (by omega), k1 b (by omega) (by omega)]
  have u1 : ∀ q, b + 3 ≤ q → X1 q = X q := fun q h1 => k1 q (by omega) (by omega)
  have u2 : ∀ q, b + 5 ≤ q → X2 q = X q := fun q h1 => by rw [k2 q (by omega) (by omega), u1 q (by omega)]
  have u3 : ∀ q, b + 7 ≤ q → X3 q = X q := fun q h1 => by rw [k3 q (by omega) (by omega), u2 q (by omega)]
  have u4 : ∀ q, b + 9 ≤ q → X4 q = X q := fun q h1 => by rw [k4 q (by omega) (by omega), u3 q (by omega)]
  have u5 : ∀ q, b + 11 ≤ q → X5 q = X q := fun q h1 => by rw [k5 q (by omega) (by omega), u4 q (by omega)]
  generalize e7 : zU X6 b 6 (X6 b2 6) = X7
  have f7 : ∀ q, q ≠ b → X7 q = X6 q := fun q hq => by rw [← e7]; exact zU_r _ _ _ _ hq
  have g7 : X7 b 6 = X b2 6 := by rw [← e7, zU_s, s6 b2 (by omega) (by omega)]
  have g7k : ∀ k, k ≠ 6 → X7 b k = X b k := fun k hk => by rw [← e7, zU_k _ _ _ _ hk, d0]
  have F : ∀ q, q ≠ b → zU X7 b 7 (X7 b2 7) q = X6 q := fun q hq => by rw [zU_r _ _ _ _ hq, f7 q hq]
  refine ⟨?_, fun r hr => ?_, fun k hk => ?_⟩
  · refine zRB_copy h hG ?_ ?_ ?_ ?_ ?_ ?_ ?_ ?_ ?_ ?_ ?_ ?_ ?_ ?_
    · obtain ⟨c1, c2, c3, c4, c5, c6⟩ := hC
      unfold zCon
      rw [F _ (by omega), F _ (by omega), F _ (by omega), F _ (by omega), F _ (by omega), F _ (by omega), d1 _ (Or.inl rfl), d2 _ (Or.inl rfl), d3 _ (Or.inl rfl), d4 _ (Or.inl rfl), d5 _ (Or.inl rfl), ← e1, ← e2, ← e3, ← e4, ← e5, ← e6]
      rw [cp_1 (by decide), cp_1 (by decide), cp_1 (by decide), cp_1 (by decide), cp_1 (by decide), cp_1 (by decide), cp_1 (by decide), cp_1 (by decide), cp_1 (by decide), cp_1 (by decide), cp_1 (by decide), u1 _ (by omega), u2 _ (by omega), u3 _ (by omega), u4 _ (by omega), u5 _ (by omega)]
      exact ⟨c1, c2, c3, c4, c5, c6⟩
    · rw [F _ (by omega), d1 _ (Or.inl rfl), ← e1, cp_3]
    · intro j hj; rw [F _ (by omega), d1 _ (Or.inr rfl), ← e1]; exact cp_c (by decide) hj (by omega)
    · rw [F _ (by omega), d2 _ (Or.inl rfl), ← e2, cp_3, s1 _ (by omega) (by omega)]
    · intro j hj; rw [F _ (by omega), d2 _ (Or.inr rfl), ← e2, show b + 4 = b + 3 + 1 by omega, cp_c (by decide) hj (by omega), s1 _ (by omega) (by omega)]
    · rw [F _ (by omega), d3 _ (Or.inl rfl), ← e3, cp_3, s2 _ (by omega) (by omega)]
    · intro j hj; rw [F _ (by omega), d3 _ (Or.inr rfl), ← e3, show b + 6 = b + 5 + 1 by omega, cp_c (by decide) hj (by omega), s2 _ (by omega) (by omega)]
    · rw [F _ (by omega), d4 _ (Or.inl rfl), ← e4, cp_3, s3 _ (by omega) (by omega)]
    · intro j hj; rw [F _ (by omega), d4 _ (Or.inr rfl), ← e4, show b + 8 = b + 7 + 1 by omega, cp_c (by decide) hj (by omega), s3 _ (by omega) (by omega)]
    · rw [F _ (by omega), d5 _ (Or.inl rfl), ← e5, cp_3, s4 _ (by omega) (by omega)]
    · intro j hj; rw [F _ (by omega), d5 _ (Or.inr rfl), ← e5, show b + 10 = b + 9 + 1 by omega, cp_c (by decide) hj (by omega), s4 _ (by omega) (by omega)]
    · intro j hj; rw [F _ (by omega), ← e6, show b + 12 = b + 11 + 1 by omega, cp_c (by decide) hj (by omega), s5 _ (by omega) (by omega)]
    · rw [zU_k _ _ _ _ (by decide), g7]
    · rw [zU_s, f7 _ (by omega), s6 _ (by omega) (by omega)]
  · rw [F _ (by omega), k6 r (by omega) (by omega), k5 r (by omega) (by omega), k4 r (by omega) (by omega), k3 r (by omega) (by omega), k2 r (by omega) (by omega), k1 r (by omega) (by omega)]
  · rw [zU_k _ _ _ _ (by omega), g7k k (by omega)]
/-! the reference's copy -/
theorem m_copy {Y : Nat → Nat → Int32} {r0 n0 r1 n1 o1 o3 : Nat} (hr : r0 ≠ r1) (h0 : o1 + 580 ≤ n0) (h1 : o3 + 580 ≤ n1) (hn0 : n0 < 2 ^ 30) (hn1 : n1 < 2 ^ 30) :
    ∃ Y', f_X6_copy Y r0 n0 r1 n1 (nI o1) (nI o3) = some Y' ∧ (∀ r, r ≠ r1 → Y' r = Y r) ∧ (∀ k, k < 580 → Y' r1 (o3 + k) = Y r0 (o1 + k)) ∧ ∀ j, j < o3 ∨ o3 + 580 ≤ j → Y' r1 j = Y r1 j := by
  have key : ∀ (n k fu : Nat) (Z : Nat → Nat → Int32), k + n = 580 → n < fu → (∀ r, r ≠ r1 → Z r = Y r) →
      ∃ Y', f_X6_copy_L3 r0 n0 r1 n1 (nI o1) (nI o3) fu Z (nI k) = some Y' ∧ (∀ r, r ≠ r1 → Y' r = Y r) ∧ (∀ j, k ≤ j → j < 580 → Y' r1 (o3 + j) = Y r0 (o1 + j)) ∧ ∀ j, j < o3 + k ∨ o3 + 580 ≤ j → Y' r1 j = Z r1 j := by
    intro n
    induction n with
    | zero =>
      intro k fu Z hk hfu hZ
      obtain ⟨fu', rfl, -⟩ := fu_s hfu
      refine ⟨Z, ?_, hZ, fun j h2 h3 => by omega, fun _ _ => rfl⟩
      rw [f_X6_copy_L3, if_pos (nI_le (by omega) (by omega))]
    | succ n ih =>
      intro k fu Z hk hfu hZ
      obtain ⟨fu', rfl, hf2⟩ := fu_s hfu
      rw [f_X6_copy_L3, if_neg (nI_ge (by omega) (by omega)), nI_add, nI_add, if_neg (nI_in (by omega) (by omega)), if_neg (nI_in (by omega) (by omega)), nI_clamp (by omega), nI_clamp (by omega), nI_1]
      unfold zlet
      obtain ⟨Y', e, q1, q2, q3⟩ := ih (k + 1) fu' (zU Z r1 (o3 + k) (Z r0 (o1 + k))) (by omega) (hf2 n rfl) (fun r hr2 => by rw [zU_r _ _ _ _ hr2, hZ r hr2])
      refine ⟨Y', e, q1, fun j h2 h3 => ?_, fun j hj => ?_⟩
      · by_cases c : j = k
        · subst c
          rw [q3 _ (by omega), zU_s, hZ r0 hr]
        · exact q2 j (by omega) h3
      · rw [q3 j (by omega), zU_k _ _ _ _ (by omega)]
  obtain ⟨Y', e, q1, q2, q3⟩ := key 580 0 zFuel Y rfl (by decide) (fun _ _ => rfl)
  exact ⟨Y', e, q1, fun k hk => q2 k (Nat.zero_le k) hk, fun j hj => q3 j (by omega)⟩
