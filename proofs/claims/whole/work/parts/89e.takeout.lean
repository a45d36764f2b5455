/-! A FAILURE: the class takes shows out -/
section TKO
variable {X X' : Nat → Nat → Int32} {a a' b : Nat → Nat}
theorem fr_L (hB : zRB X 1 a) (hG : Gd2 a) (bL : PL X' a') (g6 : a' 6 ≤ 30) (g7 : a' 7 ≤ 1) (h70 : a' 7 = 0 → a' 6 = 0) (xr : ∀ r, r ≠ 10 → r ≠ 11 → X' r = X r) (to : ∀ j, j ≠ 6 → j ≠ 7 → j < 428 → a' j = a j) : zRB X' 1 a' ∧ Gd2 a' := by
  obtain ⟨bH, bF, bT, bS, -, bC, b1, b0⟩ := zRB_iff.mp hB
  have c2 := hG.1.c2
  have t := fun j h1 h2 h3 => to j h1 h2 h3
  have hfl : ∀ f k, f < a 2 → k < 8 → flm a' f k = flm a f k := fun f k hf hk => flm_cg (by omega) hk (fun j k1 k2 => to j (by omega) (by omega) (by omega))
  have gG : Gd a' := hG.1.vw (fun j hj q1 q2 => to j q1 q2 (by omega)) g6 g7 (fun s k hs hk => to _ (by omega) (by omega) (by omega)) (fun s hs => by
    have h4 := hG.1.c4
    have hS := hG.1.2.2.2.2 s hs
    rw [show shw a' s 8 = shw a s 8 from to _ (by omega) (by omega) (by omega)]
    omega)
  refine ⟨zRB_iff.mpr ⟨bH.cg hG.1 (xr 2 (by decide) (by decide)) (xr 3 (by decide) (by decide)) (to 1 (by decide) (by decide) (by decide)) (fun j k1 k2 => to j (by omega) (by omega) (by omega)), bF.cg hG.1 (xr 4 (by decide) (by decide)) (xr 5 (by decide) (by decide)) (to 2 (by decide) (by decide) (by decide)) (fun j k1 k2 => to j (by omega) (by omega) (by omega)), bT.cg hG.1 (xr 6 (by decide) (by decide)) (xr 7 (by decide) (by decide)) (to 3 (by decide) (by decide) (by decide)) (fun j k1 k2 => to j (by omega) (by omega) (by omega)), bS.cg hG.1 (xr 8 (by decide) (by decide)) (xr 9 (by decide) (by decide)) (to 4 (by decide) (by decide) (by decide)) (fun j k1 k2 => to j (by omega) (by omega) (by omega)) (fun f hf => hfl f 0 hf (by decide)), bL, bC.cg (xr 12 (by decide) (by decide)) (xr 13 (by decide) (by decide)) (fun j k1 k2 => to j (by omega) (by omega) (by omega)), b1.cg (xr 1 (by decide) (by decide)) (to 0 (by decide) (by decide) (by decide)) (to 5 (by decide) (by decide) (by decide)), h70⟩, hG.cg gG (to 4 (by decide) (by decide) (by decide)) (fun j k1 k2 => to j (by omega) (by omega) (by omega))⟩
theorem get_cg {r n : Nat} {i k : Int32} (h1 : X' r = X r) (h2 : X' (r + 1) = X (r + 1)) : f_X4_get X' r n i k = f_X4_get X r n i k := by
  unfold f_X4_get
  rw [h1, h2]
/-- the next line tells of the show s -/
def lnA (b : Nat → Nat) (s : Nat) : Nat → Nat := up (up (up (up (up (up b (428 + 5 * b 6 + 0) s) (428 + 5 * b 6 + 1) (shw b s 3)) (428 + 5 * b 6 + 2) 0) (428 + 5 * b 6 + 3) 0) (428 + 5 * b 6 + 4) (shw b s 7)) 6 (b 6 + 1)
theorem lnA_lo {s j : Nat} (h1 : j ≠ 6) (h2 : j < 428) : lnA b s j = b j := by
  unfold lnA
  rw [up_n _ h1, up_n _ (by omega), up_n _ (by omega), up_n _ (by omega), up_n _ (by omega), up_n _ (by omega)]
theorem lnA_old {s i k : Nat} (hi : i < b 6) (hk : k < 5) : lin (lnA b s) i k = lin b i k := by
  unfold lin lnA
  rw [up_n _ (by omega), up_n _ (by omega), up_n _ (by omega), up_n _ (by omega), up_n _ (by omega), up_n _ (by omega)]
theorem lnA_new {s : Nat} : lin (lnA b s) (b 6) 0 = s ∧ lin (lnA b s) (b 6) 1 = shw b s 3 ∧ lin (lnA b s) (b 6) 2 = 0 ∧ lin (lnA b s) (b 6) 3 = 0 ∧ lin (lnA b s) (b 6) 4 = shw b s 7 := by
  unfold lin lnA
  refine ⟨?_, ?_, ?_, ?_, ?_⟩
  · rw [up_n _ (by omega), up_n _ (by omega), up_n _ (by omega), up_n _ (by omega), up_n _ (by omega), up_s]
  · rw [up_n _ (by omega), up_n _ (by omega), up_n _ (by omega), up_n _ (by omega), up_s]
  · rw [up_n _ (by omega), up_n _ (by omega), up_n _ (by omega), up_s]
  · rw [up_n _ (by omega), up_n _ (by omega), up_s]
  · rw [up_n _ (by omega), up_s]
theorem n_line (hB : zRB X 1 b) (hG : Gd2 b) {s : Nat} (hs : s < b 4) (hk : b 6 < 30) (h7 : b 7 = 1) : ∃ X1 X5, f_X4_addRow X 10 150 = some (nI (b 6), X1) ∧
    X5 = f_X4_put (f_X4_put (f_X4_put (f_X4_put X1 10 150 (nI (b 6)) (nI 0) (nI s)) 10 150 (nI (b 6)) (nI 1) (f_X4_get X 8 360 (nI s) (nI 3))) 10 150 (nI (b 6)) (nI 2) (-1 : Int32)) 10 150 (nI (b 6)) (nI 3) (-1 : Int32) ∧
    zRB (f_X4_put X5 10 150 (nI (b 6)) (nI 4) (f_X4_get X5 8 360 (nI s) (nI 5))) 1 (lnA b s) ∧ Gd2 (lnA b s) ∧ ∀ r, r ≠ 10 → r ≠ 11 → f_X4_put X5 10 150 (nI (b 6)) (nI 4) (f_X4_get X5 8 360 (nI s) (nI 5)) r = X r := by
  obtain ⟨bH, bF, bT, bS, bL, bC, b1, b0⟩ := zRB_iff.mp hB
  have e1 := n_addRow (X := X) (r := 10) (n := 150) (c := 5) (m := 30) (k := b 6) bL.1.1 bL.1.2.1 bL.1.2.2 hk (by decide) (by omega) (by decide)
  refine ⟨_, _, e1, rfl, ?_⟩
  obtain ⟨W, hW⟩ : ∃ W, W = zR X (10 + 1) (zClr (X (10 + 1)) (b 6 * 5) (b 6 * 5 + 5)) := ⟨_, rfl⟩
  rw [← hW]
  have w1 : ∀ (Z : Nat → Nat → Int32) (i : Nat) (v : Int32), Z 10 1 = nI 5 → i < 5 → f_X4_put Z 10 150 (nI (b 6)) (nI i) v = zU Z 11 (b 6 * 5 + i) v := fun Z i v hZ hi => n_put hZ (by decide) (by omega) v
  have wr : ∀ r, r ≠ 11 → W r = X r := fun r hr => by rw [hW]; exact zR_n _ _ hr
  have w10 : (zU W 10 3 (nI (b 6 + 1))) 10 1 = nI 5 := by rw [zU_k _ _ _ _ (by decide), wr 10 (by decide)]; exact bL.1.1
  rw [n_shw hB hG.1 hs (by decide), w1 _ 0 _ w10 (by decide), w1 _ 1 _ (by rw [zU_r _ _ _ _ (by decide)]; exact w10) (by decide), w1 _ 2 _ (by rw [zU_r _ _ _ _ (by decide), zU_r _ _ _ _ (by decide)]; exact w10) (by decide), w1 _ 3 _ (by rw [zU_r _ _ _ _ (by decide), zU_r _ _ _ _ (by decide), zU_r _ _ _ _ (by decide)]; exact w10) (by decide)]
  obtain ⟨V, hV⟩ : ∃ V, V = zU (zU (zU (zU (zU W 10 3 (nI (b 6 + 1))) 11 (b 6 * 5 + 0) (nI s)) 11 (b 6 * 5 + 1) (nI (shw b s 3))) 11 (b 6 * 5 + 2) (-1 : Int32)) 11 (b 6 * 5 + 3) (-1 : Int32) := ⟨_, rfl⟩
  rw [← hV]
  have vr : ∀ r, r ≠ 10 → r ≠ 11 → V r = X r := fun r q1 q2 => by rw [hV, zU_r _ _ _ _ q2, zU_r _ _ _ _ q2, zU_r _ _ _ _ q2, zU_r _ _ _ _ q2, zU_r _ _ _ _ q1]; exact wr r q2
  have v10 : ∀ k, k ≠ 3 → V 10 k = X 10 k := fun k hk => by rw [hV, zU_r _ _ _ _ (by decide), zU_r _ _ _ _ (by decide), zU_r _ _ _ _ (by decide), zU_r _ _ _ _ (by decide), zU_k _ _ _ _ hk, wr 10 (by decide)]
  rw [get_cg (vr 8 (by decide) (by decide)) (vr 9 (by decide) (by decide)), n_tic hB hG.1 hs, w1 V 4 _ (by rw [v10 1 (by decide)]; exact bL.1.1) (by decide)]
  have xr : ∀ r, r ≠ 10 → r ≠ 11 → zU V 11 (b 6 * 5 + 4) (nI (shw b s 7)) r = X r := fun r q1 q2 => by rw [zU_r _ _ _ _ q2]; exact vr r q1 q2
  have h6 : lnA b s 6 = b 6 + 1 := up_s _ _ _
  have h77 : lnA b s 7 = b 7 := lnA_lo (by decide) (by decide)
  have old : ∀ j, j < b 6 * 5 → zU V 11 (b 6 * 5 + 4) (nI (shw b s 7)) 11 j = X 11 j := fun j hj => by
    rw [zU_k _ _ _ _ (by omega), hV, zU_k _ _ _ _ (by omega), zU_k _ _ _ _ (by omega), zU_k _ _ _ _ (by omega), zU_k _ _ _ _ (by omega), zU_r _ _ _ _ (by decide), hW]
    show zR X 11 (zClr (X 11) (b 6 * 5) (b 6 * 5 + 5)) 11 j = X 11 j
    rw [zR_s]
    unfold zClr
    rw [if_neg (by omega)]
  have bL' : PL (zU V 11 (b 6 * 5 + 4) (nI (shw b s 7))) (lnA b s) := by
    refine ⟨⟨?_, ?_, ?_⟩, fun i hi => ?_⟩
    · rw [zU_r _ _ _ _ (by decide), v10 1 (by decide)]; exact bL.1.1
    · rw [zU_r _ _ _ _ (by decide), v10 2 (by decide)]; exact bL.1.2.1
    · rw [zU_r _ _ _ _ (by decide), hV, zU_r _ _ _ _ (by decide), zU_r _ _ _ _ (by decide), zU_r _ _ _ _ (by decide), zU_r _ _ _ _ (by decide), zU_s, h6]
    · rw [h6] at hi
      by_cases c : i < b 6
      · rw [lnA_old c (by decide), lnA_old c (by decide), lnA_old c (by decide), lnA_old c (by decide), lnA_old c (by decide), old _ (by omega), old _ (by omega), old _ (by omega), old _ (by omega), old _ (by omega)]
        exact bL.2 i c
      · have e : i = b 6 := by omega
        subst e
        obtain ⟨n0, n1, n2, n3, n4⟩ := lnA_new (b := b) (s := s)
        rw [n0, n1, n2, n3, n4]
        refine ⟨?_, ?_, ?_, ?_, zU_s _ _ _ _⟩
        · rw [zU_k _ _ _ _ (by omega), hV, zU_k _ _ _ _ (by omega), zU_k _ _ _ _ (by omega), zU_k _ _ _ _ (by omega), zU_s]
        · rw [zU_k _ _ _ _ (by omega), hV, zU_k _ _ _ _ (by omega), zU_k _ _ _ _ (by omega), zU_s]
        · rw [zU_k _ _ _ _ (by omega), hV, zU_k _ _ _ _ (by omega), zU_s]; decide
        · rw [zU_k _ _ _ _ (by omega), hV, zU_s]; decide
  have res := fr_L (X' := zU V 11 (b 6 * 5 + 4) (nI (shw b s 7))) (a' := lnA b s) hB hG bL' (by rw [h6]; omega) (by rw [h77, h7]; exact Nat.le_refl _) (fun q => by rw [h77, h7] at q; omega) xr (fun j q1 q2 q3 => lnA_lo q1 q3)
  exact ⟨res.1, res.2, xr⟩
end TKO
