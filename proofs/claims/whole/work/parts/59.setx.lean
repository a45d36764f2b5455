section SX
variable {X Y : Nat → Nat → Int32} {a : Nat → Nat}
theorem sim_setShares (h : zInv 0 X Y a) (v1 v2 v3 v4 : Int32) : zSim X Y K31 (some (f_X5_setShares X v1 v2 v3 v4)) (f_X6_setShares Y v1 v2 v3 v4) := by
  unfold f_X5_setShares f_X6_setShares
  rcases film_cases h.1 h.2.1 h.2.2.1.1 v1 with ⟨e1, e2⟩ | ⟨e1, e2, f, hf, rfl⟩
  · rw [e1, e2, if_pos nI_0, if_pos nI_0]
    exact .no h (zTxt.rf Y) (by decide) rfl
  rw [e1, e2, if_neg nI_10, if_neg nI_10]
  rcases in_cases v2 (lo := 0) (hi := 100) (by decide) (by decide) with ⟨e1, e2, -⟩ | ⟨e1, e2, n2, l2, u2, rfl⟩
  · rw [e1, e2, if_pos nI_0, if_pos nI_0]
    exact .no h (zTxt.rf Y) (by decide) rfl
  rw [e1, e2, if_neg nI_10, if_neg nI_10]
  rcases in_cases v3 (lo := 0) (hi := 50) (by decide) (by decide) with ⟨e1, e2, -⟩ | ⟨e1, e2, n3, l3, u3, rfl⟩
  · rw [e1, e2, if_pos nI_0, if_pos nI_0]
    exact .no h (zTxt.rf Y) (by decide) rfl
  rw [e1, e2, if_neg nI_10, if_neg nI_10]
  rcases in_cases v4 (lo := 0) (hi := n2) (by omega) (by decide) with ⟨e1, e2, -⟩ | ⟨e1, e2, n4, l4, u4, rfl⟩
  · rw [e1, e2, if_pos nI_0, if_pos nI_0]
    exact .no h (zTxt.rf Y) (by decide) rfl
  rw [e1, e2, if_neg nI_10, if_neg nI_10]
  obtain ⟨Yr, er, hk, hT, -⟩ := z_keep h
  rw [er, Option.bind_some]
  generalize f_X0_keep X = Xk at hk ⊢
  have hG := hk.2.2.1
  have g2 := hG.1.c2
  obtain ⟨bH, bF, bT, bS, bL, bC, b1, b0⟩ := zRB_iff.mp hk.1
  have pu : ∀ (W : Nat → Nat → Int32) (i : Nat) (v : Int32), W 4 1 = nI 12 → i < 12 → f_X4_put W 4 96 (nI f) (nI i) v = zU W 5 (f * 12 + i) v := fun W i v hW hi => n_put hW (by decide) (by omega) v
  simp only [zlet_eq]
  rw [pu _ 9 _ bF.1.1 (by decide), pu _ 10 _ (by rw [zU_r _ _ _ _ (by decide)]; exact bF.1.1) (by decide), pu _ 11 _ (by rw [zU_r _ _ _ _ (by decide), zU_r _ _ _ _ (by decide)]; exact bF.1.1) (by decide), n_flm9 hk.1 hG.1 hf, m_flm hk.2.1 (by omega) (by decide), Option.bind_some]
  simp only [pk_mul, nI_add]
  have i5 := nI_ix (n := 54 + 8 * f + 5) (by omega)
  have i6 := nI_ix (n := 54 + 8 * f + 6) (by omega)
  have i7 := nI_ix (n := 54 + 8 * f + 7) (by omega)
  simp only [i5, i6, i7, if_false]
  rw [nI_clamp (n := 54 + 8 * f + 5) (by omega), nI_clamp (n := 54 + 8 * f + 6) (by omega), nI_clamp (n := 54 + 8 * f + 7) (by omega)]
  generalize eX : zU (zU (zU Xk 5 (f * 12 + 9) (nI n2)) 5 (f * 12 + 10) (nI n3)) 5 (f * 12 + 11) (nI n4) = X'
  have x9 : X' 5 (f * 12 + 9) = nI n2 := by rw [← eX, zU_k _ _ _ _ (by omega), zU_k _ _ _ _ (by omega), zU_s]
  have x10 : X' 5 (f * 12 + 10) = nI n3 := by rw [← eX, zU_k _ _ _ _ (by omega), zU_s]
  have x11 : X' 5 (f * 12 + 11) = nI n4 := by rw [← eX, zU_s]
  have xc : ∀ j, j < f * 12 + 9 ∨ f * 12 + 11 < j → X' 5 j = Xk 5 j := fun j hj => by rw [← eX, zU_k _ _ _ _ (by omega), zU_k _ _ _ _ (by omega), zU_k _ _ _ _ (by omega)]
  have xr : ∀ r, r ≠ 5 → X' r = Xk r := fun r q => by rw [← eX, zU_r _ _ _ _ q, zU_r _ _ _ _ q, zU_r _ _ _ _ q]
  have s5 : sp (54 + 8 * f + 5) = false := sp_mid (by omega) (by omega)
  have s6 : sp (54 + 8 * f + 6) = false := sp_mid (by omega) (by omega)
  have s7 : sp (54 + 8 * f + 7) = false := sp_mid (by omega) (by omega)
  have hR5 := ((hk.2.1.put (k := 54 + 8 * f + 5) (n := n2) (en_n s5).symm).put (k := 54 + 8 * f + 6) (n := n3) (en_n s6).symm).put (k := 54 + 8 * f + 7) (n := n4) (en_n s7).symm
  generalize eA' : up (up (up a (54 + 8 * f + 5) n2) (54 + 8 * f + 6) n3) (54 + 8 * f + 7) n4 = a' at hR5
  have t5 : flm a' f 5 = n2 := by rw [← eA']; unfold flm; rw [up_n _ (by omega), up_n _ (by omega), up_s]
  have t6 : flm a' f 6 = n3 := by rw [← eA']; unfold flm; rw [up_n _ (by omega), up_s]
  have t7 : flm a' f 7 = n4 := by rw [← eA']; unfold flm; rw [up_s]
  have to : ∀ j, (j < 54 + 8 * f + 5 ∨ 54 + 8 * f + 7 < j) → a' j = a j := fun j k1 => by rw [← eA', up_n _ (by omega), up_n _ (by omega), up_n _ (by omega)]
  have tl : ∀ x k, k < 5 → flm a' x k = flm a x k := fun x k hk => to _ (by omega)
  have tho : ∀ x k, x ≠ f → k < 8 → flm a' x k = flm a x k := fun x k hx hk => to _ (by omega)
  have t2 : a' 2 = a 2 := to 2 (by omega)
  have hGF : GdF a' := by
    intro x hx
    rw [t2] at hx
    have := hG.1.2.2.1 x hx
    rw [tl x 0 (by decide), tl x 1 (by decide), tl x 2 (by decide), tl x 3 (by decide), tl x 4 (by decide)]
    by_cases e : x = f
    · subst e
      rw [t5, t6, t7]
      omega
    · rw [tho x 5 e (by decide), tho x 6 e (by decide), tho x 7 e (by decide)]
      exact this
  have hBG : zRB X' 1 a' ∧ Gd2 a' := by
    refine fr_F hk.1 hG ⟨by rw [xr 4 (by decide), t2]; exact bF.1, fun x hx => ?_⟩ hGF (fun r _ q => xr r q) (fun j k1 k2 => to j (by omega)) (by omega) (by omega) (fun x hx => ⟨tl x 0 (by decide), tl x 4 (by decide)⟩)
    rw [t2] at hx
    have := bF.2 x hx
    refine ⟨fun k hk => by rw [tl x k hk, xc _ (by omega)]; exact this.1 k hk, fun k hk => ?_⟩
    by_cases e : x = f
    · subst e
      match k, hk with
      | 0, _ => rw [x9, t5]
      | 1, _ => rw [x10, t6]
      | 2, _ => rw [x11, t7]
    · rw [tho x (5 + k) e (by omega), xc _ (by omega)]; exact this.2 k hk
  have hFY := ((FY.put Yr (54 + 8 * f + 5) (nI n2)).tr (FY.put _ (54 + 8 * f + 6) (nI n3))).tr (FY.put _ (54 + 8 * f + 7) (nI n4))
  exact .ok (hk.fr hBG.1 hR5 hBG.2 (FX.of (fun r k1 => xr r (by omega))) (hk.con.fr (xr 147 (by decide))) hFY) (hT.tr hFY.txt) rfl rfl
theorem sim_setLimit (h : zInv 0 X Y a) (v1 v2 : Int32) : zSim X Y K31 (some (f_X5_setLimit X v1 v2)) (f_X6_setLimit Y v1 v2) := by
  unfold f_X5_setLimit f_X6_setLimit
  rcases in_cases v1 (lo := 0) (hi := 15) (by decide) (by decide) with ⟨e1, e2, -⟩ | ⟨e1, e2, w, l1, u1, rfl⟩
  · rw [e1, e2, if_pos nI_0, if_pos nI_0]
    exact .no h (zTxt.rf Y) (by decide) rfl
  rw [e1, e2, if_neg nI_10, if_neg nI_10]
  rcases in_cases v2 (lo := 0) (hi := 3) (by decide) (by decide) with ⟨e1, e2, -⟩ | ⟨e1, e2, n2, l2, u2, rfl⟩
  · rw [show f_X5_isRating v2 = f_X5_isWithin v2 (nI 0) (nI 3) from rfl, e1, e2, if_pos nI_0, if_pos nI_0]
    exact .no h (zTxt.rf Y) (by decide) rfl
  rw [show f_X5_isRating (nI n2) = f_X5_isWithin (nI n2) (nI 0) (nI 3) from rfl, e1, e2, if_neg nI_10, if_neg nI_10]
  obtain ⟨Yr, er, hk, hT, -⟩ := z_keep h
  rw [er, Option.bind_some]
  generalize f_X0_keep X = Xk at hk ⊢
  have hG := hk.2.2.1
  obtain ⟨bH, bF, bT, bS, bL, bC, b1, b0⟩ := zRB_iff.mp hk.1
  unfold f_X3_exchangeSetting
  simp only [zlet_eq]
  have i0 := nI_ix (n := 14 + w) (by omega)
  rw [nI_add, nI_add, n_lim hk.1 (by omega), n_put (r := 12) (n := 26) (c := 26) (x := 0) (k := 10 + w) bC.1 (by decide) (by omega)]
  simp only [i0, if_false]
  rw [nI_clamp (n := 14 + w) (by omega), show Yr 1 (14 + w) = nI (a (14 + w)) from hk.2.1.lo (by omega)]
  have e10 : 0 * 26 + (10 + w) = 10 + w := by omega
  rw [e10]
  have hR5 := hk.2.1.put (k := 14 + w) (n := n2) (en_n (sp_lo (by omega))).symm
  have to : ∀ j, j ≠ 14 + w → up a (14 + w) n2 j = a j := fun j hj => up_n _ hj
  have hBG : zRB (zU Xk (12 + 1) (10 + w) (nI n2)) 1 (up a (14 + w) n2) ∧ Gd2 (up a (14 + w) n2) := by
    refine fr_C hk.1 hG ⟨by rw [zU_r _ _ _ _ (by decide)]; exact bC.1, fun k hk2 => ?_, fun k hk2 => ?_⟩ (b1.cg (zU_r _ _ _ _ (by decide)) (to 0 (by omega)) (to 5 (by omega))) ?_ (fun r q1 q2 q3 => zU_r _ _ _ _ q3) (fun j q1 q2 q3 => to j (by omega))
    · rw [to _ (by omega), zU_k _ _ _ _ (by omega)]; exact bC.2.1 k hk2
    · by_cases e : k = w
      · subst e; rw [up_s, zU_s]
      · rw [to _ (by omega), zU_k _ _ _ _ (by omega)]; exact bC.2.2 k hk2
    · have hg := hG.1.1
      unfold GdC at hg ⊢
      rw [to 0 (by omega), to 1 (by omega), to 2 (by omega), to 3 (by omega), to 4 (by omega), to 6 (by omega), to 7 (by omega), to 8 (by omega), to 9 (by omega), to 10 (by omega), to 11 (by omega), to 12 (by omega), to 13 (by omega)]
      obtain ⟨q0, q1, q2, q3, q4, q6, q7, q8, q9, q10, q11, q12, q13, q14⟩ := hg
      refine ⟨q0, q1, q2, q3, q4, q6, q7, q8, q9, q10, q11, q12, q13, fun k hk2 => ?_⟩
      by_cases e : k = w
      · subst e; rw [up_s]; omega
      · rw [to _ (by omega)]; exact q14 k hk2
  have hFY := FY.put Yr (14 + w) (nI n2)
  exact .ok (hk.fr hBG.1 hR5 hBG.2 (FX.of (fun r k1 => zU_r _ _ _ _ (by omega))) (hk.con.fr (zU_r _ _ _ _ (by decide))) hFY) (hT.tr hFY.txt) rfl rfl
end SX
