section AF
variable {X Y : Nat → Nat → Int32} {a : Nat → Nat}
theorem sim_addFilm (h : zInv 0 X Y a) (v1 v2 v3 v4 v5 : Int32) : zSim X Y K12 (f_X5_addFilm X v1 v2 v3 v4 v5) (f_X6_addFilm Y v1 v2 v3 v4 v5) := by
  unfold f_X5_addFilm f_X6_addFilm
  rcases in_cases v1 (lo := 30) (hi := 240) (by decide) (by decide) with ⟨e1, e2, -⟩ | ⟨e1, e2, n1, l1, u1, rfl⟩
  · rw [e1, e2, if_pos nI_0, if_pos nI_0]
    exact .no h (zTxt.rf Y) (by decide) rfl
  rw [e1, e2, if_neg nI_10, if_neg nI_10]
  rcases in_cases v2 (lo := 0) (hi := 3) (by decide) (by decide) with ⟨e1, e2, -⟩ | ⟨e1, e2, n2, l2, u2, rfl⟩
  · rw [show f_X5_isRating v2 = f_X5_isWithin v2 (nI 0) (nI 3) from rfl, e1, e2, if_pos nI_0, if_pos nI_0]
    exact .no h (zTxt.rf Y) (by decide) rfl
  rw [show f_X5_isRating (nI n2) = f_X5_isWithin (nI n2) (nI 0) (nI 3) from rfl, e1, e2, if_neg nI_10, if_neg nI_10]
  rcases in_cases v3 (lo := 1) (hi := 63) (by decide) (by decide) with ⟨e1, e2, -⟩ | ⟨e1, e2, n3, l3, u3, rfl⟩
  · rw [show f_X5_isGenres v3 = f_X5_isWithin v3 (nI 1) (nI 63) from rfl, e1, e2, if_pos nI_0, if_pos nI_0]
    exact .no h (zTxt.rf Y) (by decide) rfl
  rw [show f_X5_isGenres (nI n3) = f_X5_isWithin (nI n3) (nI 1) (nI 63) from rfl, e1, e2, if_neg nI_10, if_neg nI_10]
  rcases in_cases v4 (lo := 1) (hi := 3) (by decide) (by decide) with ⟨e1, e2, -⟩ | ⟨e1, e2, n4, l4, u4, rfl⟩
  · rw [e1, e2, if_pos nI_0, if_pos nI_0]
    exact .no h (zTxt.rf Y) (by decide) rfl
  rw [e1, e2, if_neg nI_10, if_neg nI_10]
  rcases day_cases v5 with ⟨e1, e2⟩ | ⟨e1, e2, n5, u5, rfl⟩
  · rw [e1, e2, if_pos nI_0, if_pos nI_0]
    exact .no h (zTxt.rf Y) (by decide) rfl
  rw [e1, e2, if_neg nI_10, if_neg nI_10]
  have g1 := h.2.2.1.1.c2
  rw [n_size (n_nF h.1), show Y 1 (nI 2).toNatClampNeg = nI (a 2) from h.2.1.lo (k := 2) (by decide)]
  by_cases c : a 2 = 8
  · rw [if_neg (nI_nlt (by omega) (by omega)), if_pos (by rw [c])]
    exact .no h (zTxt.rf Y) (by decide) rfl
  rw [if_pos (nI_lt (by omega) (by omega)), if_neg (fun q => c ((nI_eq (by omega) (by decide)).mp q))]
  obtain ⟨Yr, er, hk, hT, -⟩ := z_keep h
  rw [er, Option.bind_some]
  generalize f_X0_keep X = Xk at hk ⊢
  have hG := hk.2.2.1
  obtain ⟨bH, bF, bT, bS, bL, bC, b1, b0⟩ := zRB_iff.mp hk.1
  rw [zlet_eq, n_addRow (X := Xk) (r := 4) (n := 96) bF.1.1 bF.1.2.1 bF.1.2.2 (by omega) (by decide) (by omega) (by decide), Option.bind_some]
  generalize eZ : zU (zR Xk (4 + 1) (zClr (Xk (4 + 1)) (a 2 * 12) (a 2 * 12 + 12))) 4 3 (nI (a 2 + 1)) = Z
  have z1 : Z 4 1 = nI 12 := by rw [← eZ, zU_k _ _ _ _ (by decide), zR_n _ _ (by decide)]; exact bF.1.1
  have z2 : Z 4 2 = nI 8 := by rw [← eZ, zU_k _ _ _ _ (by decide), zR_n _ _ (by decide)]; exact bF.1.2.1
  have z3 : Z 4 3 = nI (a 2 + 1) := by rw [← eZ, zU_s]
  have zr : ∀ r, r ≠ 4 → r ≠ 5 → Z r = Xk r := fun r q1 q2 => by rw [← eZ, zU_r _ _ _ _ q1, zR_n _ _ q2]
  have zc : ∀ j, j < a 2 * 12 → Z 5 j = Xk 5 j := fun j hj => by
    rw [← eZ, zU_r _ _ _ _ (by decide), zR_s]
    exact if_neg (by omega)
  have pu : ∀ (W : Nat → Nat → Int32) (i : Nat) (v : Int32), W 4 1 = nI 12 → i < 12 → f_X4_put W 4 96 (nI (a 2)) (nI i) v = zU W 5 (a 2 * 12 + i) v := fun W i v hW hi => n_put hW (by decide) (by omega) v
  simp only [zlet_eq]
  rw [pu _ 0 _ z1 (by decide), pu _ 1 _ (by rw [zU_r _ _ _ _ (by decide)]; exact z1) (by decide), pu _ 2 _ (by rw [zU_r _ _ _ _ (by decide), zU_r _ _ _ _ (by decide)]; exact z1) (by decide), pu _ 3 _ (by rw [zU_r _ _ _ _ (by decide), zU_r _ _ _ _ (by decide), zU_r _ _ _ _ (by decide)]; exact z1) (by decide), pu _ 4 _ (by rw [zU_r _ _ _ _ (by decide), zU_r _ _ _ _ (by decide), zU_r _ _ _ _ (by decide), zU_r _ _ _ _ (by decide)]; exact z1) (by decide), pu _ 9 _ (by rw [zU_r _ _ _ _ (by decide), zU_r _ _ _ _ (by decide), zU_r _ _ _ _ (by decide), zU_r _ _ _ _ (by decide), zU_r _ _ _ _ (by decide)]; exact z1) (by decide), pu _ 10 _ (by rw [zU_r _ _ _ _ (by decide), zU_r _ _ _ _ (by decide), zU_r _ _ _ _ (by decide), zU_r _ _ _ _ (by decide), zU_r _ _ _ _ (by decide), zU_r _ _ _ _ (by decide)]; exact z1) (by decide), pu _ 11 _ (by rw [zU_r _ _ _ _ (by decide), zU_r _ _ _ _ (by decide), zU_r _ _ _ _ (by decide), zU_r _ _ _ _ (by decide), zU_r _ _ _ _ (by decide), zU_r _ _ _ _ (by decide), zU_r _ _ _ _ (by decide)]; exact z1) (by decide)]
  generalize eX : zU (zU (zU (zU (zU (zU (zU (zU Z 5 (a 2 * 12 + 0) (nI n1)) 5 (a 2 * 12 + 1) (nI n2)) 5 (a 2 * 12 + 2) (nI n3)) 5 (a 2 * 12 + 3) (nI n4)) 5 (a 2 * 12 + 4) (nI n5)) 5 (a 2 * 12 + 9) (nI 60)) 5 (a 2 * 12 + 10) (nI 10)) 5 (a 2 * 12 + 11) (nI 20) = X'
  have x0 : X' 5 (a 2 * 12 + 0) = (nI n1) := by rw [← eX, zU_k _ _ _ _ (by omega), zU_k _ _ _ _ (by omega), zU_k _ _ _ _ (by omega), zU_k _ _ _ _ (by omega), zU_k _ _ _ _ (by omega), zU_k _ _ _ _ (by omega), zU_k _ _ _ _ (by omega), zU_s]
  have x1 : X' 5 (a 2 * 12 + 1) = (nI n2) := by rw [← eX, zU_k _ _ _ _ (by omega), zU_k _ _ _ _ (by omega), zU_k _ _ _ _ (by omega), zU_k _ _ _ _ (by omega), zU_k _ _ _ _ (by omega), zU_k _ _ _ _ (by omega), zU_s]
  have x2 : X' 5 (a 2 * 12 + 2) = (nI n3) := by rw [← eX, zU_k _ _ _ _ (by omega), zU_k _ _ _ _ (by omega), zU_k _ _ _ _ (by omega), zU_k _ _ _ _ (by omega), zU_k _ _ _ _ (by omega), zU_s]
  have x3 : X' 5 (a 2 * 12 + 3) = (nI n4) := by rw [← eX, zU_k _ _ _ _ (by omega), zU_k _ _ _ _ (by omega), zU_k _ _ _ _ (by omega), zU_k _ _ _ _ (by omega), zU_s]
  have x4 : X' 5 (a 2 * 12 + 4) = (nI n5) := by rw [← eX, zU_k _ _ _ _ (by omega), zU_k _ _ _ _ (by omega), zU_k _ _ _ _ (by omega), zU_s]
  have x9 : X' 5 (a 2 * 12 + 9) = (nI 60) := by rw [← eX, zU_k _ _ _ _ (by omega), zU_k _ _ _ _ (by omega), zU_s]
  have x10 : X' 5 (a 2 * 12 + 10) = (nI 10) := by rw [← eX, zU_k _ _ _ _ (by omega), zU_s]
  have x11 : X' 5 (a 2 * 12 + 11) = (nI 20) := by rw [← eX, zU_s]
  have xc : ∀ j, j < a 2 * 12 → X' 5 j = Xk 5 j := fun j hj => by rw [← eX, zU_k _ _ _ _ (by omega), zU_k _ _ _ _ (by omega), zU_k _ _ _ _ (by omega), zU_k _ _ _ _ (by omega), zU_k _ _ _ _ (by omega), zU_k _ _ _ _ (by omega), zU_k _ _ _ _ (by omega), zU_k _ _ _ _ (by omega), zc j hj]
  have xr : ∀ r, r ≠ 4 → r ≠ 5 → X' r = Xk r := fun r q1 q2 => by rw [← eX, zU_r _ _ _ _ q2, zU_r _ _ _ _ q2, zU_r _ _ _ _ q2, zU_r _ _ _ _ q2, zU_r _ _ _ _ q2, zU_r _ _ _ _ q2, zU_r _ _ _ _ q2, zU_r _ _ _ _ q2, zr r q1 q2]
  have xt : X' 4 = Z 4 := by rw [← eX, zU_r _ _ _ _ (by decide), zU_r _ _ _ _ (by decide), zU_r _ _ _ _ (by decide), zU_r _ _ _ _ (by decide), zU_r _ _ _ _ (by decide), zU_r _ _ _ _ (by decide), zU_r _ _ _ _ (by decide), zU_r _ _ _ _ (by decide)]
  rw [show Yr 1 (nI 2).toNatClampNeg = nI (a 2) from hk.2.1.lo (k := 2) (by decide)]
  simp only [pk_mul, nI_add]
  have i0 := nI_ix (n := 54 + 8 * a 2) (by omega)
  have i1 := nI_ix (n := 54 + 8 * a 2 + 1) (by omega)
  have i2 := nI_ix (n := 54 + 8 * a 2 + 2) (by omega)
  have i3 := nI_ix (n := 54 + 8 * a 2 + 3) (by omega)
  have i4 := nI_ix (n := 54 + 8 * a 2 + 4) (by omega)
  have i5 := nI_ix (n := 54 + 8 * a 2 + 5) (by omega)
  have i6 := nI_ix (n := 54 + 8 * a 2 + 6) (by omega)
  have i7 := nI_ix (n := 54 + 8 * a 2 + 7) (by omega)
  simp only [i0, i1, i2, i3, i4, i5, i6, i7, if_false]
  rw [nI_clamp (n := 54 + 8 * a 2) (by omega), nI_clamp (n := 54 + 8 * a 2 + 1) (by omega), nI_clamp (n := 54 + 8 * a 2 + 2) (by omega), nI_clamp (n := 54 + 8 * a 2 + 3) (by omega), nI_clamp (n := 54 + 8 * a 2 + 4) (by omega), nI_clamp (n := 54 + 8 * a 2 + 5) (by omega), nI_clamp (n := 54 + 8 * a 2 + 6) (by omega), nI_clamp (n := 54 + 8 * a 2 + 7) (by omega), show (nI 2).toNatClampNeg = 2 from rfl]
  have s0 : sp (54 + 8 * a 2) = false := sp_mid (by omega) (by omega)
  have s1 : sp (54 + 8 * a 2 + 1) = false := sp_mid (by omega) (by omega)
  have s2 : sp (54 + 8 * a 2 + 2) = false := sp_mid (by omega) (by omega)
  have s3 : sp (54 + 8 * a 2 + 3) = false := sp_mid (by omega) (by omega)
  have s4 : sp (54 + 8 * a 2 + 4) = false := sp_mid (by omega) (by omega)
  have s5 : sp (54 + 8 * a 2 + 5) = false := sp_mid (by omega) (by omega)
  have s6 : sp (54 + 8 * a 2 + 6) = false := sp_mid (by omega) (by omega)
  have s7 : sp (54 + 8 * a 2 + 7) = false := sp_mid (by omega) (by omega)
  have hR4 := ((((((((hk.2.1.put (k := 54 + 8 * a 2) (n := n1) (en_n s0).symm).put (k := 54 + 8 * a 2 + 1) (n := n2) (en_n s1).symm).put (k := 54 + 8 * a 2 + 2) (n := n3) (en_n s2).symm).put (k := 54 + 8 * a 2 + 3) (n := n4) (en_n s3).symm).put (k := 54 + 8 * a 2 + 4) (n := n5) (en_n s4).symm).put (k := 54 + 8 * a 2 + 5) (n := 60) (en_n s5).symm).put (k := 54 + 8 * a 2 + 6) (n := 10) (en_n s6).symm).put (k := 54 + 8 * a 2 + 7) (n := 20) (en_n s7).symm)
  have eA : ∀ (Q : Nat → Nat → Int32), Q = zU (zU (zU (zU (zU (zU (zU (zU Yr 1 (54 + 8 * a 2) (nI n1)) 1 (54 + 8 * a 2 + 1) (nI n2)) 1 (54 + 8 * a 2 + 2) (nI n3)) 1 (54 + 8 * a 2 + 3) (nI n4)) 1 (54 + 8 * a 2 + 4) (nI n5)) 1 (54 + 8 * a 2 + 5) (nI 60)) 1 (54 + 8 * a 2 + 6) (nI 10)) 1 (54 + 8 * a 2 + 7) (nI 20) → Q 1 2 = nI (a 2) ∧ FY Yr Q := by
    rintro Q rfl
    refine ⟨by rw [zU_k _ _ _ _ (by omega), zU_k _ _ _ _ (by omega), zU_k _ _ _ _ (by omega), zU_k _ _ _ _ (by omega), zU_k _ _ _ _ (by omega), zU_k _ _ _ _ (by omega), zU_k _ _ _ _ (by omega), zU_k _ _ _ _ (by omega)]; exact hk.2.1.lo (k := 2) (by decide), fun r hr => ?_, fun k q1 q2 => ?_⟩
    · rw [zU_r _ _ _ _ (by omega), zU_r _ _ _ _ (by omega), zU_r _ _ _ _ (by omega), zU_r _ _ _ _ (by omega), zU_r _ _ _ _ (by omega), zU_r _ _ _ _ (by omega), zU_r _ _ _ _ (by omega), zU_r _ _ _ _ (by omega)]
    · rw [zU_r _ _ _ _ (by decide), zU_r _ _ _ _ (by decide), zU_r _ _ _ _ (by decide), zU_r _ _ _ _ (by decide), zU_r _ _ _ _ (by decide), zU_r _ _ _ _ (by decide), zU_r _ _ _ _ (by decide), zU_r _ _ _ _ (by decide)]
  generalize zU (zU (zU (zU (zU (zU (zU (zU Yr 1 (54 + 8 * a 2) (nI n1)) 1 (54 + 8 * a 2 + 1) (nI n2)) 1 (54 + 8 * a 2 + 2) (nI n3)) 1 (54 + 8 * a 2 + 3) (nI n4)) 1 (54 + 8 * a 2 + 4) (nI n5)) 1 (54 + 8 * a 2 + 5) (nI 60)) 1 (54 + 8 * a 2 + 6) (nI 10)) 1 (54 + 8 * a 2 + 7) (nI 20) = Q at hR4 eA ⊢
  obtain ⟨q1, q2⟩ := eA Q rfl
  rw [q1, nI_add, zU_s, pk_sub (by omega), Nat.add_sub_cancel]
  have hR5 := hR4.put (k := 2) (n := a 2 + 1) (v := nI (a 2 + 1)) (en_n (sp_lo (by decide))).symm
  generalize eA' : up (up (up (up (up (up (up (up (up a (54 + 8 * a 2) n1) (54 + 8 * a 2 + 1) n2) (54 + 8 * a 2 + 2) n3) (54 + 8 * a 2 + 3) n4) (54 + 8 * a 2 + 4) n5) (54 + 8 * a 2 + 5) 60) (54 + 8 * a 2 + 6) 10) (54 + 8 * a 2 + 7) 20) 2 (a 2 + 1) = a' at hR5
  have t1 : a' 2 = a 2 + 1 := by rw [← eA', up_s]
  have th0 : flm a' (a 2) 0 = n1 := by rw [← eA']; unfold flm; rw [up_n _ (by omega), up_n _ (by omega), up_n _ (by omega), up_n _ (by omega), up_n _ (by omega), up_n _ (by omega), up_n _ (by omega), up_n _ (by omega), Nat.add_zero, up_s]
  have th1 : flm a' (a 2) 1 = n2 := by rw [← eA']; unfold flm; rw [up_n _ (by omega), up_n _ (by omega), up_n _ (by omega), up_n _ (by omega), up_n _ (by omega), up_n _ (by omega), up_n _ (by omega), up_s]
  have th2 : flm a' (a 2) 2 = n3 := by rw [← eA']; unfold flm; rw [up_n _ (by omega), up_n _ (by omega), up_n _ (by omega), up_n _ (by omega), up_n _ (by omega), up_n _ (by omega), up_s]
  have th3 : flm a' (a 2) 3 = n4 := by rw [← eA']; unfold flm; rw [up_n _ (by omega), up_n _ (by omega), up_n _ (by omega), up_n _ (by omega), up_n _ (by omega), up_s]
  have th4 : flm a' (a 2) 4 = n5 := by rw [← eA']; unfold flm; rw [up_n _ (by omega), up_n _ (by omega), up_n _ (by omega), up_n _ (by omega), up_s]
  have th5 : flm a' (a 2) 5 = 60 := by rw [← eA']; unfold flm; rw [up_n _ (by omega), up_n _ (by omega), up_n _ (by omega), up_s]
  have th6 : flm a' (a 2) 6 = 10 := by rw [← eA']; unfold flm; rw [up_n _ (by omega), up_n _ (by omega), up_s]
  have th7 : flm a' (a 2) 7 = 20 := by rw [← eA']; unfold flm; rw [up_n _ (by omega), up_s]
  have to : ∀ j, j ≠ 2 → (j < 54 + 8 * a 2 ∨ 118 ≤ j) → a' j = a j := fun j k1 k2 => by rw [← eA', up_n _ (by omega), up_n _ (by omega), up_n _ (by omega), up_n _ (by omega), up_n _ (by omega), up_n _ (by omega), up_n _ (by omega), up_n _ (by omega), up_n _ (by omega)]
  have tho : ∀ x k, x < a 2 → k < 8 → flm a' x k = flm a x k := fun x k hx hk => to _ (by omega) (by omega)
  clear eA' eA
  have hfl : ∀ f, f < a 2 → flm a' f 0 = flm a f 0 ∧ flm a' f 4 = flm a f 4 := fun f hf => ⟨tho f 0 hf (by decide), tho f 4 hf (by decide)⟩
  have hGF : GdF a' := by
    intro x hx
    rw [t1] at hx
    by_cases e : x = a 2
    · subst e
      rw [th0, th1, th2, th3, th4, th5, th6, th7]
      omega
    · have := hG.1.2.2.1 x (by omega)
      rw [tho x 0 (by omega) (by decide), tho x 1 (by omega) (by decide), tho x 2 (by omega) (by decide), tho x 3 (by omega) (by decide), tho x 4 (by omega) (by decide), tho x 5 (by omega) (by decide), tho x 6 (by omega) (by decide), tho x 7 (by omega) (by decide)]
      exact this
  have hBG : zRB X' 1 a' ∧ Gd2 a' := by
    refine fr_F hk.1 hG ⟨⟨by rw [xt]; exact z1, by rw [xt]; exact z2, by rw [xt, t1]; exact z3⟩, fun x hx => ?_⟩ hGF xr (fun j k1 k2 => to j k1 (by omega)) (by omega) (by omega) hfl
    rw [t1] at hx
    by_cases e : x = a 2
    · subst e
      refine ⟨fun k hk => ?_, fun k hk => ?_⟩
      · match k, hk with
        | 0, _ => rw [x0, th0]
        | 1, _ => rw [x1, th1]
        | 2, _ => rw [x2, th2]
        | 3, _ => rw [x3, th3]
        | 4, _ => rw [x4, th4]
      · match k, hk with
        | 0, _ => rw [x9, th5]
        | 1, _ => rw [x10, th6]
        | 2, _ => rw [x11, th7]
    · refine ⟨fun k hk => ?_, fun k hk => ?_⟩
      · rw [tho x k (by omega) (by omega), xc _ (by omega)]; exact (bF.2 x (by omega)).1 k hk
      · rw [tho x (5 + k) (by omega) (by omega), xc _ (by omega)]; exact (bF.2 x (by omega)).2 k hk
  have hFY : FY Yr (zU Q 1 2 (nI (a 2 + 1))) := q2.tr (FY.put _ _ _)
  exact .ok (hk.fr hBG.1 hR5 hBG.2 (FX.of (fun r k1 => xr r (by omega) (by omega))) (hk.con.fr (xr 147 (by decide) (by decide))) hFY) (hT.tr hFY.txt) rfl rfl
theorem sim_addTrailer (h : zInv 0 X Y a) (v1 v2 v3 v4 : Int32) : zSim X Y K312 (f_X5_addTrailer X v1 v2 v3 v4) (f_X6_addTrailer Y v1 v2 v3 v4) := by
  unfold f_X5_addTrailer f_X6_addTrailer
  rcases film_cases h.1 h.2.1 h.2.2.1.1 v1 with ⟨e1, e2⟩ | ⟨e1, e2, n1, u1, rfl⟩
  · rw [e1, e2, if_pos nI_0, if_pos nI_0]
    exact .no h (zTxt.rf Y) (by decide) rfl
  rw [e1, e2, if_neg nI_10, if_neg nI_10]
  rcases in_cases v2 (lo := 1) (hi := 6) (by decide) (by decide) with ⟨e1, e2, -⟩ | ⟨e1, e2, n2, l2, u2, rfl⟩
  · rw [e1, e2, if_pos nI_0, if_pos nI_0]
    exact .no h (zTxt.rf Y) (by decide) rfl
  rw [e1, e2, if_neg nI_10, if_neg nI_10]
  rcases in_cases v3 (lo := 0) (hi := 3) (by decide) (by decide) with ⟨e1, e2, -⟩ | ⟨e1, e2, n3, l3, u3, rfl⟩
  · rw [show f_X5_isRating v3 = f_X5_isWithin v3 (nI 0) (nI 3) from rfl, e1, e2, if_pos nI_0, if_pos nI_0]
    exact .no h (zTxt.rf Y) (by decide) rfl
  rw [show f_X5_isRating (nI n3) = f_X5_isWithin (nI n3) (nI 0) (nI 3) from rfl, e1, e2, if_neg nI_10, if_neg nI_10]
  rcases in_cases v4 (lo := 1) (hi := 63) (by decide) (by decide) with ⟨e1, e2, -⟩ | ⟨e1, e2, n4, l4, u4, rfl⟩
  · rw [show f_X5_isGenres v4 = f_X5_isWithin v4 (nI 1) (nI 63) from rfl, e1, e2, if_pos nI_0, if_pos nI_0]
    exact .no h (zTxt.rf Y) (by decide) rfl
  rw [show f_X5_isGenres (nI n4) = f_X5_isWithin (nI n4) (nI 1) (nI 63) from rfl, e1, e2, if_neg nI_10, if_neg nI_10]
  have g1 := h.2.2.1.1.c3
  rw [n_size (n_nT h.1), show Y 1 (nI 3).toNatClampNeg = nI (a 3) from h.2.1.lo (k := 3) (by decide)]
  by_cases c : a 3 = 10
  · rw [if_neg (nI_nlt (by omega) (by omega)), if_pos (by rw [c])]
    exact .no h (zTxt.rf Y) (by decide) rfl
  rw [if_pos (nI_lt (by omega) (by omega)), if_neg (fun q => c ((nI_eq (by omega) (by decide)).mp q))]
  obtain ⟨Yr, er, hk, hT, -⟩ := z_keep h
  rw [er, Option.bind_some]
  generalize f_X0_keep X = Xk at hk ⊢
  have hG := hk.2.2.1
  obtain ⟨bH, bF, bT, bS, bL, bC, b1, b0⟩ := zRB_iff.mp hk.1
  rw [zlet_eq, n_addRow (X := Xk) (r := 6) (n := 40) bT.1.1 bT.1.2.1 bT.1.2.2 (by omega) (by decide) (by omega) (by decide), Option.bind_some]
  generalize eZ : zU (zR Xk (6 + 1) (zClr (Xk (6 + 1)) (a 3 * 4) (a 3 * 4 + 4))) 6 3 (nI (a 3 + 1)) = Z
  have z1 : Z 6 1 = nI 4 := by rw [← eZ, zU_k _ _ _ _ (by decide), zR_n _ _ (by decide)]; exact bT.1.1
  have z2 : Z 6 2 = nI 10 := by rw [← eZ, zU_k _ _ _ _ (by decide), zR_n _ _ (by decide)]; exact bT.1.2.1
  have z3 : Z 6 3 = nI (a 3 + 1) := by rw [← eZ, zU_s]
  have zr : ∀ r, r ≠ 6 → r ≠ 7 → Z r = Xk r := fun r q1 q2 => by rw [← eZ, zU_r _ _ _ _ q1, zR_n _ _ q2]
  have zc : ∀ j, j < a 3 * 4 → Z 7 j = Xk 7 j := fun j hj => by
    rw [← eZ, zU_r _ _ _ _ (by decide), zR_s]
    exact if_neg (by omega)
  have pu : ∀ (W : Nat → Nat → Int32) (i : Nat) (v : Int32), W 6 1 = nI 4 → i < 4 → f_X4_put W 6 40 (nI (a 3)) (nI i) v = zU W 7 (a 3 * 4 + i) v := fun W i v hW hi => n_put hW (by decide) (by omega) v
  simp only [zlet_eq]
  rw [pu _ 0 _ z1 (by decide), pu _ 1 _ (by rw [zU_r _ _ _ _ (by decide)]; exact z1) (by decide), pu _ 2 _ (by rw [zU_r _ _ _ _ (by decide), zU_r _ _ _ _ (by decide)]; exact z1) (by decide), pu _ 3 _ (by rw [zU_r _ _ _ _ (by decide), zU_r _ _ _ _ (by decide), zU_r _ _ _ _ (by decide)]; exact z1) (by decide)]
  generalize eX : zU (zU (zU (zU Z 7 (a 3 * 4 + 0) (nI n1)) 7 (a 3 * 4 + 1) (nI n2)) 7 (a 3 * 4 + 2) (nI n3)) 7 (a 3 * 4 + 3) (nI n4) = X'
  have x0 : X' 7 (a 3 * 4 + 0) = (nI n1) := by rw [← eX, zU_k _ _ _ _ (by omega), zU_k _ _ _ _ (by omega), zU_k _ _ _ _ (by omega), zU_s]
  have x1 : X' 7 (a 3 * 4 + 1) = (nI n2) := by rw [← eX, zU_k _ _ _ _ (by omega), zU_k _ _ _ _ (by omega), zU_s]
  have x2 : X' 7 (a 3 * 4 + 2) = (nI n3) := by rw [← eX, zU_k _ _ _ _ (by omega), zU_s]
  have x3 : X' 7 (a 3 * 4 + 3) = (nI n4) := by rw [← eX, zU_s]
  have xc : ∀ j, j < a 3 * 4 → X' 7 j = Xk 7 j := fun j hj => by rw [← eX, zU_k _ _ _ _ (by omega), zU_k _ _ _ _ (by omega), zU_k _ _ _ _ (by omega), zU_k _ _ _ _ (by omega), zc j hj]
  have xr : ∀ r, r ≠ 6 → r ≠ 7 → X' r = Xk r := fun r q1 q2 => by rw [← eX, zU_r _ _ _ _ q2, zU_r _ _ _ _ q2, zU_r _ _ _ _ q2, zU_r _ _ _ _ q2, zr r q1 q2]
  have xt : X' 6 = Z 6 := by rw [← eX, zU_r _ _ _ _ (by decide), zU_r _ _ _ _ (by decide), zU_r _ _ _ _ (by decide), zU_r _ _ _ _ (by decide)]
  rw [show Yr 1 (nI 3).toNatClampNeg = nI (a 3) from hk.2.1.lo (k := 3) (by decide)]
  simp only [pk_mul, nI_add]
  have i0 := nI_ix (n := 118 + 4 * a 3) (by omega)
  have i1 := nI_ix (n := 118 + 4 * a 3 + 1) (by omega)
  have i2 := nI_ix (n := 118 + 4 * a 3 + 2) (by omega)
  have i3 := nI_ix (n := 118 + 4 * a 3 + 3) (by omega)
  simp only [i0, i1, i2, i3, if_false]
  rw [nI_clamp (n := 118 + 4 * a 3) (by omega), nI_clamp (n := 118 + 4 * a 3 + 1) (by omega), nI_clamp (n := 118 + 4 * a 3 + 2) (by omega), nI_clamp (n := 118 + 4 * a 3 + 3) (by omega), show (nI 3).toNatClampNeg = 3 from rfl]
  have s0 : sp (118 + 4 * a 3) = false := sp_mid (by omega) (by omega)
  have s1 : sp (118 + 4 * a 3 + 1) = false := sp_mid (by omega) (by omega)
  have s2 : sp (118 + 4 * a 3 + 2) = false := sp_mid (by omega) (by omega)
  have s3 : sp (118 + 4 * a 3 + 3) = false := sp_mid (by omega) (by omega)
  have hR4 := ((((hk.2.1.put (k := 118 + 4 * a 3) (n := n1) (en_n s0).symm).put (k := 118 + 4 * a 3 + 1) (n := n2) (en_n s1).symm).put (k := 118 + 4 * a 3 + 2) (n := n3) (en_n s2).symm).put (k := 118 + 4 * a 3 + 3) (n := n4) (en_n s3).symm)
  have eA : ∀ (Q : Nat → Nat → Int32), Q = zU (zU (zU (zU Yr 1 (118 + 4 * a 3) (nI n1)) 1 (118 + 4 * a 3 + 1) (nI n2)) 1 (118 + 4 * a 3 + 2) (nI n3)) 1 (118 + 4 * a 3 + 3) (nI n4) → Q 1 3 = nI (a 3) ∧ FY Yr Q := by
    rintro Q rfl
    refine ⟨by rw [zU_k _ _ _ _ (by omega), zU_k _ _ _ _ (by omega), zU_k _ _ _ _ (by omega), zU_k _ _ _ _ (by omega)]; exact hk.2.1.lo (k := 3) (by decide), fun r hr => ?_, fun k q1 q2 => ?_⟩
    · rw [zU_r _ _ _ _ (by omega), zU_r _ _ _ _ (by omega), zU_r _ _ _ _ (by omega), zU_r _ _ _ _ (by omega)]
    · rw [zU_r _ _ _ _ (by decide), zU_r _ _ _ _ (by decide), zU_r _ _ _ _ (by decide), zU_r _ _ _ _ (by decide)]
  generalize zU (zU (zU (zU Yr 1 (118 + 4 * a 3) (nI n1)) 1 (118 + 4 * a 3 + 1) (nI n2)) 1 (118 + 4 * a 3 + 2) (nI n3)) 1 (118 + 4 * a 3 + 3) (nI n4) = Q at hR4 eA ⊢
  obtain ⟨q1, q2⟩ := eA Q rfl
  rw [q1, nI_add, zU_s, pk_sub (by omega), Nat.add_sub_cancel]
  have hR5 := hR4.put (k := 3) (n := a 3 + 1) (v := nI (a 3 + 1)) (en_n (sp_lo (by decide))).symm
  generalize eA' : up (up (up (up (up a (118 + 4 * a 3) n1) (118 + 4 * a 3 + 1) n2) (118 + 4 * a 3 + 2) n3) (118 + 4 * a 3 + 3) n4) 3 (a 3 + 1) = a' at hR5
  have t1 : a' 3 = a 3 + 1 := by rw [← eA', up_s]
  have th0 : trl a' (a 3) 0 = n1 := by rw [← eA']; unfold trl; rw [up_n _ (by omega), up_n _ (by omega), up_n _ (by omega), up_n _ (by omega), Nat.add_zero, up_s]
  have th1 : trl a' (a 3) 1 = n2 := by rw [← eA']; unfold trl; rw [up_n _ (by omega), up_n _ (by omega), up_n _ (by omega), up_s]
  have th2 : trl a' (a 3) 2 = n3 := by rw [← eA']; unfold trl; rw [up_n _ (by omega), up_n _ (by omega), up_s]
  have th3 : trl a' (a 3) 3 = n4 := by rw [← eA']; unfold trl; rw [up_n _ (by omega), up_s]
  have to : ∀ j, j ≠ 3 → (j < 118 + 4 * a 3 ∨ 158 ≤ j) → a' j = a j := fun j k1 k2 => by rw [← eA', up_n _ (by omega), up_n _ (by omega), up_n _ (by omega), up_n _ (by omega), up_n _ (by omega)]
  have tho : ∀ x k, x < a 3 → k < 4 → trl a' x k = trl a x k := fun x k hx hk => to _ (by omega) (by omega)
  clear eA' eA
  have hGT : GdT a' := by
    intro x hx
    rw [t1] at hx
    rw [to 2 (by decide) (by omega)]
    by_cases e : x = a 3
    · subst e
      rw [th0, th1, th2, th3]
      omega
    · have := hG.1.2.2.2.1 x (by omega)
      rw [tho x 0 (by omega) (by decide), tho x 1 (by omega) (by decide), tho x 2 (by omega) (by decide), tho x 3 (by omega) (by decide)]
      exact this
  have hBG : zRB X' 1 a' ∧ Gd2 a' := by
    refine fr_T hk.1 hG ⟨⟨by rw [xt]; exact z1, by rw [xt]; exact z2, by rw [xt, t1]; exact z3⟩, fun x hx k hk => ?_⟩ hGT xr (fun j k1 k2 => to j k1 (by omega)) (by omega)
    rw [t1] at hx
    by_cases e : x = a 3
    · subst e
      match k, hk with
      | 0, _ => rw [x0, th0]
      | 1, _ => rw [x1, th1]
      | 2, _ => rw [x2, th2]
      | 3, _ => rw [x3, th3]
    · rw [tho x k (by omega) (by omega), xc _ (by omega)]; exact bT.2 x (by omega) k hk
  have hFY : FY Yr (zU Q 1 3 (nI (a 3 + 1))) := q2.tr (FY.put _ _ _)
  exact .ok (hk.fr hBG.1 hR5 hBG.2 (FX.of (fun r k1 => xr r (by omega) (by omega))) (hk.con.fr (xr 147 (by decide) (by decide))) hFY) (hT.tr hFY.txt) rfl rfl
end AF
