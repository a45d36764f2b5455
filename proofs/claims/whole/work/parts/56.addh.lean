def K12 (c : Nat) : Nat := match c with
  | 0 => 0
  | 1 => 1
  | _ => 2
def K312 (c : Nat) : Nat := match c with
  | 0 => 0
  | 3 => 1
  | 1 => 2
  | _ => 3
theorem en_m1 {k : Nat} (h : sp k = true) : (-1 : Int32) = en k 0 := by
  unfold en
  rw [if_pos h]
  decide
theorem en_d {k n : Nat} (h : sp k = true) : nI n = en k (n + 1) := by
  unfold en
  rw [if_pos h]
  exact (pk_sub (a := n + 1) (b := 1) (by omega)).symm
section AD
variable {X Y : Nat → Nat → Int32} {a : Nat → Nat}
theorem sim_addHall (h : zInv 0 X Y a) (v1 v2 v3 : Int32) : zSim X Y K12 (f_X5_addHall X v1 v2 v3) (f_X6_addHall Y v1 v2 v3) := by
  unfold f_X5_addHall f_X6_addHall
  rcases in_cases v1 (lo := 1) (hi := 400) (by decide) (by decide) with ⟨e1, e2, -⟩ | ⟨e1, e2, n1, l1, u1, rfl⟩
  · rw [e1, e2, if_pos nI_0, if_pos nI_0]
    exact .no h (zTxt.rf Y) (by decide) rfl
  rw [e1, e2, if_neg nI_10, if_neg nI_10]
  rcases in_cases v2 (lo := 0) (hi := 40) (by decide) (by decide) with ⟨e1, e2, -⟩ | ⟨e1, e2, n2, l2, u2, rfl⟩
  · rw [e1, e2, if_pos nI_0, if_pos nI_0]
    exact .no h (zTxt.rf Y) (by decide) rfl
  rw [e1, e2, if_neg nI_10, if_neg nI_10]
  rcases in_cases v3 (lo := 0) (hi := 2) (by decide) (by decide) with ⟨e1, e2, -⟩ | ⟨e1, e2, n3, l3, u3, rfl⟩
  · rw [e1, e2, if_pos nI_0, if_pos nI_0]
    exact .no h (zTxt.rf Y) (by decide) rfl
  rw [e1, e2, if_neg nI_10, if_neg nI_10]
  have g1 := h.2.2.1.1.c1
  rw [n_size (n_nH h.1), show Y 1 (nI 1).toNatClampNeg = nI (a 1) from h.2.1.lo (k := 1) (by decide)]
  by_cases c : a 1 = 6
  · rw [if_neg (nI_nlt (by omega) (by omega)), if_pos (by rw [c])]
    exact .no h (zTxt.rf Y) (by decide) rfl
  rw [if_pos (nI_lt (by omega) (by omega)), if_neg (fun q => c ((nI_eq (by omega) (by decide)).mp q))]
  obtain ⟨Yr, er, hk, hT, -⟩ := z_keep h
  rw [er, Option.bind_some]
  generalize f_X0_keep X = Xk at hk ⊢
  have hG := hk.2.2.1
  obtain ⟨bH, bF, bT, bS, bL, bC, b1, b0⟩ := zRB_iff.mp hk.1
  rw [zlet_eq, n_addRow (X := Xk) (r := 2) (n := 24) bH.1.1 bH.1.2.1 bH.1.2.2 (by omega) (by decide) (by omega) (by decide), Option.bind_some]
  generalize eZ : zU (zR Xk (2 + 1) (zClr (Xk (2 + 1)) (a 1 * 4) (a 1 * 4 + 4))) 2 3 (nI (a 1 + 1)) = Z
  have z1 : Z 2 1 = nI 4 := by rw [← eZ, zU_k _ _ _ _ (by decide), zR_n _ _ (by decide)]; exact bH.1.1
  have z2 : Z 2 2 = nI 6 := by rw [← eZ, zU_k _ _ _ _ (by decide), zR_n _ _ (by decide)]; exact bH.1.2.1
  have z3 : Z 2 3 = nI (a 1 + 1) := by rw [← eZ, zU_s]
  have zr : ∀ r, r ≠ 2 → r ≠ 3 → Z r = Xk r := fun r q1 q2 => by rw [← eZ, zU_r _ _ _ _ q1, zR_n _ _ q2]
  have zc : ∀ j, j < a 1 * 4 → Z 3 j = Xk 3 j := fun j hj => by
    rw [← eZ, zU_r _ _ _ _ (by decide), zR_s]
    exact if_neg (by omega)
  have pu : ∀ (W : Nat → Nat → Int32) (i : Nat) (v : Int32), W 2 1 = nI 4 → i < 4 → f_X4_put W 2 24 (nI (a 1)) (nI i) v = zU W 3 (a 1 * 4 + i) v := fun W i v hW hi => n_put hW (by decide) (by omega) v
  simp only [zlet_eq]
  rw [pu _ 0 _ z1 (by decide), pu _ 1 _ (by rw [zU_r _ _ _ _ (by decide)]; exact z1) (by decide), pu _ 2 _ (by rw [zU_r _ _ _ _ (by decide), zU_r _ _ _ _ (by decide)]; exact z1) (by decide), pu _ 3 _ (by rw [zU_r _ _ _ _ (by decide), zU_r _ _ _ _ (by decide), zU_r _ _ _ _ (by decide)]; exact z1) (by decide)]
  generalize eX : zU (zU (zU (zU Z 3 (a 1 * 4 + 0) (nI n1)) 3 (a 1 * 4 + 1) (nI n2)) 3 (a 1 * 4 + 2) (nI n3)) 3 (a 1 * 4 + 3) (-1 : Int32) = X'
  have x0 : X' 3 (a 1 * 4 + 0) = nI n1 := by rw [← eX, zU_k _ _ _ _ (by omega), zU_k _ _ _ _ (by omega), zU_k _ _ _ _ (by omega), zU_s]
  have x1 : X' 3 (a 1 * 4 + 1) = nI n2 := by rw [← eX, zU_k _ _ _ _ (by omega), zU_k _ _ _ _ (by omega), zU_s]
  have x2 : X' 3 (a 1 * 4 + 2) = nI n3 := by rw [← eX, zU_k _ _ _ _ (by omega), zU_s]
  have x3 : X' 3 (a 1 * 4 + 3) = -1 := by rw [← eX, zU_s]
  have xc : ∀ j, j < a 1 * 4 → X' 3 j = Xk 3 j := fun j hj => by rw [← eX, zU_k _ _ _ _ (by omega), zU_k _ _ _ _ (by omega), zU_k _ _ _ _ (by omega), zU_k _ _ _ _ (by omega), zc j hj]
  have xr : ∀ r, r ≠ 2 → r ≠ 3 → X' r = Xk r := fun r q1 q2 => by rw [← eX, zU_r _ _ _ _ q2, zU_r _ _ _ _ q2, zU_r _ _ _ _ q2, zU_r _ _ _ _ q2, zr r q1 q2]
  have xt : X' 2 = Z 2 := by rw [← eX, zU_r _ _ _ _ (by decide), zU_r _ _ _ _ (by decide), zU_r _ _ _ _ (by decide), zU_r _ _ _ _ (by decide)]
  -- the reference
  rw [show Yr 1 (nI 1).toNatClampNeg = nI (a 1) from hk.2.1.lo (k := 1) (by decide)]
  simp only [pk_mul, nI_add]
  have i0 := nI_ix (n := 30 + 4 * a 1) (by omega)
  have i1 := nI_ix (n := 30 + 4 * a 1 + 1) (by omega)
  have i2 := nI_ix (n := 30 + 4 * a 1 + 2) (by omega)
  have i3 := nI_ix (n := 30 + 4 * a 1 + 3) (by omega)
  simp only [i0, i1, i2, i3, if_false]
  rw [nI_clamp (n := 30 + 4 * a 1) (by omega), nI_clamp (n := 30 + 4 * a 1 + 1) (by omega), nI_clamp (n := 30 + 4 * a 1 + 2) (by omega), nI_clamp (n := 30 + 4 * a 1 + 3) (by omega), show (nI 1).toNatClampNeg = 1 from rfl]
  have s3 : sp (30 + 4 * a 1 + 3) = true := sp_clo (by omega)
  have s0 : sp (30 + 4 * a 1) = false := sp_hal (h := a 1) (k := 0) (by omega) (by decide)
  have s1 : sp (30 + 4 * a 1 + 1) = false := sp_hal (by omega) (by decide)
  have s2 : sp (30 + 4 * a 1 + 2) = false := sp_hal (by omega) (by decide)
  have hR4 := (((hk.2.1.put (k := 30 + 4 * a 1) (n := n1) (en_n s0).symm).put (k := 30 + 4 * a 1 + 1) (n := n2) (en_n s1).symm).put (k := 30 + 4 * a 1 + 2) (n := n3) (en_n s2).symm).put (k := 30 + 4 * a 1 + 3) (n := 0) (en_m1 s3)
  have eA : ∀ (Q : Nat → Nat → Int32), Q = zU (zU (zU (zU Yr 1 (30 + 4 * a 1) (nI n1)) 1 (30 + 4 * a 1 + 1) (nI n2)) 1 (30 + 4 * a 1 + 2) (nI n3)) 1 (30 + 4 * a 1 + 3) (-1) → Q 1 1 = nI (a 1) ∧ FY Yr Q := by
    rintro Q rfl
    refine ⟨by rw [zU_k _ _ _ _ (by omega), zU_k _ _ _ _ (by omega), zU_k _ _ _ _ (by omega), zU_k _ _ _ _ (by omega)]; exact hk.2.1.lo (k := 1) (by decide), fun r hr => ?_, fun k q1 q2 => ?_⟩
    · rw [zU_r _ _ _ _ (by omega), zU_r _ _ _ _ (by omega), zU_r _ _ _ _ (by omega), zU_r _ _ _ _ (by omega)]
    · rw [zU_r _ _ _ _ (by decide), zU_r _ _ _ _ (by decide), zU_r _ _ _ _ (by decide), zU_r _ _ _ _ (by decide)]
  generalize zU (zU (zU (zU Yr 1 (30 + 4 * a 1) (nI n1)) 1 (30 + 4 * a 1 + 1) (nI n2)) 1 (30 + 4 * a 1 + 2) (nI n3)) 1 (30 + 4 * a 1 + 3) (-1) = Q at hR4 eA ⊢
  obtain ⟨q1, q2⟩ := eA Q rfl
  rw [q1, nI_add, zU_s, pk_sub (by omega), Nat.add_sub_cancel]
  have hR5 := hR4.put (k := 1) (n := a 1 + 1) (v := nI (a 1 + 1)) (en_n (sp_lo (by decide))).symm
  generalize eA' : up (up (up (up (up a (30 + 4 * a 1) n1) (30 + 4 * a 1 + 1) n2) (30 + 4 * a 1 + 2) n3) (30 + 4 * a 1 + 3) 0) 1 (a 1 + 1) = a' at hR5
  have t1 : a' 1 = a 1 + 1 := by rw [← eA', up_s]
  have th0 : hal a' (a 1) 0 = n1 := by rw [← eA']; unfold hal; rw [up_n _ (by omega), up_n _ (by omega), up_n _ (by omega), up_n _ (by omega), Nat.add_zero, up_s]
  have th1 : hal a' (a 1) 1 = n2 := by rw [← eA']; unfold hal; rw [up_n _ (by omega), up_n _ (by omega), up_n _ (by omega), up_s]
  have th2 : hal a' (a 1) 2 = n3 := by rw [← eA']; unfold hal; rw [up_n _ (by omega), up_n _ (by omega), up_s]
  have th3 : hal a' (a 1) 3 = 0 := by rw [← eA']; unfold hal; rw [up_n _ (by omega), up_s]
  have to : ∀ j, j ≠ 1 → (j < 30 + 4 * a 1 ∨ 54 ≤ j) → a' j = a j := fun j k1 k2 => by rw [← eA', up_n _ (by omega), up_n _ (by omega), up_n _ (by omega), up_n _ (by omega), up_n _ (by omega)]
  have tho : ∀ x k, x < a 1 → k < 4 → hal a' x k = hal a x k := fun x k hx hk => to _ (by omega) (by omega)
  clear eA' eA
  have hFX : FX Xk X' := ⟨xr 0 (by decide) (by decide), fun r k1 _ _ _ => xr r (by omega) (by omega)⟩
  have hG' : Gd2 a' := by
    refine hG.cg ⟨GdC.cg hG.1 (by omega) (by rw [to 2 (by decide) (by omega)]; exact hG.1.c2) (by rw [to 3 (by decide) (by omega)]; exact hG.1.c3) (by rw [to 4 (by decide) (by omega)]; exact hG.1.c4) (fun j k1 k2 => to j (by omega) (by omega)), ?_, GdF.cg hG.1 (to 2 (by decide) (by omega)) (fun j k1 k2 => to j (by omega) (by omega)), GdT.cg hG.1 (to 3 (by decide) (by omega)) (by rw [to 2 (by decide) (by omega)]; exact Nat.le_refl _) (fun j k1 k2 => to j (by omega) (by omega)), GdS.cg hG.1 (by omega) (by rw [to 2 (by decide) (by omega)]; exact Nat.le_refl _) (to 4 (by decide) (by omega)) (fun j k1 k2 => to j (by omega) (by omega)) (fun f hf => ?_)⟩ (to 4 (by decide) (by omega)) (fun j k1 k2 => to j (by omega) (by omega))
    · intro x hx
      rw [t1] at hx
      by_cases e : x = a 1
      · subst e
        rw [th0, th1, th2, th3]
        omega
      · rw [tho x 0 (by omega) (by decide), tho x 1 (by omega) (by decide), tho x 2 (by omega) (by decide), tho x 3 (by omega) (by decide)]
        exact hG.1.2.1 x (by omega)
    · have := hG.1.c2
      exact ⟨flm_cg (by omega) (by decide) (fun j k1 k2 => to j (by omega) (by omega)), flm_cg (by omega) (by decide) (fun j k1 k2 => to j (by omega) (by omega))⟩
  have hB' : zRB X' 1 a' := by
    have := hG.1.c2
    refine zRB_iff.mpr ⟨⟨⟨by rw [xt]; exact z1, by rw [xt]; exact z2, by rw [xt, t1]; exact z3⟩, fun x hx => ?_⟩, bF.cg hG.1 (xr 4 (by decide) (by decide)) (xr 5 (by decide) (by decide)) (to 2 (by decide) (by omega)) (fun j k1 k2 => to j (by omega) (by omega)), bT.cg hG.1 (xr 6 (by decide) (by decide)) (xr 7 (by decide) (by decide)) (to 3 (by decide) (by omega)) (fun j k1 k2 => to j (by omega) (by omega)), bS.cg hG.1 (xr 8 (by decide) (by decide)) (xr 9 (by decide) (by decide)) (to 4 (by decide) (by omega)) (fun j k1 k2 => to j (by omega) (by omega)) (fun f hf => flm_cg (by omega) (by decide) (fun j k1 k2 => to j (by omega) (by omega))), bL.cg hG.1 (xr 10 (by decide) (by decide)) (xr 11 (by decide) (by decide)) (to 6 (by decide) (by omega)) (fun j k1 k2 => to j (by omega) (by omega)), bC.cg (xr 12 (by decide) (by decide)) (xr 13 (by decide) (by decide)) (fun j k1 k2 => to j (by omega) (by omega)), b1.cg (xr 1 (by decide) (by decide)) (to 0 (by decide) (by omega)) (to 5 (by decide) (by omega)), by rw [to 7 (by decide) (by omega), to 6 (by decide) (by omega)]; exact b0⟩
    rw [t1] at hx
    by_cases e : x = a 1
    · subst e
      refine ⟨fun k hk => ?_, by rw [x3, th3]; decide⟩
      match k, hk with
      | 0, _ => rw [x0, th0]
      | 1, _ => rw [x1, th1]
      | 2, _ => rw [x2, th2]
    · refine ⟨fun k hk => ?_, ?_⟩
      · rw [tho x k (by omega) (by omega), xc _ (by omega)]; exact (bH.2 x (by omega)).1 k hk
      · rw [tho x 3 (by omega) (by decide), xc _ (by omega)]; exact (bH.2 x (by omega)).2
  have hFY : FY Yr (zU Q 1 1 (nI (a 1 + 1))) := ⟨fun r hr => by rw [zU_r _ _ _ _ (by omega)]; exact q2.1 r hr, fun k k1 k2 => by rw [zU_r _ _ _ _ (by decide)]; exact q2.2 k k1 k2⟩
  exact .ok (hk.fr hB' hR5 hG' hFX (by have := hk.con; unfold oCon at this ⊢; rw [xr 147 (by decide) (by decide)]; exact this) hFY) (hT.tr hFY.txt) rfl rfl
end AD
