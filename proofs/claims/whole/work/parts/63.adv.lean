section AV
variable {X Y : Nat → Nat → Int32} {a : Nat → Nat}
theorem adv_core {q : Nat} (h : zInv q X Y a) (v1 : Int32) : zCore q X Y a (f_X5_faultOfAdvance X v1) X (fun Xk => some (zU Xk 1 6 ((Xk 1 6) + v1) 1 6, zU Xk 1 6 ((Xk 1 6) + v1))) (f_X6_advance Y v1) (fun _ => 1) := by
  have hB := h.1
  have hR := h.2.1
  have hG := h.2.2.1
  have h0 := hG.1.1.1
  unfold f_X5_faultOfAdvance f_X6_advance
  rcases in_cases v1 (lo := 1) (hi := 30) (by decide) (by decide) with ⟨e1, e2, -⟩ | ⟨e1, e2, t, l1, u1, rfl⟩
  · rw [e1, e2, if_pos nI_0, if_pos nI_0]
    exact Or.inl ⟨2, zU Y 0 0 (nI 1), nI 0, rfl, by decide, by decide, rfl, zU_s _ _ _ _, h.u0 _, (FX.rf X).r, (FY.u0 Y _).r⟩
  rw [e1, e2, if_neg nI_10, if_neg nI_10, n_today hB, show Y 1 (nI 0).toNatClampNeg = nI (a 0) from hR.lo (k := 0) (by decide), nI_add]
  by_cases c : a 0 + t < 60
  · rw [if_neg (nI_nlt (by omega) (by omega)), if_pos (nI_lt c (by decide))]
    refine Or.inr ⟨rfl, Y, h, (FX.rf X).r, (FY.rf Y).r, fun Xk Yr er hk => ?_⟩
    have e0 : Yr 1 (nI 0).toNatClampNeg = nI (a 0) := hk.2.1.lo (k := 0) (by decide)
    rw [er, Option.bind_some, e0, nI_add]
    simp only [zlet_eq]
    rw [n_today hk.1, nI_add, show (nI 0).toNatClampNeg = 0 from rfl, zU_s, zU_s]
    have yR := hk.2.1.put (k := 0) (n := a 0 + t) (en_n (sp_lo (by decide))).symm
    have hFY := FY.put Yr 0 (nI (a 0 + t))
    have hG2 := hk.2.2.1
    obtain ⟨bH, bF, bT, bS, bL, bC, b1, b0⟩ := zRB_iff.mp hk.1
    have to : ∀ j, j ≠ 0 → up a 0 (a 0 + t) j = a j := fun j hj => up_n _ hj
    have hBG : zRB (zU Xk 1 6 (nI (a 0 + t))) 1 (up a 0 (a 0 + t)) ∧ Gd2 (up a 0 (a 0 + t)) := by
      refine fr_C hk.1 hG2 (bC.cg (zU_r _ _ _ _ (by decide)) (zU_r _ _ _ _ (by decide)) (fun j k1 k2 => to j (by omega))) ⟨by rw [zU_s, up_s], by rw [zU_k _ _ _ _ (by decide), to 5 (by decide)]; exact b1.2⟩ ?_ (fun r q1 q2 q3 => zU_r _ _ _ _ q1) (fun j q1 q2 q3 => to j q1)
      have hg := hG2.1.1
      unfold GdC at hg ⊢
      rw [up_s, to 1 (by omega), to 2 (by omega), to 3 (by omega), to 4 (by omega), to 6 (by omega), to 7 (by omega), to 8 (by omega), to 9 (by omega), to 10 (by omega), to 11 (by omega), to 12 (by omega), to 13 (by omega)]
      exact ⟨c, hg.2.1, hg.2.2.1, hg.2.2.2.1, hg.2.2.2.2.1, hg.2.2.2.2.2.1, hg.2.2.2.2.2.2.1, hg.2.2.2.2.2.2.2.1, hg.2.2.2.2.2.2.2.2.1, hg.2.2.2.2.2.2.2.2.2.1, hg.2.2.2.2.2.2.2.2.2.2.1, hg.2.2.2.2.2.2.2.2.2.2.2.1, hg.2.2.2.2.2.2.2.2.2.2.2.2.1, fun k hk2 => by rw [to _ (by omega)]; exact hg.2.2.2.2.2.2.2.2.2.2.2.2.2 k hk2⟩
    have hFX : FX Xk (zU Xk 1 6 (nI (a 0 + t))) := FX.of (fun r k1 => zU_r _ _ _ _ (by omega))
    have hk2 := hk.fr hBG.1 yR hBG.2 hFX (hk.con.fr (zU_r _ _ _ _ (by decide))) hFY
    exact ⟨nI (a 0 + t), _, zU (zU Yr 1 0 (nI (a 0 + t))) 0 0 (nI 0), _, rfl, rfl, zU_s _ _ _ _, hk2.u0 _, hFX.r, (hFY.tr (FY.u0 _ _)).r⟩
  · rw [if_pos (nI_lt (by omega) (by omega)), if_neg (nI_nlt (by omega) (by omega))]
    exact Or.inl ⟨2, zU Y 0 0 (nI 1), nI 0, rfl, by decide, by decide, rfl, zU_s _ _ _ _, h.u0 _, (FX.rf X).r, (FY.u0 Y _).r⟩
theorem sim_advance (h : zInv 0 X Y a) (v1 : Int32) : zSim X Y K2 (some (f_X5_advance X v1)) (f_X6_advance Y v1) := by
  have hc := adv_core h v1
  unfold f_X5_advance
  rcases hc with ⟨n, Y1, b, e1, l1, l2, e2, e3, hI, -, hy⟩ | ⟨e1, Z1, hI, hx, hy, hgo⟩
  · rw [e1, e2, if_neg (nI_ne0 (by omega) (by omega))]
    exact ⟨1, 0, b, X, Y1, a, rfl, rfl, e3, fun z => absurd z (by decide), hI, hy.txt⟩
  · rw [e1, if_pos nI_0]
    obtain ⟨Yr, er, hk, hT, -⟩ := z_keep hI
    obtain ⟨v, X', Y', a', c1, c2, c3, c4, c5, c6⟩ := hgo (f_X0_keep X) Yr er hk
    have c1' := Option.some.inj c1
    simp only [zlet_eq]
    rw [c2]
    refine ⟨0, v, v, X', Y', a', ?_, rfl, c3, fun _ => rfl, c4, (hy.txt.tr hT).tr c6.txt⟩
    rw [show v = zU (f_X0_keep X) 1 6 ((f_X0_keep X 1 6) + v1) 1 6 from (congrArg Prod.fst c1').symm, show X' = zU (f_X0_keep X) 1 6 ((f_X0_keep X 1 6) + v1) from (congrArg Prod.snd c1').symm]
/-- a hall's closing day, in its place -/
def clo (a : Nat → Nat) (x n : Nat) : Nat → Nat := up a (30 + 4 * x + 3) n
theorem fr_clo (hB : zRB X 1 a) (hG : Gd2 a) {x n : Nat} (hx : x < a 1) (hn : n ≤ 60) {v : Int32} (hv : v = nI n - 1) : zRB (zU X 3 (x * 4 + 3) v) 1 (clo a x n) ∧ Gd2 (clo a x n) := by
  obtain ⟨bH, bF, bT, bS, bL, bC, b1, b0⟩ := zRB_iff.mp hB
  have c1 := hG.1.c1
  have to : ∀ j, j ≠ 30 + 4 * x + 3 → clo a x n j = a j := fun j hj => up_n _ hj
  have t1 : clo a x n 1 = a 1 := to 1 (by omega)
  have t3 : hal (clo a x n) x 3 = n := up_s _ _ _
  have th : ∀ y k, k < 3 → hal (clo a x n) y k = hal a y k := fun y k hk => to _ (by omega)
  have th2 : ∀ y, y ≠ x → hal (clo a x n) y 3 = hal a y 3 := fun y hy => to _ (by omega)
  refine fr_H hB hG ⟨by rw [zU_r _ _ _ _ (by decide), t1]; exact bH.1, fun y hy => ?_⟩ (fun y hy => ?_) (fun r _ q => zU_r _ _ _ _ q) (fun j q1 q2 => to j (by omega)) (by omega) (by omega)
  · rw [t1] at hy
    have := bH.2 y hy
    refine ⟨fun k hk => by rw [th y k hk, zU_k _ _ _ _ (by omega)]; exact this.1 k hk, ?_⟩
    by_cases c : y = x
    · subst c; rw [zU_s, t3]; exact hv
    · rw [th2 y c, zU_k _ _ _ _ (by omega)]; exact this.2
  · rw [t1] at hy
    have := hG.1.2.1 y hy
    rw [th y 0 (by decide), th y 1 (by decide), th y 2 (by decide)]
    by_cases c : y = x
    · subst c; rw [t3]; omega
    · rw [th2 y c]; exact this
theorem sim_reopen (h : zInv 0 X Y a) (v1 : Int32) : zSim X Y K31 (some (f_X5_reopen X v1)) (f_X6_reopen Y v1) := by
  have hB := h.1
  have hR := h.2.1
  have hG := h.2.2.1
  have c1 := hG.1.c1
  unfold f_X5_reopen f_X6_reopen
  rcases hall_cases hB hR hG.1 v1 with ⟨e1, e2⟩ | ⟨e1, e2, x, hx, rfl⟩
  · rw [e1, e2, if_pos nI_0, if_pos nI_0]
    exact .no h (zTxt.rf Y) (by decide) rfl
  have hH := hG.1.2.1 x hx
  rw [e1, e2, if_neg nI_10, if_neg nI_10, n_clo hB hG.1 hx, m_clo hR (by omega), Option.bind_some]
  by_cases c : hal a x 3 = 0
  · rw [c, if_pos (by decide), if_pos (by decide)]
    exact .no h (zTxt.rf Y) (by decide) rfl
  have hne : ¬ nI (hal a x 3) - 1 = -1 := by
    rw [show nI (hal a x 3) - 1 = nI (hal a x 3 - 1) from pk_sub (a := hal a x 3) (b := 1) (by omega)]
    exact z_m1 (by omega)
  rw [if_neg hne, if_neg hne]
  obtain ⟨Yr, er, hk, hT, -⟩ := z_keep h
  rw [er, Option.bind_some]
  generalize f_X0_keep X = Xk at hk ⊢
  have hG2 := hk.2.2.1
  obtain ⟨bH, -⟩ := zRB_iff.mp hk.1
  simp only [zlet_eq]
  rw [n_put bH.1.1 (by decide) (show x * 4 + 3 < 24 by omega), m_clo hk.2.1 (by omega), Option.bind_some]
  simp only [pk_mul, nI_add]
  have i3 := nI_ix (n := 30 + 4 * x + 3) (by omega)
  simp only [i3, if_false]
  rw [nI_clamp (n := 30 + 4 * x + 3) (by omega)]
  obtain ⟨xB, xG⟩ := fr_clo hk.1 hG2 hx (n := 0) (by decide) (v := -1) (by decide)
  have yR := hk.2.1.put (k := 30 + 4 * x + 3) (n := 0) (v := -1) (en_m1 (sp_clo (by omega)))
  have hFY := FY.put Yr (30 + 4 * x + 3) (-1)
  exact .ok (hk.fr xB yR xG (FX.of (fun r k1 => zU_r _ _ _ _ (by omega))) (hk.con.fr (zU_r _ _ _ _ (by decide))) hFY) (hT.tr hFY.txt) rfl rfl
end AV
