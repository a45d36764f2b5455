def K3125 (c : Nat) : Nat := match c with
  | 0 => 0
  | 3 => 1
  | 1 => 2
  | 2 => 3
  | _ => 4
section SL
variable {X Y : Nat → Nat → Int32} {a : Nat → Nat}
/-- tickets are sold -/
def sld (a : Nat → Nat) (s t : Nat) : Nat → Nat := up a (158 + 9 * s + 7) (shw a s 7 + t)
theorem n_sold (hB : zRB X 1 a) (hG : Gd2 a) {s t : Nat} (hs : s < a 4) (ht : shw a s 7 + t ≤ 400) :
    ∃ X', f_X3_addTickets X (nI s) (nI t) = (nI (shw a s 7 + t), X') ∧ zRB X' 1 (sld a s t) ∧ Gd2 (sld a s t) ∧ ∀ r, r ≠ 1 → r ≠ 9 → X' r = X r := by
  obtain ⟨bH, bF, bT, bS, bL, bC, b1, b0⟩ := zRB_iff.mp hB
  have h4 := hG.1.c4
  have pS := bS.2 s hs
  have eX : f_X3_addTickets X (nI s) (nI t) = (nI (shw a s 7 + t), zU X 9 (s * 12 + 5) (nI (shw a s 7 + t))) := by
    unfold f_X3_addTickets
    simp only [zlet_eq]
    rw [n_put bS.1.1 (by decide) (show s * 12 + 5 < 360 by omega), n_tic hB hG.1 hs, nI_add]
  refine ⟨_, eX, ?_⟩
  generalize eX' : zU X 9 (s * 12 + 5) (nI (shw a s 7 + t)) = X'
  have xr : ∀ r, r ≠ 9 → X' r = X r := fun r q2 => by rw [← eX', zU_r _ _ _ _ q2]
  have x9 : ∀ j, j ≠ s * 12 + 5 → X' 9 j = X 9 j := fun j q2 => by rw [← eX', zU_k _ _ _ _ q2]
  have x5 : X' 9 (s * 12 + 5) = nI (shw a s 7 + t) := by rw [← eX', zU_s]
  have to : ∀ j, j ≠ 158 + 9 * s + 7 → sld a s t j = a j := fun j q1 => by unfold sld; rw [up_n _ q1]
  have t7 : shw (sld a s t) s 7 = shw a s 7 + t := by unfold shw sld; rw [up_s]; rfl
  have tk : ∀ k, k < 7 → shw (sld a s t) s k = shw a s k := fun k hk => to _ (by omega)
  have t8 : shw (sld a s t) s 8 = shw a s 8 := to _ (by omega)
  have gS := hG.1.2.2.2.2 s hs
  have s1 := hG.1.s1 hs
  have c2 := hG.1.c2
  have fl : ∀ k, k < 8 → flm (sld a s t) (shw a s 1) k = flm a (shw a s 1) k := fun k hk => to _ (by omega)
  have eE : endA (sld a s t) s = endA a s := by
    unfold endA mins
    rw [tk 3 (by decide), tk 5 (by decide), tk 1 (by decide), fl 0 (by decide)]
  have res := fr_S1 (X' := X') (a' := sld a s t) hB hG hs ?_ ?_ ?_ ?_ ?_ (fun r _ q => xr r q) (fun j hj => x9 j (by omega)) (fun j q1 q2 => to j (by omega))
  · exact ⟨res.1, res.2, fun r _ q => xr r q⟩
  · obtain ⟨p0, p1, p2, p3, p4, p5, p6⟩ := pS
    refine ⟨fun k hk => by rw [tk k (by omega), x9 _ (by omega)]; exact p0 k hk, ?_, ?_, ?_, ?_, ?_, ?_⟩
    · rw [eE, x9 _ (by omega)]; exact p1
    · rw [x5, t7]
    · rw [tk 4 (by decide), x9 _ (by omega)]; exact p3
    · rw [tk 6 (by decide), x9 _ (by omega)]; exact p4
    · rw [t8, x9 _ (by omega)]; exact p5
    · rw [tk 5 (by decide), x9 _ (by omega)]; exact p6
  · exact b1.cg (xr 1 (by decide)) (to 0 (by omega)) (to 5 (by omega))
  · unfold GdSr
    rw [tk 0 (by decide), tk 1 (by decide), tk 2 (by decide), tk 3 (by decide), tk 4 (by decide), tk 5 (by decide), tk 6 (by decide), t7, t8, eE, to 1 (by omega), to 2 (by omega), fl 4 (by decide)]
    omega
  · rw [t8]; exact hG.2.1 s hs
  · rw [t8, tk 0 (by decide), tk 2 (by decide), tk 3 (by decide)]
    exact fun q1 t ht2 hts q2 q3 q4 => hG.2.2 s t hs ht2 (fun q => hts q.symm) q1 q2 q3 q4
theorem sell_core {q : Nat} (h : zInv q X Y a) (v1 v2 : Int32) : zCore q X Y a (f_X5_faultOfSell X v1 v2).1 (f_X5_faultOfSell X v1 v2).2 (fun Xk => some (f_X3_addTickets Xk v1 v2)) (f_X6_sell Y v1 v2) (fun n => n) := by
  have hB := h.1
  have hR := h.2.1
  have hG := h.2.2.1
  have h4 := hG.1.c4
  have h1 := hG.1.c1
  unfold f_X5_faultOfSell f_X6_sell
  rcases show_cases hB hR hG.1 v1 with ⟨e1, e2⟩ | ⟨e1, e2, s, hs, rfl⟩
  · rw [e1, e2, if_pos nI_0, if_pos nI_0]
    exact Or.inl ⟨1, zU Y 0 0 (nI 1), nI 0, rfl, by decide, by decide, rfl, zU_s _ _ _ _, h.u0 _, (FX.rf X).r, (FY.u0 Y _).r⟩
  rw [e1, e2, if_neg nI_10, if_neg nI_10]
  rcases in_cases v2 (lo := 1) (hi := 400) (by decide) (by decide) with ⟨e1, e2, -⟩ | ⟨e1, e2, t, l1, u1, rfl⟩
  · rw [e1, e2, if_pos nI_0, if_pos nI_0]
    exact Or.inl ⟨2, zU Y 0 0 (nI 2), nI 0, rfl, by decide, by decide, rfl, zU_s _ _ _ _, h.u0 _, (FX.rf X).r, (FY.u0 Y _).r⟩
  rw [e1, e2, if_neg nI_10, if_neg nI_10, n_isOpen hB hG.1 hs, m_stands hR hG.1 hs, Option.bind_some]
  by_cases c : shw a s 8 = 0
  · by_cases c2 : a 0 ≤ shw a s 2
    · have gS := hG.1.2.2.2.2 s hs
      have gH := hG.1.2.1 _ gS.1
      rw [if_pos (show shw a s 8 = 0 ∧ a 0 ≤ shw a s 2 from ⟨c, c2⟩), if_neg nI_10, if_pos c, if_neg nI_10, m_isOver hR hG.1 hs, Option.bind_some, if_pos c2, if_pos nI_0, n_seatsOf hB hG.1 hs, n_tic hB hG.1 hs, m_shw hR (by omega) (by decide), Option.bind_some, m_hal hR (by omega) (by decide), Option.bind_some, m_shw hR (by omega) (by decide), Option.bind_some]
      by_cases c3 : t + shw a s 7 ≤ hal a (shw a s 0) 0
      · have e3 : nI t ≤ nI (hal a (shw a s 0) 0) - nI (shw a s 7) := (pk_le_sub (by omega) (by omega) (by omega)).mpr c3
        rw [if_pos e3, if_pos e3]
        refine Or.inr ⟨rfl, Y, h, (FX.rf X).r, (FY.rf Y).r, fun Xk Yr er hk => ?_⟩
        obtain ⟨X', eX, xB, xG, xr⟩ := n_sold hk.1 hk.2.2.1 hs (t := t) (by omega)
        have hFX : FX Xk X' := FX.of (fun r k1 => xr r (by omega) (by omega))
        rw [er, Option.bind_some]
        simp only [pk_mul, nI_add, zlet_eq]
        have i7 := nI_ix (n := 158 + 9 * s + 7) (by omega)
        simp only [i7, if_false]
        rw [nI_clamp (n := 158 + 9 * s + 7) (by omega), show Yr 1 (158 + 9 * s + 7) = nI (shw a s 7) from hk.2.1.shw (by omega) (by decide), nI_add]
        have yR := hk.2.1.put (k := 158 + 9 * s + 7) (n := shw a s 7 + t) (en_n (sp_mid (by omega) (by omega))).symm
        have hFY := FY.put Yr (158 + 9 * s + 7) (nI (shw a s 7 + t))
        have e7 : shw (up a (158 + 9 * s + 7) (shw a s 7 + t)) s 7 = shw a s 7 + t := by unfold shw; rw [up_s]
        have hk2 := hk.fr xB yR xG hFX (hk.con.fr (xr 147 (by decide) (by decide))) hFY
        rw [m_shw yR (by omega) (by decide), Option.bind_some, e7]
        exact ⟨nI (shw a s 7 + t), X', zU (zU Yr 1 (158 + 9 * s + 7) (nI (shw a s 7 + t))) 0 0 (nI 0), _, congrArg some eX, rfl, zU_s _ _ _ _, hk2.u0 _, hFX.r, (hFY.tr (FY.u0 _ _)).r⟩
      · have e3 : ¬ nI t ≤ nI (hal a (shw a s 0) 0) - nI (shw a s 7) := fun z => c3 ((pk_le_sub (by omega) (by omega) (by omega)).mp z)
        rw [if_neg e3, if_neg e3]
        obtain ⟨r1, r2, r3⟩ := h.refuse (r := 12) (by decide) (by decide) (nI (hal a (shw a s 0) 0) - nI (shw a s 7)) (nI 4)
        exact Or.inl ⟨4, _, nI 0, rfl, by decide, by decide, rfl, zU_s (zU (zU Y 0 8 (nI 12)) 0 9 (nI (hal a (shw a s 0) 0) - nI (shw a s 7))) 0 0 (nI 4), r1, r2, r3⟩
    · rw [if_neg (show ¬ (shw a s 8 = 0 ∧ a 0 ≤ shw a s 2) from fun q => c2 q.2), if_pos nI_0, if_pos c, if_neg nI_10, m_isOver hR hG.1 hs, Option.bind_some, if_neg c2, if_neg nI_10]
      exact Or.inl ⟨3, zU Y 0 0 (nI 3), nI 0, rfl, by decide, by decide, rfl, zU_s _ _ _ _, h.u0 _, (FX.rf X).r, (FY.u0 Y _).r⟩
  · rw [if_neg (show ¬ (shw a s 8 = 0 ∧ a 0 ≤ shw a s 2) from fun q => c q.1), if_pos nI_0, if_neg c, if_pos nI_0]
    exact Or.inl ⟨3, zU Y 0 0 (nI 3), nI 0, rfl, by decide, by decide, rfl, zU_s _ _ _ _, h.u0 _, (FX.rf X).r, (FY.u0 Y _).r⟩
theorem sim_sell (h : zInv 0 X Y a) (v1 v2 : Int32) : zSim X Y K3125 (some (f_X5_sell X v1 v2)) (f_X6_sell Y v1 v2) := by
  have hc := sell_core h v1 v2
  unfold f_X5_sell
  generalize f_X5_faultOfSell X v1 v2 = fl at hc ⊢
  obtain ⟨fv, X1⟩ := fl
  simp only [zlet_eq]
  rcases hc with ⟨n, Y1, b, e1, l1, l2, e2, e3, hI, -, hy⟩ | ⟨e1, Z1, hI, hx, hy, hgo⟩
  · change fv = nI n at e1
    subst e1
    rw [e2]
    match n, l1, l2 with
    | 1, _, _ => exact ⟨3, 0, b, X1, Y1, a, rfl, rfl, e3, fun z => absurd z (by decide), hI, hy.txt⟩
    | 2, _, _ => exact ⟨1, 0, b, X1, Y1, a, rfl, rfl, e3, fun z => absurd z (by decide), hI, hy.txt⟩
    | 3, _, _ => exact ⟨2, 0, b, X1, Y1, a, rfl, rfl, e3, fun z => absurd z (by decide), hI, hy.txt⟩
    | 4, _, _ => exact ⟨5, 0, b, X1, Y1, a, rfl, rfl, e3, fun z => absurd z (by decide), hI, hy.txt⟩
  · change fv = nI 0 at e1
    subst e1
    rw [if_neg (by decide), if_neg (by decide), if_neg (by decide), if_neg (by decide)]
    change zInv 0 X1 Z1 a at hI
    obtain ⟨Yr, er, hk, hT, -⟩ := z_keep hI
    obtain ⟨v, X', Y', a', c1, c2, c3, c4, c5, c6⟩ := hgo (f_X0_keep X1) Yr er hk
    have c1' : f_X3_addTickets (f_X0_keep X1) v1 v2 = (v, X') := Option.some.inj c1
    rw [c1', c2]
    exact ⟨0, v, v, X', Y', a', rfl, rfl, c3, fun _ => rfl, c4, (hy.txt.tr hT).tr c6.txt⟩
end SL
