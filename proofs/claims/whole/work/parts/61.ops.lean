section OP
variable {X Y : Nat → Nat → Int32} {a : Nat → Nat}
/-- a show is cancelled -/
def drp (a : Nat → Nat) (s : Nat) : Nat → Nat := up (up (up a (158 + 9 * s + 8) 1) (158 + 9 * s + 7) 0) 5 (a 5 + shw a s 7)
theorem n_drop (hB : zRB X 1 a) (hG : Gd2 a) {s : Nat} (hs : s < a 4) :
    ∃ X', f_X3_dropShow X (nI s) = (nI (shw a s 7), X') ∧ zRB X' 1 (drp a s) ∧ Gd2 (drp a s) ∧ ∀ r, r ≠ 1 → r ≠ 9 → X' r = X r := by
  obtain ⟨bH, bF, bT, bS, bL, bC, b1, b0⟩ := zRB_iff.mp hB
  have h4 := hG.1.c4
  have pS := bS.2 s hs
  have eX : f_X3_dropShow X (nI s) = (nI (shw a s 7), zU (zU (zU X 9 (s * 12 + 8) (nI 1)) 9 (s * 12 + 5) (nI 0)) 1 7 (nI (a 5 + shw a s 7))) := by
    unfold f_X3_dropShow
    simp only [zlet_eq]
    rw [n_put bS.1.1 (by decide) (show s * 12 + 8 < 360 by omega), n_put (by rw [zU_r _ _ _ _ (by decide)]; exact bS.1.1) (by decide) (show s * 12 + 5 < 360 by omega), n_tic hB hG.1 hs, zU_r _ _ _ _ (by decide), zU_r _ _ _ _ (by decide), b1.2, nI_add]
  refine ⟨_, eX, ?_⟩
  generalize eX' : zU (zU (zU X 9 (s * 12 + 8) (nI 1)) 9 (s * 12 + 5) (nI 0)) 1 7 (nI (a 5 + shw a s 7)) = X'
  have xr : ∀ r, r ≠ 1 → r ≠ 9 → X' r = X r := fun r q1 q2 => by rw [← eX', zU_r _ _ _ _ q1, zU_r _ _ _ _ q2, zU_r _ _ _ _ q2]
  have x9 : ∀ j, j ≠ s * 12 + 8 → j ≠ s * 12 + 5 → X' 9 j = X 9 j := fun j q1 q2 => by rw [← eX', zU_r _ _ _ _ (by decide), zU_k _ _ _ _ q2, zU_k _ _ _ _ q1]
  have x8 : X' 9 (s * 12 + 8) = nI 1 := by rw [← eX', zU_r _ _ _ _ (by decide), zU_k _ _ _ _ (by omega), zU_s]
  have x5 : X' 9 (s * 12 + 5) = nI 0 := by rw [← eX', zU_r _ _ _ _ (by decide), zU_s]
  have to : ∀ j, j ≠ 5 → j ≠ 158 + 9 * s + 7 → j ≠ 158 + 9 * s + 8 → drp a s j = a j := fun j q1 q2 q3 => by unfold drp; rw [up_n _ q1, up_n _ q2, up_n _ q3]
  have t8 : shw (drp a s) s 8 = 1 := by unfold shw drp; rw [up_n _ (by omega), up_n _ (by omega), up_s]
  have t7 : shw (drp a s) s 7 = 0 := by unfold shw drp; rw [up_n _ (by omega), up_s]
  have tk : ∀ k, k < 7 → shw (drp a s) s k = shw a s k := fun k hk => to _ (by omega) (by omega) (by omega)
  have gS := hG.1.2.2.2.2 s hs
  have s1 := hG.1.s1 hs
  have c2 := hG.1.c2
  have fl : ∀ k, k < 8 → flm (drp a s) (shw a s 1) k = flm a (shw a s 1) k := fun k hk => to _ (by omega) (by omega) (by omega)
  have eE : endA (drp a s) s = endA a s := by
    unfold endA mins
    rw [tk 3 (by decide), tk 5 (by decide), tk 1 (by decide), fl 0 (by decide)]
  have res := fr_S1 (X' := X') (a' := drp a s) hB hG hs ?_ ?_ ?_ ?_ ?_ xr (fun j hj => x9 j (by omega) (by omega)) (fun j q1 q2 => to j q1 (by omega) (by omega))
  · exact ⟨res.1, res.2, xr⟩
  · obtain ⟨p0, p1, p2, p3, p4, p5, p6⟩ := pS
    refine ⟨fun k hk => by rw [tk k (by omega), x9 _ (by omega) (by omega)]; exact p0 k hk, ?_, ?_, ?_, ?_, ?_, ?_⟩
    · rw [eE, x9 _ (by omega) (by omega)]; exact p1
    · rw [x5, t7]
    · rw [tk 4 (by decide), x9 _ (by omega) (by omega)]; exact p3
    · rw [tk 6 (by decide), x9 _ (by omega) (by omega)]; exact p4
    · rw [x8, t8]; rfl
    · rw [tk 5 (by decide), x9 _ (by omega) (by omega)]; exact p6
  · refine ⟨?_, ?_⟩
    · rw [to 0 (by decide) (by omega) (by omega), ← eX', zU_k _ _ _ _ (by decide), zU_r _ _ _ _ (by decide), zU_r _ _ _ _ (by decide)]; exact b1.1
    · rw [← eX', zU_s]; unfold drp; rw [up_s]
  · unfold GdSr
    rw [tk 0 (by decide), tk 1 (by decide), tk 2 (by decide), tk 3 (by decide), tk 4 (by decide), tk 5 (by decide), tk 6 (by decide), t7, t8, eE, to 1 (by decide) (by omega) (by omega), to 2 (by decide) (by omega) (by omega), fl 4 (by decide)]
    omega
  · rw [t8]; exact Nat.le_refl 1
  · intro q; rw [t8] at q; omega
theorem m_drop (hR : RM (Y 1) a) (hG : Gd a) {s : Nat} (hs : s < a 4) : ∃ Y', f_X6_cancels Y (nI s) = some (nI (shw a s 7), Y') ∧ RM (Y' 1) (drp a s) ∧ (∀ r, r ≠ 1 → Y' r = Y r) := by
  have h4 := hG.c4
  have e8 : sp (158 + 9 * s + 8) = false := sp_mid (by omega) (by omega)
  have e7 : sp (158 + 9 * s + 7) = false := sp_mid (by omega) (by omega)
  unfold f_X6_cancels
  rw [m_shw hR (by omega) (by decide), Option.bind_some]
  simp only [pk_mul, nI_add, zlet_eq]
  have i8 := nI_ix (n := 158 + 9 * s + 8) (by omega)
  have i7 := nI_ix (n := 158 + 9 * s + 7) (by omega)
  simp only [i8, i7, if_false]
  rw [nI_clamp (n := 158 + 9 * s + 8) (by omega), nI_clamp (n := 158 + 9 * s + 7) (by omega), show (nI 5).toNatClampNeg = 5 from rfl, zU_k _ _ _ _ (by omega), zU_k _ _ _ _ (by omega), show Y 1 5 = nI (a 5) from hR.lo (by decide), nI_add]
  refine ⟨_, rfl, ((hR.put (k := 158 + 9 * s + 8) (n := 1) (en_n e8).symm).put (k := 158 + 9 * s + 7) (n := 0) (en_n e7).symm).put (k := 5) (n := a 5 + shw a s 7) (en_n (sp_lo (by decide))).symm, fun r hr => ?_⟩
  rw [zU_r _ _ _ _ hr, zU_r _ _ _ _ hr, zU_r _ _ _ _ hr]
theorem n_isOpen (hB : zRB X 1 a) (hG : Gd a) {s : Nat} (hs : s < a 4) : f_X3_isOpen X (nI s) = if shw a s 8 = 0 ∧ a 0 ≤ shw a s 2 then nI 1 else nI 0 := by
  unfold f_X3_isOpen
  rw [n_statusOf hB hG hs]
  by_cases c : shw a s 8 = 0
  · by_cases c2 : a 0 ≤ shw a s 2
    · rw [if_pos c, if_pos c2, if_pos nI_0, if_pos ⟨c, c2⟩]
    · rw [if_pos c, if_neg c2, if_neg (by decide), if_neg (fun q => c2 q.2)]
  · rw [if_neg c, if_neg nI_10, if_neg (fun q => c q.1)]
def Kc (n : Nat) : Nat := if n = 1 then 1 else 2
theorem cancel_core {q : Nat} (h : zInv q X Y a) (v1 : Int32) : zCore q X Y a (f_X5_faultOfCancel X v1) X (fun Xk => some (f_X3_dropShow Xk v1)) (f_X6_cancel Y v1) Kc := by
  have hB := h.1
  have hR := h.2.1
  have hG := h.2.2.1
  unfold f_X5_faultOfCancel f_X6_cancel
  rcases show_cases hB hR hG.1 v1 with ⟨e1, e2⟩ | ⟨e1, e2, s, hs, rfl⟩
  · rw [e1, e2, if_pos nI_0, if_pos nI_0]
    exact Or.inl ⟨1, zU Y 0 0 (nI 1), nI 0, rfl, by decide, by decide, rfl, zU_s _ _ _ _, h.u0 _, (FX.rf X).r, (FY.u0 Y _).r⟩
  rw [e1, e2, if_neg nI_10, if_neg nI_10, n_isOpen hB hG.1 hs, m_stands hR hG.1 hs, Option.bind_some]
  by_cases c : shw a s 8 = 0
  · by_cases c2 : a 0 ≤ shw a s 2
    · rw [if_pos (show shw a s 8 = 0 ∧ a 0 ≤ shw a s 2 from ⟨c, c2⟩), if_neg nI_10, if_pos c, if_neg nI_10, m_isOver hR hG.1 hs, Option.bind_some, if_pos c2, if_pos nI_0]
      refine Or.inr ⟨rfl, Y, h, (FX.rf X).r, (FY.rf Y).r, fun Xk Yr er hk => ?_⟩
      obtain ⟨X', eX, xB, xG, xr⟩ := n_drop hk.1 hk.2.2.1 hs
      obtain ⟨Y', eY, yR, yr⟩ := m_drop hk.2.1 hk.2.2.1.1 hs
      have hFX : FX Xk X' := FX.of (fun r k1 => xr r (by omega) (by omega))
      have hFY : FY Yr Y' := ⟨fun r hr => yr r (by omega), fun k _ _ => by rw [yr 0 (by decide)]⟩
      have hk2 := hk.fr xB yR xG hFX (hk.con.fr (xr 147 (by decide) (by decide))) hFY
      rw [er, Option.bind_some, eY, Option.bind_some]
      exact ⟨nI (shw a s 7), X', zU Y' 0 0 (nI 0), _, congrArg some eX, rfl, zU_s _ _ _ _, hk2.u0 _, hFX.r, (hFY.tr (FY.u0 Y' _)).r⟩
    · rw [if_neg (show ¬ (shw a s 8 = 0 ∧ a 0 ≤ shw a s 2) from fun q => c2 q.2), if_pos nI_0, if_pos c, if_neg nI_10, m_isOver hR hG.1 hs, Option.bind_some, if_neg c2, if_neg nI_10]
      exact Or.inl ⟨3, zU Y 0 0 (nI 2), nI 0, rfl, by decide, by decide, rfl, zU_s _ _ _ _, h.u0 _, (FX.rf X).r, (FY.u0 Y _).r⟩
  · rw [if_neg (show ¬ (shw a s 8 = 0 ∧ a 0 ≤ shw a s 2) from fun q => c q.1), if_pos nI_0, if_neg c, if_pos nI_0]
    exact Or.inl ⟨3, zU Y 0 0 (nI 2), nI 0, rfl, by decide, by decide, rfl, zU_s _ _ _ _, h.u0 _, (FX.rf X).r, (FY.u0 Y _).r⟩
theorem sim_cancel (h : zInv 0 X Y a) (v1 : Int32) : zSim X Y K31 (some (f_X5_cancel X v1)) (f_X6_cancel Y v1) := by
  have hc := cancel_core h v1
  unfold f_X5_cancel
  rcases hc with ⟨n, Y1, b, e1, l1, l2, e2, e3, hI, -, hy⟩ | ⟨e1, Z1, hI, hx, hy, hgo⟩
  · rw [e1, e2]
    by_cases c : n = 1
    · subst c
      rw [if_pos rfl]
      exact ⟨3, 0, b, X, Y1, a, rfl, rfl, e3, fun z => absurd z (by decide), hI, hy.txt⟩
    · -- only 1 and 3 come
      have e3' : nI n = nI 1 ∨ nI n = nI 3 ∨ nI n = nI 0 := by
        rw [← e1]; unfold f_X5_faultOfCancel; split
        · exact Or.inl rfl
        · split
          · exact Or.inr (Or.inl rfl)
          · exact Or.inr (Or.inr rfl)
      have n3 : n = 3 := by
        rcases e3' with q | q | q
        · exact absurd ((nI_eq (by omega) (by decide)).mp q) c
        · exact (nI_eq (by omega) (by decide)).mp q
        · have := (nI_eq (by omega) (by decide)).mp q; omega
      subst n3
      rw [if_neg (by decide), if_pos rfl]
      exact ⟨2, 0, b, X, Y1, a, rfl, rfl, e3, fun z => absurd z (by decide), hI, hy.txt⟩
  · rw [e1, if_neg (by decide), if_neg (by decide)]
    obtain ⟨Yr, er, hk, hT, -⟩ := z_keep hI
    obtain ⟨v, X', Y', a', c1, c2, c3, c4, c5, c6⟩ := hgo (f_X0_keep X) Yr er hk
    have c1' : f_X3_dropShow (f_X0_keep X) v1 = (v, X') := Option.some.inj c1
    simp only [zlet_eq]
    rw [c1', c2]
    exact ⟨0, v, v, X', Y', a', rfl, rfl, c3, fun _ => rfl, c4, (hy.txt.tr hT).tr c6.txt⟩
end OP
