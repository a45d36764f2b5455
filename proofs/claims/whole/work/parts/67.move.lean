section MV
variable {X Y : Nat → Nat → Int32} {a : Nat → Nat}
/-- a show gets another place -/
def pts (a : Nat → Nat) (s x st : Nat) : Nat → Nat := up (up a (158 + 9 * s + 0) x) (158 + 9 * s + 3) st
theorem pts_o (a : Nat → Nat) (s x st : Nat) {j : Nat} (h0 : j ≠ 158 + 9 * s) (h3 : j ≠ 158 + 9 * s + 3) : pts a s x st j = a j := by
  unfold pts
  rw [up_n _ h3, up_n _ (by omega)]
theorem pts_0 (a : Nat → Nat) (s x st : Nat) : shw (pts a s x st) s 0 = x := by unfold shw pts; rw [up_n _ (by omega), up_s]
theorem pts_3 (a : Nat → Nat) (s x st : Nat) : shw (pts a s x st) s 3 = st := by unfold shw pts; rw [up_s]
theorem z_later (b m s : Nat) : nI (b + m) + (nI s - nI b) = nI (s + m) := by
  rw [← nI_add, ← nI_add, Int32.sub_eq_add_neg, Int32.add_comm (nI b) (nI m), Int32.add_assoc, ← Int32.add_assoc (nI b), Int32.add_comm (nI b) (nI s), Int32.add_assoc (nI s), Int32.add_right_neg, Int32.add_zero, Int32.add_comm]
theorem n_putShow (hB : zRB X 1 a) (hG : Gd2 a) {s x st : Nat} (hs : s < a 4) (hx : x < a 1) (hst : st < 960) (hen : st + mins a s ≤ 960)
    (ds : shw a s 8 = 0 → ∀ t, t < a 4 → t ≠ s → shw a t 8 = 0 → x = shw a t 0 → shw a s 2 = shw a t 2 → st ≠ shw a t 3) :
    ∃ X', f_X3_putShow X (nI s) (nI x) (nI st) = X' ∧ zRB X' 1 (pts a s x st) ∧ Gd2 (pts a s x st) ∧ ∀ r, r ≠ 9 → X' r = X r := by
  obtain ⟨bH, bF, bT, bS, bL, bC, b1, b0⟩ := zRB_iff.mp hB
  have h4 := hG.1.c4
  have pS := bS.2 s hs
  have eX : f_X3_putShow X (nI s) (nI x) (nI st) = zU (zU (zU X 9 (s * 12 + 0) (nI x)) 9 (s * 12 + 3) (nI st)) 9 (s * 12 + 4) (nI (st + mins a s)) := by
    unfold f_X3_putShow
    simp only [zlet_eq]
    have g4 : f_X4_get (zU (zU X 9 (s * 12 + 0) (nI x)) 9 (s * 12 + 3) (nI st)) 8 360 (nI s) (nI 4) = nI (endA a s) := by
      rw [c_get_in (c := 12) (by rw [zU_r _ _ _ _ (by decide), zU_r _ _ _ _ (by decide)]; exact bS.1.1) (by decide) (show s * 12 + 4 < 360 by omega), zU_k _ _ _ _ (by omega), zU_k _ _ _ _ (by omega)]
      exact pS.2.1
    have e : nI (endA a s) + (nI st - nI (shw a s 3)) = nI (st + mins a s) := z_later (shw a s 3) (mins a s) st
    rw [n_put bS.1.1 (by decide) (show s * 12 + 0 < 360 by omega), n_put (by rw [zU_r _ _ _ _ (by decide)]; exact bS.1.1) (by decide) (show s * 12 + 3 < 360 by omega), g4, n_shw hB hG.1 hs (by decide), e, n_put (by rw [zU_r _ _ _ _ (by decide), zU_r _ _ _ _ (by decide)]; exact bS.1.1) (by decide) (show s * 12 + 4 < 360 by omega)]
  refine ⟨_, eX, ?_⟩
  generalize eX' : zU (zU (zU X 9 (s * 12 + 0) (nI x)) 9 (s * 12 + 3) (nI st)) 9 (s * 12 + 4) (nI (st + mins a s)) = X'
  have xr : ∀ r, r ≠ 9 → X' r = X r := fun r q => by rw [← eX', zU_r _ _ _ _ q, zU_r _ _ _ _ q, zU_r _ _ _ _ q]
  have x0 : X' 9 (s * 12 + 0) = nI x := by rw [← eX', zU_k _ _ _ _ (by omega), zU_k _ _ _ _ (by omega), zU_s]
  have x3 : X' 9 (s * 12 + 3) = nI st := by rw [← eX', zU_k _ _ _ _ (by omega), zU_s]
  have x4 : X' 9 (s * 12 + 4) = nI (st + mins a s) := by rw [← eX', zU_s]
  have x9 : ∀ j, j ≠ s * 12 + 0 → j ≠ s * 12 + 3 → j ≠ s * 12 + 4 → X' 9 j = X 9 j := fun j q1 q2 q3 => by rw [← eX', zU_k _ _ _ _ q3, zU_k _ _ _ _ q2, zU_k _ _ _ _ q1]
  have to : ∀ j, j ≠ 158 + 9 * s → j ≠ 158 + 9 * s + 3 → pts a s x st j = a j := fun j => pts_o a s x st
  have t0 := pts_0 a s x st
  have t3 := pts_3 a s x st
  generalize pts a s x st = a' at *
  have tk : ∀ k, k ≠ 0 → k ≠ 3 → shw a' s k = shw a s k := fun k q1 q2 => to _ (by omega) (by omega)
  have gS := hG.1.2.2.2.2 s hs
  have s1 := hG.1.s1 hs
  have c2 := hG.1.c2
  have fl : ∀ k, k < 8 → flm a' (shw a s 1) k = flm a (shw a s 1) k := fun k hk => to _ (by omega) (by omega)
  have eE : endA a' s = st + mins a s := by
    unfold endA mins
    rw [t3, tk 5 (by decide) (by decide), tk 1 (by decide) (by decide), fl 0 (by decide)]
  have e1 : a' 1 = a 1 := to 1 (by omega) (by omega)
  have e2 : a' 2 = a 2 := to 2 (by omega) (by omega)
  have res := fr_S1 (X' := X') (a' := a') hB hG hs ?_ ?_ ?_ ?_ ?_ (fun r _ q => xr r q) (fun j hj => x9 j (by omega) (by omega) (by omega)) (fun j q1 q2 => to j (by omega) (by omega))
  · exact ⟨res.1, res.2, xr⟩
  · obtain ⟨p0, p1, p2, p3, p4, p5, p6⟩ := pS
    refine ⟨fun k hk => ?_, ?_, ?_, ?_, ?_, ?_, ?_⟩
    · match k, hk with
      | 0, _ => rw [x0, t0]
      | 1, _ => rw [tk 1 (by decide) (by decide), x9 _ (by omega) (by omega) (by omega)]; exact p0 1 (by decide)
      | 2, _ => rw [tk 2 (by decide) (by decide), x9 _ (by omega) (by omega) (by omega)]; exact p0 2 (by decide)
      | 3, _ => rw [x3, t3]
    · rw [eE, x4]
    · rw [tk 7 (by decide) (by decide), x9 _ (by omega) (by omega) (by omega)]; exact p2
    · rw [tk 4 (by decide) (by decide), x9 _ (by omega) (by omega) (by omega)]; exact p3
    · rw [tk 6 (by decide) (by decide), x9 _ (by omega) (by omega) (by omega)]; exact p4
    · rw [tk 8 (by decide) (by decide), x9 _ (by omega) (by omega) (by omega)]; exact p5
    · rw [tk 5 (by decide) (by decide), x9 _ (by omega) (by omega) (by omega)]; exact p6
  · exact b1.cg (xr 1 (by decide)) (to 0 (by omega) (by omega)) (to 5 (by omega) (by omega))
  · unfold GdSr
    rw [t0, t3, tk 1 (by decide) (by decide), tk 2 (by decide) (by decide), tk 4 (by decide) (by decide), tk 5 (by decide) (by decide), tk 6 (by decide) (by decide), tk 7 (by decide) (by decide), tk 8 (by decide) (by decide), eE, e1, e2, fl 4 (by decide)]
    omega
  · rw [tk 8 (by decide) (by decide)]; exact hG.2.1 s hs
  · rw [tk 8 (by decide) (by decide), t0, t3, tk 2 (by decide) (by decide)]
    exact ds
theorem sim_move (h : zInv 0 X Y a) (v1 v2 v3 : Int32) : zSim X Y K3125 (f_X5_move X v1 v2 v3) (f_X6_move Y v1 v2 v3) := by
  have hB := h.1
  have hR := h.2.1
  have hG := h.2.2.1
  have h4 := hG.1.c4
  have h1 := hG.1.c1
  unfold f_X5_move f_X6_move
  rcases show_cases hB hR hG.1 v1 with ⟨e1, e2⟩ | ⟨e1, e2, s, hs, rfl⟩
  · rw [e1, e2, if_pos nI_0, if_pos nI_0]
    exact .no h (zTxt.rf Y) (by decide) rfl
  rw [e1, e2, if_neg nI_10, if_neg nI_10]
  rcases hall_cases hB hR hG.1 v2 with ⟨e1, e2⟩ | ⟨e1, e2, x, hx, rfl⟩
  · rw [e1, e2, if_pos nI_0, if_pos nI_0]
    exact .no h (zTxt.rf Y) (by decide) rfl
  rw [e1, e2, if_neg nI_10, if_neg nI_10]
  rcases minute_cases v3 with ⟨e1, e2⟩ | ⟨e1, e2, st, hst, rfl⟩
  · rw [e1, e2, if_pos nI_0, if_pos nI_0]
    exact .no h (zTxt.rf Y) (by decide) rfl
  rw [e1, e2, if_neg nI_10, if_neg nI_10, n_isOpen hB hG.1 hs, m_stands hR hG.1 hs, Option.bind_some]
  by_cases c : shw a s 8 = 0
  case neg =>
    rw [if_neg (show ¬ (shw a s 8 = 0 ∧ a 0 ≤ shw a s 2) from fun q => c q.1), if_pos nI_0, if_neg c, if_pos nI_0]
    exact .no h (zTxt.rf Y) (by decide) rfl
  by_cases c2 : a 0 ≤ shw a s 2
  case neg =>
    rw [if_neg (show ¬ (shw a s 8 = 0 ∧ a 0 ≤ shw a s 2) from fun q => c2 q.2), if_pos nI_0, if_pos c, if_neg nI_10, m_isOver hR hG.1 hs, Option.bind_some, if_neg c2, if_neg nI_10]
    exact .no h (zTxt.rf Y) (by decide) rfl
  have gS := hG.1.2.2.2.2 s hs
  have gH := hG.1.2.1 x hx
  have gF := hG.1.2.2.1 _ gS.2.1
  have hmi : 30 ≤ mins a s ∧ mins a s ≤ 960 := by
    have : endA a s ≤ 960 := gS.2.2.2.2.2.2.2.2.2.2.2
    unfold endA at this
    unfold mins at this ⊢
    omega
  rw [if_pos (show shw a s 8 = 0 ∧ a 0 ≤ shw a s 2 from ⟨c, c2⟩), if_neg nI_10, if_pos c, if_neg nI_10, m_isOver hR hG.1 hs, Option.bind_some, if_pos c2, if_pos nI_0, m_hal hR (by omega) (by decide), Option.bind_some, m_shw hR (by omega) (by decide), Option.bind_some]
  unfold f_X5_isMoveRefused
  rw [n_tic hB hG.1 hs, n_hal hB hG.1 hx (by decide), n_shw hB hG.1 hs (by decide), n_shw hB hG.1 hs (by decide)]
  by_cases c3 : shw a s 7 ≤ hal a x 0
  case neg =>
    rw [if_neg (nI_ge (by omega) (by omega)), if_neg (nI_ge (by omega) (by omega)), zlet_eq, Option.bind_some, Option.bind_some]
    dsimp only
    rw [if_neg nI_10]
    obtain ⟨r1, r2, r3⟩ := h.refuse (r := 11) (by decide) (by decide) (nI (hal a x 0)) (nI 4)
    exact ⟨5, 0, nI 0, _, _, a, rfl, rfl, zU_s (zU (zU Y 0 8 (nI 11)) 0 9 (nI (hal a x 0))) 0 0 (nI 4), fun z => absurd z (by decide), r1, r3.txt⟩
  rw [if_pos (nI_le c3 (by omega)), if_pos (nI_le c3 (by omega)), m_shw hR (by omega) (by decide), Option.bind_some, m_shw hR (by omega) (by decide), Option.bind_some, m_minutesOf hR hG.1 hs, Option.bind_some]
  obtain ⟨X1, et, hI1, hF, -⟩ := z_take h (nI s) gS.2.1 gS.2.2.1
  obtain ⟨r, v, er, -, eb, em, h2, -⟩ := z_look hI1 hF gS.2.1 gS.2.2.1 hx hst (mi := mins a s) (by omega) (by omega)
  have hr9 : r ≤ 9 := by rw [er]; exact brk_9 _ _ _ _ _ _ _
  have hT2 := (FY.look Y (nI s) x (shw a s 1) (shw a s 2) st (st + mins a s) v).txt
  rw [et, Option.bind_some, n_minutesOf hI1.1 hG.1 hs, nI_add, eb, Option.bind_some, em, Option.bind_some]
  have ed : zU X1 146 3 v 146 3 = v := zU_s _ _ _ _
  have ed2 : zU (mPut Y (nI s) x (shw a s 1) (shw a s 2) st (st + mins a s)) 0 21 v 0 21 = v := zU_s _ _ _ _
  generalize zU X1 146 3 v = X2 at h2 ed ⊢
  generalize zU (mPut Y (nI s) x (shw a s 1) (shw a s 2) st (st + mins a s)) 0 21 v = Y2 at h2 hT2 ed2 ⊢
  by_cases c4 : r = 0
  case neg =>
    rw [if_neg (show ¬ (nI r, X2).1 = 0 from nI_ne0 (by omega) (by omega)), if_neg (show ¬ (nI r, Y2).1 = 0 from nI_ne0 (by omega) (by omega)), zlet_eq, Option.bind_some, if_neg (show ¬ (nI 1, f_X5_refuse (nI r, X2).2 (nI r, X2).1 ((nI r, X2).2 146 3)).1 = 0 from nI_10)]
    obtain ⟨r1, r2, r3⟩ := h2.refuse (r := r) (by omega) (by omega) v (nI 4)
    refine ⟨5, 0, nI 0, _, _, a, rfl, rfl, ?_, fun z => absurd z (by decide), ?_, ?_⟩
    · exact zU_s (zU (zU Y2 0 8 (nI r)) 0 9 (Y2 0 21)) 0 0 (nI 4)
    · show zInv 0 (f_X5_refuse X2 (nI r) (X2 146 3)) (zU (zU (zU Y2 0 8 (nI r)) 0 9 (Y2 0 21)) 0 0 (nI 4)) a
      rw [ed, ed2]; exact r1
    · show zTxt Y (zU (zU (zU Y2 0 8 (nI r)) 0 9 (Y2 0 21)) 0 0 (nI 4))
      rw [ed2]; exact hT2.tr r3.txt
  subst c4
  have hbr : (brk a (nI s) (shw a s 1) (shw a s 2) x st (st + mins a s)).1 = 0 := er.symm
  rw [if_pos (show (nI 0, X2).1 = 0 from nI_0), if_pos (show (nI 0, Y2).1 = 0 from nI_0), Option.bind_some, if_pos (show (nI 0, (nI 0, X2).2).1 = 0 from nI_0)]
  obtain ⟨Yr, er2, hk, hT, -⟩ := z_keep h2
  rw [show f_X6_remembers (nI 0, Y2).2 = some Yr from er2, Option.bind_some, zlet_eq, zlet_eq]
  have hkX : zInv 0 (f_X0_keep (nI 0, (nI 0, X2).2).2) Yr a := hk
  generalize f_X0_keep (nI 0, (nI 0, X2).2).2 = Xk at hkX ⊢
  obtain ⟨X', eX, xB, xG, xr⟩ := n_putShow hkX.1 hkX.2.2.1 hs hx hst (brk_zero hbr).2.1 (fun _ t ht hts q1 q2 q3 q4 => brk_ds hbr (by omega) hkX.2.2.1.1 ht (fun z => hts ((nI_eq (by omega) (by omega)).mp z)) q1 q3.symm q2.symm q4.symm)
  rw [eX, n_shw hkX.1 hkX.2.2.1.1 hs (by decide), m_shw hkX.2.1 (by omega) (by decide), Option.bind_some]
  simp only [pk_mul, nI_add, zlet_eq]
  have i0 := nI_ix (n := 158 + 9 * s + 0) (by omega)
  have i3 := nI_ix (n := 158 + 9 * s + 3) (by omega)
  simp only [i0, i3, if_false]
  rw [nI_clamp (n := 158 + 9 * s + 0) (by omega), nI_clamp (n := 158 + 9 * s + 3) (by omega)]
  have yR : RM (zU (zU Yr 1 (158 + 9 * s + 0) (nI x)) 1 (158 + 9 * s + 3) (nI st) 1) (pts a s x st) := (hkX.2.1.put (k := 158 + 9 * s + 0) (n := x) (en_n (sp_mid (by omega) (by omega))).symm).put (k := 158 + 9 * s + 3) (n := st) (en_n (sp_mid (by omega) (by omega))).symm
  have hFY := (FY.put Yr (158 + 9 * s + 0) (nI x)).tr (FY.put _ (158 + 9 * s + 3) (nI st))
  generalize zU (zU Yr 1 (158 + 9 * s + 0) (nI x)) 1 (158 + 9 * s + 3) (nI st) = Y' at yR hFY ⊢
  have hk2 := hkX.fr xB yR xG (FX.of (fun r k1 => xr r (by omega))) (hkX.con.fr (xr 147 (by decide))) hFY
  by_cases c5 : 0 ≤ nI st - nI (shw a s 3)
  · rw [if_pos c5, if_pos c5]
    exact .ok hk2 ((hT2.tr hT).tr hFY.txt) rfl rfl
  · rw [if_neg c5, if_neg c5]
    exact .ok hk2 ((hT2.tr hT).tr hFY.txt) rfl (by rw [Int32.zero_sub])
end MV
