/-! A FAILURE: both sides agree -/
section FCO
variable {X Y : Nat → Nat → Int32} {a b c : Nat → Nat}
/-- the state as a failure begins -/
def fl0 (a : Nat → Nat) (x d : Nat) : Nat → Nat := up (up (clo a x (d + 1)) 6 0) 7 1
theorem vw_of {x d : Nat} {l : List Nat} (hG : Gd2 a) (h6 : a 6 = 0) (hT : TK a b l) (hL : TL a x d 60 0 l) (hM : MK a c x d (a 4)) : VW b c l ∧ l.Pairwise (ltK c) ∧ ∀ s ∈ l, shw c s 0 = x := by
  obtain ⟨t1, t2, t3, t4, t5⟩ := hT
  have h4 := hG.1.c4
  have e4 : c 4 = a 4 := hM.lo (by decide)
  have me : ∀ s, s < a 4 → (s ∈ l ↔ outP a x d s) := fun s hs => ⟨fun q => (hL.1 s q).2.1, fun q => hL.2.1 s hs q (fun k => by have := (hG.1.2.2.2.2 s hs).2.2.1; have := k.2.2; omega)⟩
  have m8 : ∀ s, s < a 4 → (s ∈ l ↔ shw c s 8 = 2) := fun s hs => by
    rw [me s hs]
    constructor
    · exact (hM.2 s hs).1
    · intro q
      by_cases o : outP a x d s
      · exact o
      · rw [(hM.2 s hs).2 o] at q
        have := hG.2.1 s hs
        omega
  refine ⟨⟨⟨fun j hj q => (t1 j hj q).trans (hM.lo hj).symm, fun s k hs hk => (t2 s k hs hk).trans (hM.sh hk).symm⟩, fun s hs => m8 s (by omega), fun s hs => ?_, fun s hs => by rw [e4]; exact (hL.1 s hs).1, ?_, fun i hi => ?_, fun i s hi => ?_⟩, ?_, fun s hs => ?_⟩
  · rw [t4 s (by omega)]
    by_cases m : s ∈ l
    · rw [if_pos m, if_pos ((m8 s (by omega)).mp m)]
    · rw [if_neg m, if_neg (fun q => m ((m8 s (by omega)).mpr q)), (hM.2 s (by omega)).2 (fun o => m ((me s (by omega)).mpr o))]
  · rw [t3, hM.lo (by decide), h6, Nat.zero_add]
  · rw [hM.lo (by decide), h6] at hi; exact absurd hi (Nat.not_lt_zero i)
  · rw [hM.lo (by decide), h6, Nat.zero_add, hM.sh (by decide), hM.sh (by decide)]
    exact t5 i s hi
  · refine hL.2.2.1.imp (fun {p q} l => ?_)
    unfold ltK at l ⊢
    rw [hM.sh (by decide), hM.sh (by decide), hM.sh (by decide), hM.sh (by decide)]
    exact l
  · rw [hM.sh (by decide)]; exact (hL.1 s hs).2.1.2.1
theorem fail_core {q : Nat} (h : zInv q X Y a) (v1 v2 : Int32) : zCore q X Y a (f_X5_faultOfFail X v1 v2) X (fun Xk => f_X5_closeHall Xk v1 v2) (f_X6_fail Y v1 v2) (fun n => n) := by
  have hB := h.1
  have hR := h.2.1
  have hG := h.2.2.1
  have h0 := hG.1.1.1
  have c1 := hG.1.c1
  have no : ∀ (n : Nat), 1 ≤ n → n ≤ 4 → zCore q X Y a (nI n) X (fun Xk => f_X5_closeHall Xk v1 v2) (zlet (f_X6_fails Y (nI n)) fun q => some (q.1, q.2)) (fun n => n) := fun n p1 p2 =>
    Or.inl ⟨n, zU Y 0 0 (nI n), nI 0, rfl, p1, p2, rfl, zU_s _ _ _ _, h.u0 _, (FX.rf X).r, (FY.u0 Y _).r⟩
  unfold f_X5_faultOfFail f_X6_fail
  rcases hall_cases hB hR hG.1 v1 with ⟨e1, e2⟩ | ⟨e1, e2, x, hx, rfl⟩
  · rw [e1, e2, if_pos nI_0, if_pos nI_0]
    exact no 1 (by decide) (by decide)
  rw [e1, e2, if_neg nI_10, if_neg nI_10, n_today hB, show Y 1 (nI 0).toNatClampNeg = nI (a 0) from hR.lo (k := 0) (by decide)]
  rcases day_cases v2 with ⟨-, e4⟩ | ⟨-, e4, d, hd, rfl⟩
  · rw [e4, if_pos nI_0]
    rcases in_cases v2 (lo := a 0) (hi := 59) (by decide) (by omega) with ⟨-, e5, -⟩ | ⟨-, -, n, n1, n2, rfl⟩
    · rw [e5, if_pos nI_0]
      exact no 2 (by decide) (by decide)
    · rcases in_cases (nI n) (lo := 0) (hi := 59) (by decide) (by decide) with ⟨-, -, ne⟩ | ⟨g1, -, -⟩
      · exact absurd ⟨n, Nat.zero_le _, n2, rfl⟩ ne
      · exact absurd ((show f_X6_in (nI n) (nI 0) (nI 59) = nI 0 from e4).symm.trans g1) (by decide)
  rw [e4, if_neg nI_10]
  rcases in_cases (nI d) (lo := a 0) (hi := 59) (by decide) (by omega) with ⟨-, e5, ne⟩ | ⟨-, e5, n, n1, n2, hn⟩
  · have hlt : ¬ nI (a 0) ≤ nI d := fun g => by
      rw [nI_leI (by omega) (by omega)] at g
      exact ne ⟨d, g, by omega, rfl⟩
    rw [e5, if_pos nI_0, if_neg hlt]
    exact no 2 (by decide) (by decide)
  have hdn : d = n := (nI_eq (by omega) (by omega)).mp hn
  rw [e5, if_neg nI_10, if_pos (nI_le (by omega) (by omega)), n_clo hB hG.1 hx, m_clo hR (by omega), Option.bind_some]
  have hH := hG.1.2.1 x hx
  by_cases cl : hal a x 3 = 0
  · rw [cl, if_pos (by decide), if_pos (by decide)]
    refine Or.inr ⟨rfl, Y, h, (FX.rf X).r, (FY.rf Y).r, fun Xk Yr er hk => ?_⟩
    rw [er, Option.bind_some]
    have hG2 := hk.2.2.1
    obtain ⟨bH, bF, bT, bS, bL, bC, b1, b0⟩ := zRB_iff.mp hk.1
    have i3 := nI_ix (n := 30 + 4 * x + 3) (by omega)
    rw [pk_mul, nI_add, nI_add, if_neg i3, nI_clamp (n := 30 + 4 * x + 3) (by omega), zlet_eq, zlet_eq, zlet_eq, show (nI 6).toNatClampNeg = 6 from by decide, show (nI 7).toNatClampNeg = 7 from by decide]
    -- the class's start
    obtain ⟨xB, xG⟩ := fr_clo hk.1 hG2 hx (n := d + 1) (by omega) (v := nI d) (by show nI d = nI (d + 1) - nI 1; rw [pk_sub (by omega), Nat.add_sub_cancel])
    have co : ∀ j, j ≠ 30 + 4 * x + 3 → clo a x (d + 1) j = a j := fun j hj => up_n _ hj
    have fo : ∀ j, j ≠ 6 → j ≠ 7 → fl0 a x d j = clo a x (d + 1) j := fun j q6 q7 => (up_n _ q7).trans (up_n _ q6)
    have f6 : fl0 a x d 6 = 0 := (up_n _ (by decide)).trans (up_s _ _ _)
    have f7 : fl0 a x d 7 = 1 := up_s _ _ _
    obtain ⟨-, -, -, -, bL1, -, -, -⟩ := zRB_iff.mp xB
    have fB := fr_L (X' := zU (zU Xk 3 (x * 4 + 3) (nI d)) 10 3 (nI 0)) (a' := fl0 a x d) xB xG ⟨⟨by rw [zU_k _ _ _ _ (by decide)]; exact bL1.1.1, by rw [zU_k _ _ _ _ (by decide)]; exact bL1.1.2.1, by rw [zU_s, f6]⟩, fun i hi => by rw [f6] at hi; exact absurd hi (Nat.not_lt_zero i)⟩ (by rw [f6]; exact Nat.zero_le _) (by rw [f7]; exact Nat.le_refl _) (fun q => by rw [f7] at q; exact absurd q (by decide)) (fun r q1 q2 => zU_r _ _ _ _ q1) (fun j q1 q2 _ => fo j q1 q2)
    obtain ⟨gB, gG⟩ := fB
    have fx : x < fl0 a x d 1 := by rw [fo 1 (by decide) (by decide), co 1 (by omega)]; exact hx
    have g4 := gG.1.c4
    obtain ⟨X3, b', l, p1, p2, p3, p4, p5, p6⟩ := n_takeAll gG (d0 := d) fx f7 (60 - d) d zFuel _ (fl0 a x d) [] (by omega) (Nat.le_refl _) (by show 60 - d < 5000; omega) gB gG ⟨fun j _ _ => rfl, fun s k _ _ => rfl, f6, fun s _ => by rw [if_neg (by simp)], fun i s hi => by simp at hi⟩ ⟨fun s hs => absurd hs (by simp), fun s hs o k => absurd ⟨o.1, o.2.1, by have := o.2.2; omega⟩ k, List.Pairwise.nil, by have := tcn_le (a := fl0 a x d) x d 0; rw [List.length_nil]; omega⟩
    -- the reference's start
    have y1 := hk.2.1.put (k := 30 + 4 * x + 3) (n := d + 1) (v := nI d) (en_d (sp_clo (by omega)))
    have y2 := y1.put (k := 6) (n := 0) (v := nI 0) (en_n (sp_lo (by decide))).symm
    have y3 : RM (zU (zU (zU Yr 1 (30 + 4 * x + 3) (nI d)) 1 6 (nI 0)) 1 7 (nI 1) 1) (fl0 a x d) := y2.put (k := 7) (n := 1) (v := nI 1) (en_n (sp_lo (by decide))).symm
    obtain ⟨Y2, cc, m1, m2, m3, m4⟩ := m_mark gG.1 (x := x) (d := d) (by omega) hd (fun X_1031 => ((f_X6_nextOut X_1031).bind fun q_1032 => f_X6_fail_L158 (fun X_2040 v3_2039 => (zlet (f_X6_done X_2040 v3_2039) fun q_2041 => some (q_2041.1, q_2041.2))) zFuel X_1031 (nI 0) q_1032)) (fl0 a x d 4) 0 zFuel _ (fl0 a x d) (Nat.zero_add _) (by show _ < 5000; omega) y3 ⟨fun j _ => rfl, fun s hs => absurd hs (Nat.not_lt_zero s)⟩
    obtain ⟨w1, w2, w3⟩ := vw_of gG f6 p4 p5 m3
    have nx := m_nextOut m2 (w1.gd p3.1) w1.2.1 w1.2.2.2.1 w2
    have l30 : l.length < 5000 := by have := p5.2.2.2; omega
    have c0 : cc 6 = 0 := (m3.lo (by decide)).trans f6
    have oc : oCon X3 := hk.con.fr ((p6 147 (by decide) (by decide) (by decide)).trans (by rw [zU_r _ _ _ _ (by decide), zU_r _ _ _ _ (by decide)]))
    obtain ⟨X4, Y4, c', many, r1, r2, r3, r4, r5, r6, r7, r8⟩ := fail_loop l X3 Y2 b' cc 0 zFuel zFuel p2 p3 m2 w1 w2 w3 (by rw [m3.lo (by decide)]; exact fx) oc (by rw [p4.1 7 (by decide) (by decide)]; exact f7) l30 l30
    rw [c0] at r1
    have hFX : FX Xk X4 := by
      have t : ∀ r, r ≠ 1 → r ≠ 3 → r ≠ 9 → r ≠ 10 → r ≠ 11 → r ≠ 146 → r ≠ 147 → r ≠ 148 → X4 r = Xk r := fun r q1 q3 q9 q10 q11 q6 q7 q8 => (r7 r q1 q9 q10 q11 q6 q7 q8).trans ((p6 r q9 q10 q11).trans (by rw [zU_r _ _ _ _ q10, zU_r _ _ _ _ q3]))
      exact ⟨t 0 (by decide) (by decide) (by decide) (by decide) (by decide) (by decide) (by decide) (by decide), fun r q1 q2 q3 q4 => t r (by omega) (by omega) (by omega) (by omega) (by omega) q2 q3 q4⟩
    have hFY : FY Yr Y4 := (((FY.put Yr _ _).tr (FY.put _ _ _)).tr (FY.put _ _ _)).tr (m4.tr r8)
    refine ⟨nI many, X4, zU Y4 0 0 (nI 0), c', ?_, ?_, zU_s _ _ _ _, (hk.fr r3 r4 r5 hFX r6 hFY).u0 _, hFX.r, (hFY.tr (FY.u0 _ _)).r⟩
    · show f_X5_closeHall Xk (nI x) (nI d) = _
      unfold f_X5_closeHall f_X5_takeOutShows
      rw [zlet_eq, zlet_eq]
      have eC : ∀ Z : Nat → Nat → Int32, f_X4_clear Z 10 150 = zU Z 10 3 (nI 0) := fun Z => rfl
      rw [n_put bH.1.1 (by decide) (show x * 4 + 3 < 24 by omega), eC, p1, Option.bind_some]
      exact r1
    · rw [m1, nx, Option.bind_some, r2]
      rfl
  · have hne : ¬ nI (hal a x 3) - 1 = -1 := by
      rw [show nI (hal a x 3) - 1 = nI (hal a x 3 - 1) from pk_sub (a := hal a x 3) (b := 1) (by omega)]
      exact z_m1 (by omega)
    rw [if_neg hne, if_neg hne]
    exact no 3 (by decide) (by decide)
end FCO
section FSI
variable {X Y : Nat → Nat → Int32} {a : Nat → Nat}
/-- the handlers' numbers of fail -/
def K3 (c : Nat) : Nat := match c with
  | 0 => 0
  | 3 => 1
  | 1 => 2
  | _ => 3
theorem fail_ne4 (X : Nat → Nat → Int32) (v1 v2 : Int32) : ¬ f_X5_faultOfFail X v1 v2 = nI 4 := by
  unfold f_X5_faultOfFail
  repeat' split
  all_goals decide
theorem sim_fail (h : zInv 0 X Y a) (v1 v2 : Int32) : zSim X Y K3 (f_X5_fail X v1 v2) (f_X6_fail Y v1 v2) := by
  have hc := fail_core h v1 v2
  unfold f_X5_fail
  rcases hc with ⟨n, Y1, b, e1, l1, l2, e2, e3, hI, -, hy⟩ | ⟨e1, Z1, hI, hx, hy, hgo⟩
  · rw [e1, e2]
    match n, l1, l2 with
    | 1, _, _ =>
      rw [if_pos rfl]
      exact ⟨3, 0, b, X, Y1, a, rfl, rfl, e3, fun z => absurd z (by decide), hI, hy.txt⟩
    | 2, _, _ =>
      rw [if_neg (by decide), if_pos rfl]
      exact ⟨1, 0, b, X, Y1, a, rfl, rfl, e3, fun z => absurd z (by decide), hI, hy.txt⟩
    | 3, _, _ =>
      rw [if_neg (by decide), if_neg (by decide), if_pos rfl]
      exact ⟨2, 0, b, X, Y1, a, rfl, rfl, e3, fun z => absurd z (by decide), hI, hy.txt⟩
    | 4, _, _ => exact absurd e1 (fail_ne4 X v1 v2)
  · rw [e1, if_neg (by decide), if_neg (by decide), if_neg (by decide)]
    obtain ⟨Yr, er, hk, hT, -⟩ := z_keep hI
    obtain ⟨v, X', Y', a', c1, c2, c3, c4, c5, c6⟩ := hgo (f_X0_keep X) Yr er hk
    rw [zlet_eq, c2]
    have c1' : f_X5_closeHall (f_X0_keep X) v1 v2 = some (v, X') := c1
    rw [c1', Option.bind_some]
    exact ⟨0, v, v, X', Y', a', rfl, rfl, c3, fun _ => rfl, c4, (hy.txt.tr hT).tr c6.txt⟩
end FSI
