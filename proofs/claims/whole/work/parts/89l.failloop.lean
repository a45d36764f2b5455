/-! A FAILURE: the loop over the shows that are out -/
section FLP
variable {X Y : Nat → Nat → Int32} {b c : Nat → Nat}
theorem VW.fin (h : VW b c []) (hB : zRB X 1 b) (hG : Gd2 b) : zRB X 1 c ∧ Gd2 c := by
  have gc := h.gd hG.1
  obtain ⟨bH, bF, bT, bS, bL, bC, b1, b0⟩ := zRB_iff.mp hB
  obtain ⟨⟨v1, v2⟩, v3, v4, v5, v6, v7, v8⟩ := h
  have e4 : b 4 = c 4 := v1 4 (by decide) (by decide)
  have h4 := hG.1.c4
  have e6 : b 6 = c 6 := by rw [v6]; rfl
  have s8 : ∀ s, s < c 4 → shw b s 8 = shw c s 8 := fun s hs => by
    rw [v4 s hs, if_neg (fun q => absurd ((v3 s hs).mpr q) (by simp))]
  have lo : ∀ j, j < 158 → j ≠ 6 → c j = b j := fun j hj h6 => (v1 j hj h6).symm
  have hfl : ∀ f k, f < b 2 → k < 8 → flm c f k = flm b f k := fun f k hf hk => flm_cg (by have := hG.1.c2; omega) hk (fun j k1 k2 => lo j (by omega) (by omega))
  have g6 := hG.1.c6
  refine ⟨zRB_iff.mpr ⟨bH.cg hG.1 rfl rfl (lo 1 (by decide) (by decide)) (fun j k1 k2 => lo j (by omega) (by omega)), bF.cg hG.1 rfl rfl (lo 2 (by decide) (by decide)) (fun j k1 k2 => lo j (by omega) (by omega)), bT.cg hG.1 rfl rfl (lo 3 (by decide) (by decide)) (fun j k1 k2 => lo j (by omega) (by omega)), ⟨⟨bS.1.1, bS.1.2.1, by rw [← e4]; exact bS.1.2.2⟩, fun s hs => ?_⟩, ⟨⟨bL.1.1, bL.1.2.1, by rw [← e6]; exact bL.1.2.2⟩, fun i hi => ?_⟩, bC.cg rfl rfl (fun j k1 k2 => lo j (by omega) (by omega)), b1.cg rfl (lo 0 (by decide) (by decide)) (lo 5 (by decide) (by decide)), fun q => ?_⟩, gc, fun s hs => ?_, fun s t hs ht hst s0 t0 hh hd => ?_⟩
  · have hsb : s < b 4 := by omega
    obtain ⟨p0, p1, p2, p3, p4, p5, p6⟩ := bS.2 s hsb
    have sb : ∀ k, k < 8 → shw c s k = shw b s k := fun k hk => (v2 s k (by omega) hk).symm
    have s1 := hG.1.s1 hsb
    have eE : endA c s = endA b s := by
      unfold endA mins
      rw [sb 3 (by decide), sb 5 (by decide), sb 1 (by decide), hfl _ 0 s1 (by decide)]
    refine ⟨fun k hk => by rw [sb k (by omega)]; exact p0 k hk, by rw [eE]; exact p1, by rw [sb 7 (by decide)]; exact p2, by rw [sb 4 (by decide)]; exact p3, by rw [sb 6 (by decide)]; exact p4, by rw [← s8 s hs]; exact p5, by rw [sb 5 (by decide)]; exact p6⟩
  · have p := bL.2 i (by omega)
    have l := fun k hk => (v7 i hi k hk).symm
    rw [l 0 (by decide), l 1 (by decide), l 2 (by decide), l 3 (by decide), l 4 (by decide)]
    exact p
  · rw [← e6]; exact b0 (by rw [v1 7 (by decide) (by decide)]; exact q)
  · rw [← s8 s hs]; exact hG.2.1 s (by omega)
  · have sb : ∀ z k, z < c 4 → k < 8 → shw b z k = shw c z k := fun z k hz hk => v2 z k (by omega) hk
    rw [← sb s 3 hs (by decide), ← sb t 3 ht (by decide)]
    exact hG.2.2 s t (by omega) (by omega) hst (by rw [s8 s hs]; exact s0) (by rw [s8 t ht]; exact t0) (by rw [sb s 0 hs (by decide), sb t 0 ht (by decide)]; exact hh) (by rw [sb s 2 hs (by decide), sb t 2 ht (by decide)]; exact hd)
theorem fail_loop {x : Nat} : ∀ (rest : List Nat) (X Y : Nat → Nat → Int32) (b c : Nat → Nat) (many fu fu2 : Nat), zRB X 1 b → Gd2 b → RM (Y 1) c → VW b c rest → rest.Pairwise (ltK c) → (∀ s ∈ rest, shw c s 0 = x) → x < c 1 → oCon X → b 7 = 1 → rest.length < fu → rest.length < fu2 →
    ∃ X' Y' c' many', f_X5_closeHall_L24 (nI x) fu X (nI many) (nI (c 6)) = some (nI many', X') ∧ (∀ kc, f_X6_fail_L158 kc fu2 Y (nI many) (enO rest.head?) = kc Y' (nI many')) ∧ zRB X' 1 c' ∧ RM (Y' 1) c' ∧ Gd2 c' ∧ oCon X' ∧ (∀ r, r ≠ 1 → r ≠ 9 → r ≠ 10 → r ≠ 11 → r ≠ 146 → r ≠ 147 → r ≠ 148 → X' r = X r) ∧ FY Y Y' := by
  intro rest
  induction rest with
  | nil =>
    intro X Y b c many fu fu2 hB hG hR hV hp h0 hx hO h7 hf hf2
    obtain ⟨f, rfl, -⟩ := fu_s hf
    obtain ⟨f2, rfl, -⟩ := fu_s hf2
    have e6 : b 6 = c 6 := by rw [hV.2.2.2.2.1]; rfl
    have g6 := hG.1.c6
    obtain ⟨bH, bF, bT, bS, bL, bC, b1, b0⟩ := zRB_iff.mp hB
    obtain ⟨q1, q2⟩ := hV.fin hB hG
    refine ⟨X, Y, c, many, ?_, fun kc => ?_, q1, hR, q2, hO, fun r _ _ _ _ _ _ _ => rfl, FY.rf Y⟩
    · rw [f_X5_closeHall_L24, n_size bL.1.2.2, e6, if_pos (nI_le (Nat.le_refl _) (by omega))]
    · rw [f_X6_fail_L158, if_pos (show enO ([] : List Nat).head? = (-1 : Int32) from rfl)]
  | cons s t ih =>
    intro X Y b c many fu fu2 hB hG hR hV hp h0 hx hO h7 hf hf2
    obtain ⟨f, rfl, hfa⟩ := fu_s hf
    obtain ⟨f2, rfl, hfb⟩ := fu_s hf2
    have hfa := hfa t.length rfl
    have hfb := hfb t.length rfl
    have gc := hV.gd hG.1
    have c4 := gc.c4
    have c1 := gc.c1
    have hs := hV.2.2.2.1 s List.mem_cons_self
    have b6 := hV.2.2.2.2.1
    rw [List.length_cons] at b6
    have g6 := hG.1.c6
    have hn : s ∉ t := fun q => by
      have := (List.pairwise_cons.mp hp).1 s q
      unfold ltK at this
      omega
    have st2 : shw c s 8 = 2 := (hV.2.1 s hs).mp List.mem_cons_self
    have sb8 : shw b s 8 = 1 := by rw [hV.2.2.1 s hs, if_pos st2]
    have hx0 := h0 s List.mem_cons_self
    obtain ⟨bH, bF, bT, bS, bL, bC, b1, b0⟩ := zRB_iff.mp hB
    have gC : Gd (lnC c s) := gc.vw (fun j hj q1 q2 => lnC_lo q1 (by omega)) (by
      show lnC c s 6 ≤ 30
      unfold lnC
      rw [up_n _ (by omega), up_n _ (by omega), up_n _ (by omega), up_s]
      omega) (by rw [lnC_lo (by decide) (by decide)]; exact gc.1.2.2.2.2.2.2.1) (fun z k hz hk => lnC_lo (by omega) (by omega)) (fun z hz => by
      rw [show shw (lnC c s) z 8 = shw c z 8 from lnC_lo (by omega) (by omega)]
      have := gc.2.2.2.2 z hz
      omega)
    have vS : VS b (lnC c s) := ⟨⟨fun j hj h6 => (hV.1.1 j hj h6).trans (show lnC c s j = c j from lnC_lo h6 (by omega)).symm, fun z k hz hk => (hV.1.2 z k hz hk).trans (show shw (lnC c s) z k = shw c z k from lnC_lo (by omega) (by omega)).symm⟩, fun z hz => by
      rw [lnC_lo (by decide) (by decide)] at hz
      rw [show shw (lnC c s) z 8 = shw c z 8 from lnC_lo (by omega) (by omega)]
      exact hV.2.2.1 z hz⟩
    have mkH : ∀ Z, RM (Z 1) (lnC c s) → SH0 X Z b (lnC c s) s x := fun Z hZ => ⟨hB, hG.1, hZ, gC, vS, by rw [lnC_lo (by decide) (by decide)]; exact hs, by rw [lnC_lo (by decide) (by decide)]; exact hx, (show shw (lnC c s) s 0 = shw c s 0 from lnC_lo (by omega) (by omega)).trans hx0⟩
    have l0 := hV.2.2.2.2.2.2 0 s rfl
    rw [Nat.add_zero] at l0
    have hL : lnOf b (lnC c s) (c 6) s := ⟨by omega, l0.1, l0.2.1.trans (show shw (lnC c s) s 3 = shw c s 3 from lnC_lo (by omega) (by omega)).symm, l0.2.2.2.2.trans (show shw (lnC c s) s 7 = shw c s 7 from lnC_lo (by omega) (by omega)).symm⟩
    have H0 := mkH (fun _ k => en k (lnC c s k)) (fun k _ => rfl)
    have cs : f_X4_size X 10 150 = nI (b 6) := n_size bL.1.2.2
    have ez : enO (s :: t).head? = nI s := rfl
    have tp := (List.pairwise_cons.mp hp).2
    -- what stays of the shows still out
    have keep : ∀ (c' : Nat → Nat), (∀ z k, z ≠ s → z < 30 → k < 9 → shw c' z k = shw c z k) → t.Pairwise (ltK c') ∧ ∀ z ∈ t, shw c' z 0 = x := by
      intro c' hc
      have zt : ∀ z ∈ t, z ≠ s ∧ z < 30 := fun z hz => ⟨fun q => hn (by rw [← q]; exact hz), by have := hV.2.2.2.1 z (List.mem_cons_of_mem _ hz); omega⟩
      refine ⟨tp.imp_of_mem (fun {p q} hp hq l => ?_), fun z hz => by rw [hc z 0 (zt z hz).1 (zt z hz).2 (by decide)]; exact h0 z (List.mem_cons_of_mem _ hz)⟩
      unfold ltK at l ⊢
      rw [hc p 2 (zt p hp).1 (zt p hp).2 (by decide), hc p 3 (zt p hp).1 (zt p hp).2 (by decide), hc q 2 (zt q hq).1 (zt q hq).2 (by decide), hc q 3 (zt q hq).1 (zt q hq).2 (by decide)]
      exact l
    rcases n_again H0 hG hO hL h7 sb8 with ⟨fe, X1, a1, a2, a3⟩ | ⟨h, st, X1, fe, hst, hh, hk, a1, a2, a3, a4, a5⟩
    · rcases m_treats hR gc hs (by omega) mkH with ⟨-, Y1, m1, m2, m3⟩ | ⟨h, st, fe2, -⟩
      · have hB1 : zRB X1 1 b := hB.x (fun r hr => a3 r (by omega) (by omega) (by omega))
        have hv1 := hV.none hn c4
        obtain ⟨X2, d1, d2, d3, d4⟩ := n_drop hB1 hG (s := s) (by rw [hV.1.1 4 (by decide) (by decide)]; exact hs)
        have c6' : drp (lnN (lnC c s) (c 6)) s 6 = c 6 + 1 := by have := hv1.2.2.2.2.1; have e : drp b s 6 = b 6 := drp_o (by decide) (by omega) (by omega); omega
        have nlo : ∀ j, j ≠ 6 → j < 428 → lnN (lnC c s) (c 6) j = c j := fun j h6 hj => by unfold lnN; rw [up_n _ (by omega), up_n _ (by omega)]; exact lnC_lo h6 hj
        obtain ⟨k1, k2⟩ := keep (drp (lnN (lnC c s) (c 6)) s) (fun z k hz hz3 hk => (drp_o (by omega) (by omega) (by omega)).trans (nlo _ (by omega) (by omega)))
        obtain ⟨X', Y', c', many', r1, r2, r3, r4, r5, r6, r7, r8⟩ := ih X2 Y1 (drp b s) (drp (lnN (lnC c s) (c 6)) s) (many + 1) f f2 d2 d3 m2 hv1 k1 k2 (by rw [drp_o (by decide) (by omega) (by omega), nlo 1 (by decide) (by decide)]; exact hx) (a2.fr (d4 147 (by decide) (by decide))) (by rw [drp_o (by decide) (by omega) (by omega)]; exact h7) hfa hfb
        have nx := m_nextOut m2 (hv1.gd d3.1) hv1.2.1 hv1.2.2.2.1 k1
        refine ⟨X', Y', c', many', ?_, fun kc => ?_, r3, r4, r5, r6, fun r p1 p2 p3 p4 p5 p6 p7 => (r7 r p1 p2 p3 p4 p5 p6 p7).trans ((d4 r p1 p2).trans (a3 r p5 p6 p7)), m3.tr r8⟩
        · rw [f_X5_closeHall_L24, cs, if_neg (nI_ge (by omega) (by omega)), a1, Option.bind_some]
          dsimp only
          rw [if_pos nI_0]
          have q0 : f_X4_get X1 10 150 (nI (c 6)) (nI 0) = nI s := by
            rw [get_cg (X := X) (a3 10 (by decide) (by decide) (by decide)) (a3 11 (by decide) (by decide) (by decide)), c_get_in (c := 5) bL.1.1 (by decide) (show c 6 * 5 + 0 < 150 by omega), (bL.2 (c 6) (by omega)).1, l0.1]
          simp only [zlet_eq]
          rw [q0, d1, nI_1, nI_1]
          rw [c6'] at r1
          exact r1
        · rw [f_X6_fail_L158, ez, if_neg (z_m1 (by omega)), m1, Option.bind_some]
          dsimp only
          rw [nx, Option.bind_some, nI_add]
          exact r2 kc
      · rw [fe] at fe2; cases fe2
    · rcases m_treats hR gc hs (by omega) mkH with ⟨fe2, -⟩ | ⟨h2, st2', fe2, hst2, hh2, hk2, Y1, m1, m2, m3⟩
      · rw [fe] at fe2; cases fe2
      · rw [fe] at fe2
        obtain ⟨e1, e2⟩ := Prod.mk.inj (Option.some.inj fe2)
        subst e1
        have e3 : st = st2' := (nI_eq (by omega) (by omega)).mp e2
        subst e3
        have hv1 := hV.some (h9 := h) (st := st) hn c4
        have o6 : lnP (bkA b s h st) (c 6) h st 6 = b 6 := by unfold lnP; rw [up_n _ (by omega), up_n _ (by omega)]; exact bkA_o (by omega) (by omega) (by omega)
        have o7 : lnP (bkA b s h st) (c 6) h st 7 = b 7 := by unfold lnP; rw [up_n _ (by omega), up_n _ (by omega)]; exact bkA_o (by omega) (by omega) (by omega)
        have c6' : bkA (lnP (lnC c s) (c 6) h st) s h st 6 = c 6 + 1 := by have := hv1.2.2.2.2.1; omega
        have plo : ∀ j, j ≠ 6 → j < 428 → lnP (lnC c s) (c 6) h st j = c j := fun j h6 hj => by unfold lnP; rw [up_n _ (by omega), up_n _ (by omega)]; exact lnC_lo h6 hj
        obtain ⟨k1, k2⟩ := keep (bkA (lnP (lnC c s) (c 6) h st) s h st) (fun z k hz hz3 hk => (bkA_o (by omega) (by omega) (by omega)).trans (plo _ (by omega) (by omega)))
        obtain ⟨X', Y', c', many', r1, r2, r3, r4, r5, r6, r7, r8⟩ := ih X1 Y1 _ _ many f f2 a2 a3 m2 hv1 k1 k2 (by rw [bkA_o (by omega) (by omega) (by omega), plo 1 (by decide) (by decide)]; exact hx) a4 (by rw [o7]; exact h7) hfa hfb
        have nx := m_nextOut m2 (hv1.gd a3.1) hv1.2.1 hv1.2.2.2.1 k1
        refine ⟨X', Y', c', many', ?_, fun kc => ?_, r3, r4, r5, r6, fun r p1 p2 p3 p4 p5 p6 p7 => (r7 r p1 p2 p3 p4 p5 p6 p7).trans (a5 r p2 p4 p5 p6 p7), m3.tr r8⟩
        · rw [f_X5_closeHall_L24, cs, if_neg (nI_ge (by omega) (by omega)), a1, Option.bind_some]
          dsimp only
          rw [if_neg nI_10, nI_1]
          rw [c6'] at r1
          exact r1
        · rw [f_X6_fail_L158, ez, if_neg (z_m1 (by omega)), m1, Option.bind_some]
          dsimp only
          rw [nx, Option.bind_some, nI_add]
          exact r2 kc
end FLP
