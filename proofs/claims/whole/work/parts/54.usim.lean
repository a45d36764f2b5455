theorem sim_undo {X Y : Nat → Nat → Int32} {a : Nat → Nat} (h : zInv 0 X Y a) : zSim X Y K2 (some (f_X5_undo X)) (f_X6_undo Y) := by
  have h0 := h
  obtain ⟨hB, hR, hG, ⟨⟨n, s, n8, s8, y3, x2, x1, hh⟩, ⟨hc1, hc2⟩, hs, hr, he, hO, r1, r2⟩, h7⟩ := h
  unfold f_X5_undo f_X6_undo
  rw [x2, y3]
  by_cases c : n = 0
  · subst c
    rw [if_pos nI_0, if_pos nI_0]
    exact .no h0 (zTxt.rf Y) (by decide) rfl
  · rw [if_neg (nI_ne0 (by omega) (by omega)), if_neg (nI_ne0 (by omega) (by omega)), pk_sub (by omega)]
    obtain ⟨b, b1, b2, b3⟩ := hh (n - 1) (by omega)
    rw [sl_last (by omega) n8 s8] at b3
    obtain ⟨p1, p2, p3, p4⟩ := n_stepBack x2 x1 (by omega) s8 rfl b3 b1.1 hB.con
    simp only [zlet_eq]
    rw [zU_s, pk_mul]
    have hm : (n - 1) * 580 + 580 ≤ 4640 := by omega
    obtain ⟨Y', e2, q1, q2, q3⟩ := m_copy (Y := zU Y 0 3 (nI (n - 1))) (r0 := 2) (n0 := 4640) (r1 := 1) (n1 := 580) (o1 := (n - 1) * 580) (o3 := 0) (by decide) hm (by decide) (by decide) (by decide)
    rw [e2, Option.bind_some]
    have e03 : Y' 0 3 = nI (n - 1) := by rw [q1 0 (by decide), zU_s]
    have q1' : ∀ r, r ≠ 0 → r ≠ 1 → Y' r = Y r := fun r k1 k2 => by rw [q1 r k2, zU_r _ _ _ _ k1]
    have q0' : ∀ k, k ≠ 3 → Y' 0 k = Y 0 k := fun k hk => by rw [q1 0 (by decide), zU_k _ _ _ _ hk]
    refine .ok (a := b) ⟨p1, ?_, b1, ⟨⟨n - 1, if s = 0 then 8 else s - 1, by omega, by split <;> omega, e03, p3, p4, fun i hi => ?_⟩, ⟨zCon_cong (fun r k1 k2 => p2 r (by omega) (by omega)) hc1, fun i hi => zCon_cong (fun r k1 k2 => p2 r (by omega) (by omega)) (hc2 i hi)⟩, ?_, ?_, ?_, ?_, ?_, ?_⟩, ?_⟩ ?_ rfl (by rw [p3]; exact e03.symm)
    · intro k hk
      have := q2 k hk
      rw [Nat.zero_add, zU_r _ _ _ _ (by decide)] at this
      exact this.trans (b2 k hk)
    · obtain ⟨b', d1, d2, d3⟩ := hh i (by omega)
      have hl := sl_lt s n i
      rw [sl_back (by omega) n8 s8 hi]
      exact ⟨b', d1, by rw [q1' 2 (by decide) (by decide)]; exact d2, zRB_cong (fun r k1 k2 => p2 r (by omega) (by omega)) d3⟩
    · unfold zSav at hs ⊢
      rw [p2 0 (by omega) (by decide), q0' 5 (by decide), q1' 3 (by decide) (by decide)]
      rcases hs with hs | ⟨s1, s2, b, d1, d2, d3⟩
      · exact Or.inl hs
      · exact Or.inr ⟨s1, s2, b, d1, d2, zRB_cong (fun r k1 k2 => p2 r (by omega) (by omega)) d3⟩
    · unfold zRsn at hr ⊢
      rw [p2 0 (by omega) (by decide), q0' 8 (by decide), q0' 9 (by decide)]
      exact hr
    · unfold zErr at he ⊢
      rw [p2 0 (by omega) (by decide), q0' 12 (by decide)]
      exact he
    · unfold oCon at hO ⊢
      rw [p2 147 (by omega) (by decide)]
      exact hO
    · rw [p2 150 (by omega) (by decide)]; exact r1
    · rw [p2 150 (by omega) (by decide)]; exact r2
    · rw [q0' 7 (by decide)]; exact h7
    · exact ⟨q1' 5 (by decide) (by decide), q1' 6 (by decide) (by decide), q0' 11 (by decide), q0' 14 (by decide)⟩
theorem sim_save {X Y : Nat → Nat → Int32} {a : Nat → Nat} (h : zInv 0 X Y a) : zSim X Y K2 (some (f_X5_save X)) (f_X6_save Y) := by
  obtain ⟨hB, hR, hG, ⟨⟨n, s, n8, s8, y3, x2, x1, hh⟩, ⟨hc1, hc2⟩, hs, hr, he, hO, r1, r2⟩, h7⟩ := h
  obtain ⟨p1, p2, -⟩ := n_copyFrom (b := 14) (b2 := 1) hB hG.1 hc1 (by omega)
  obtain ⟨Y', e2, q1, q2, q3⟩ := m_copy (Y := Y) (r0 := 1) (n0 := 580) (r1 := 3) (n1 := 580) (o1 := 0) (o3 := 0) (by decide) (by decide) (by decide) (by decide) (by decide)
  unfold f_X5_save f_X6_save
  rw [e2, Option.bind_some]
  simp only [zlet_eq]
  generalize eX : f_X3_copyFrom X 14 1 = X1 at p1 p2
  have eX0 : ∀ k, k ≠ 7 → zU X1 0 7 (nI 1) 0 k = X 0 k := fun k hk => by rw [zU_k _ _ _ _ hk, p2 0 (by omega)]
  have eXr : ∀ r, 1 ≤ r → (r < 14 ∨ 26 < r) → zU X1 0 7 (nI 1) r = X r := fun r k1 k2 => by rw [zU_r _ _ _ _ (by omega), p2 r (by omega)]
  have eY0 : ∀ k, k ≠ 5 → zU Y' 0 5 (nI 1) 0 k = Y 0 k := fun k hk => by rw [zU_k _ _ _ _ hk, q1 0 (by decide)]
  have eYr : ∀ r, r ≠ 0 → r ≠ 3 → zU Y' 0 5 (nI 1) r = Y r := fun r k1 k2 => by rw [zU_r _ _ _ _ k1, q1 r k2]
  have eB : zRB (zU X1 0 7 (nI 1)) 1 a := zRB_cong (fun r k1 k2 => eXr r (by omega) (by omega)) hB
  have eR : RM (zU Y' 0 5 (nI 1) 1) a := by rw [eYr 1 (by decide) (by decide)]; exact hR
  have hv : f_X4_size (zU X1 0 7 (nI 1)) 8 360 = zU Y' 0 5 (nI 1) 1 (nI 4).toNatClampNeg := by rw [show f_X4_size (zU X1 0 7 (nI 1)) 8 360 = nI (a 4) from n_nS eB, show zU Y' 0 5 (nI 1) 1 (nI 4).toNatClampNeg = nI (a 4) from eR.lo (k := 4) (by decide)]
  refine .ok (a := a) ⟨eB, eR, hG, ⟨⟨n, s, n8, s8, by rw [eY0 3 (by decide)]; exact y3, by rw [eXr 27 (by decide) (by decide)]; exact x2, by rw [eXr 27 (by decide) (by decide)]; exact x1, fun i hi => ?_⟩, ⟨zCon_cong (fun r k1 k2 => zU_r _ _ _ _ (by omega)) p1.con, fun i hi => zCon_cong (fun r k1 k2 => eXr r (by omega) (by omega)) (hc2 i hi)⟩, ?_, ?_, ?_, ?_, ?_, ?_⟩, ?_⟩ ?_ rfl hv
  · obtain ⟨b', d1, d2, d3⟩ := hh i hi
    have hl := sl_lt s n i
    exact ⟨b', d1, by rw [eYr 2 (by decide) (by decide)]; exact d2, zRB_cong (fun r k1 k2 => eXr r (by omega) (by omega)) d3⟩
  · refine Or.inr ⟨zU_s _ _ _ _, zU_s _ _ _ _, a, hG, ?_, zRB_cong (fun r k1 k2 => zU_r _ _ _ _ (by omega)) p1⟩
    intro k hk
    have := q2 k hk
    rw [Nat.zero_add] at this
    rw [zU_r _ _ _ _ (by decide)]
    exact this.trans (hR k hk)
  · unfold zRsn at hr ⊢
    rw [eX0 8 (by decide), eX0 9 (by decide), eY0 8 (by decide), eY0 9 (by decide)]
    exact hr
  · unfold zErr at he ⊢
    rw [eX0 10 (by decide), eY0 12 (by decide)]
    exact he
  · unfold oCon at hO ⊢
    rw [eXr 147 (by decide) (by decide)]
    exact hO
  · rw [eXr 150 (by decide) (by decide)]; exact r1
  · rw [eXr 150 (by decide) (by decide)]; exact r2
  · rw [eY0 7 (by decide)]; exact h7
  · exact ⟨eYr 5 (by decide) (by decide), eYr 6 (by decide) (by decide), eY0 11 (by decide), eY0 14 (by decide)⟩
theorem sim_restore {X Y : Nat → Nat → Int32} {a : Nat → Nat} (h : zInv 0 X Y a) : zSim X Y K2 (some (f_X5_restore X)) (f_X6_restore Y) := by
  have h0 := h
  obtain ⟨hB, hR, hG, ⟨⟨n, s, n8, s8, y3, x2, x1, hh⟩, ⟨hc1, hc2⟩, hs, hr, he, hO, r1, r2⟩, h7⟩ := h
  unfold f_X5_restore f_X6_restore
  rcases hs with ⟨s1, s2⟩ | ⟨s1, s2, b, b1, b2, b3⟩
  · rw [s1, s2, if_pos nI_0, if_pos nI_0]
    exact .no h0 (zTxt.rf Y) (by decide) rfl
  · rw [s1, s2, if_neg nI_10, if_neg nI_10]
    obtain ⟨p1, p2, -⟩ := n_copyFrom (b := 1) (b2 := 14) b3 b1.1 hB.con (by omega)
    obtain ⟨Y', e2, q1, q2, q3⟩ := m_copy (Y := Y) (r0 := 3) (n0 := 580) (r1 := 1) (n1 := 580) (o1 := 0) (o3 := 0) (by decide) (by decide) (by decide) (by decide) (by decide)
    rw [e2, Option.bind_some]
    simp only [zlet_eq]
    generalize eX : f_X3_copyFrom X 1 14 = X1 at p1 p2
    have eF : f_X0_forget X1 = zU X1 27 2 (nI 0) := rfl
    rw [eF]
    have eXr : ∀ r, r ≠ 27 → (r < 1 ∨ 13 < r) → zU X1 27 2 (nI 0) r = X r := fun r k1 k2 => by rw [zU_r _ _ _ _ k1, p2 r (by omega)]
    have eY0 : ∀ k, k ≠ 3 → zU Y' 0 3 (nI 0) 0 k = Y 0 k := fun k hk => by rw [zU_k _ _ _ _ hk, q1 0 (by decide)]
    have eYr : ∀ r, r ≠ 0 → r ≠ 1 → zU Y' 0 3 (nI 0) r = Y r := fun r k1 k2 => by rw [zU_r _ _ _ _ k1, q1 r k2]
    have eB : zRB (zU X1 27 2 (nI 0)) 1 b := zRB_cong (fun r k1 k2 => zU_r _ _ _ _ (by omega)) p1
    have eR : RM (zU Y' 0 3 (nI 0) 1) b := by
      intro k hk
      have := q2 k hk
      rw [Nat.zero_add] at this
      rw [zU_r _ _ _ _ (by decide)]
      exact this.trans (b2 k hk)
    have hv : f_X4_size (zU X1 27 2 (nI 0)) 8 360 = zU Y' 0 3 (nI 0) 1 (nI 4).toNatClampNeg := by rw [show f_X4_size (zU X1 27 2 (nI 0)) 8 360 = nI (b 4) from n_nS eB, show zU Y' 0 3 (nI 0) 1 (nI 4).toNatClampNeg = nI (b 4) from eR.lo (k := 4) (by decide)]
    refine .ok (a := b) ⟨eB, eR, b1, ⟨⟨0, s, by omega, s8, zU_s _ _ _ _, zU_s _ _ _ _, by rw [zU_k _ _ _ _ (by decide), p2 27 (by omega)]; exact x1, fun i hi => by omega⟩, ⟨zCon_cong (fun r k1 k2 => eXr r (by omega) (by omega)) hc1, fun i hi => zCon_cong (fun r k1 k2 => eXr r (by omega) (by omega)) (hc2 i hi)⟩, ?_, ?_, ?_, ?_, ?_, ?_⟩, ?_⟩ ?_ rfl hv
    · exact Or.inr ⟨by rw [eXr 0 (by decide) (by omega)]; exact s1, by rw [eY0 5 (by decide)]; exact s2, b, b1, by rw [eYr 3 (by decide) (by decide)]; exact b2, zRB_cong (fun r k1 k2 => eXr r (by omega) (by omega)) b3⟩
    · unfold zRsn at hr ⊢
      rw [eXr 0 (by decide) (by omega), eY0 8 (by decide), eY0 9 (by decide)]
      exact hr
    · unfold zErr at he ⊢
      rw [eXr 0 (by decide) (by omega), eY0 12 (by decide)]
      exact he
    · unfold oCon at hO ⊢
      rw [eXr 147 (by decide) (by omega)]
      exact hO
    · rw [eXr 150 (by decide) (by omega)]; exact r1
    · rw [eXr 150 (by decide) (by omega)]; exact r2
    · rw [eY0 7 (by decide)]; exact h7
    · exact ⟨eYr 5 (by decide) (by decide), eYr 6 (by decide) (by decide), eY0 11 (by decide), eY0 14 (by decide)⟩
