/-! history: a change is counted, or undone -/
theorem sl_step {s n i : Nat} (hn : n ≤ 8) (hs : s ≤ 8) (hi : i < (if n = 8 then 7 else n)) : sl (if s + 1 < 9 then s + 1 else 0) ((if n = 8 then 7 else n) + 1) i = sl s n (i + (if n = 8 then 1 else 0)) := by
  unfold sl
  split <;> split <;> split at hi <;> omega
theorem sl_new {s n : Nat} (hn : n ≤ 8) (hs : s ≤ 8) : sl (if s + 1 < 9 then s + 1 else 0) ((if n = 8 then 7 else n) + 1) (if n = 8 then 7 else n) = 29 + 13 * s := by
  unfold sl
  split <;> split <;> omega
theorem sl_ne {s n i : Nat} (hn : n ≤ 8) (hs : s ≤ 8) (hi : i < n) : sl s n i + 12 < 29 + 13 * s ∨ 29 + 13 * s + 12 < sl s n i := by
  unfold sl
  have h1 : (s + 9 - n + i) % 9 ≠ s := by omega
  have h2 : (s + 9 - n + i) % 9 < 9 := Nat.mod_lt _ (by decide)
  omega
theorem n_countSpare {X : Nat → Nat → Int32} {n s : Nat} (hn : X 27 2 = nI n) (hs : X 27 1 = nI s) (hn8 : n ≤ 8) (hs8 : s ≤ 8) :
    (∀ r, r ≠ 27 → f_X0_countSpare X r = X r) ∧ f_X0_countSpare X 27 2 = nI ((if n = 8 then 7 else n) + 1) ∧ f_X0_countSpare X 27 1 = nI (if s + 1 < 9 then s + 1 else 0) := by
  have fin : ∀ (v : Int32), (∀ r, r ≠ 27 → zU (zU X 27 1 v) 27 2 (if nI 8 < (zU X 27 1 v 27 2) + nI 1 then nI 8 else (zU X 27 1 v 27 2) + nI 1) r = X r) ∧ zU (zU X 27 1 v) 27 2 (if nI 8 < (zU X 27 1 v 27 2) + nI 1 then nI 8 else (zU X 27 1 v 27 2) + nI 1) 27 2 = nI ((if n = 8 then 7 else n) + 1) ∧ zU (zU X 27 1 v) 27 2 (if nI 8 < (zU X 27 1 v 27 2) + nI 1 then nI 8 else (zU X 27 1 v 27 2) + nI 1) 27 1 = v := by
    intro v
    refine ⟨fun r hr => by rw [zU_r _ _ _ _ hr, zU_r _ _ _ _ hr], ?_, by rw [zU_k _ _ _ _ (by decide), zU_s]⟩
    rw [zU_s, zU_k _ _ _ _ (by decide), hn, nI_add]
    by_cases c : n = 8
    · subst c; rfl
    · rw [if_neg (nI_nlt (by omega) (by omega)), if_neg c]
  unfold f_X0_countSpare zlet
  dsimp only
  rw [hs, nI_add]
  by_cases c : s + 1 < 9
  · rw [if_neg (nI_ge (by omega) (by omega)), if_pos c]
    exact fin _
  · rw [if_pos (nI_le (by omega) (by omega)), if_neg c]
    exact fin _
theorem z_count {X Y : Nat → Nat → Int32} {n s r0 : Nat} {b : Nat → Nat} (h2 : r0 ≠ 2) (h0 : r0 ≠ 0) (hn8 : n ≤ 8) (hs8 : s ≤ 8) (y3 : Y 0 3 = nI n) (x2 : X 27 2 = nI n) (x1 : X 27 1 = nI s)
    (hh : ∀ i, i < n → ∃ b, Gd2 b ∧ RM (fun k => Y 2 (i * 580 + k)) b ∧ zRB X (sl s n i) b) (hb : Gd2 b) (hbR : RM (Y r0) b) (hbB : zRB X (29 + 13 * s) b) :
    ∃ Yr, f_X6_remembersRow Y r0 580 = some Yr ∧ (∀ r, r ≠ 0 → r ≠ 2 → Yr r = Y r) ∧ (∀ k, k ≠ 3 → Yr 0 k = Y 0 k) ∧ zHist (f_X0_countSpare X) Yr ∧ ∀ r, r ≠ 27 → f_X0_countSpare X r = X r := by
  obtain ⟨Yr, m, e, em, k1, k2, k3, k4, k5⟩ := m_remRow h2 h0 hn8 y3
  obtain ⟨c1, c2, c3⟩ := n_countSpare x2 x1 hn8 hs8
  subst em
  have hm : (if n = 8 then 7 else n) ≤ 7 := by split <;> omega
  refine ⟨Yr, e, k1, k2, ⟨(if n = 8 then 7 else n) + 1, if s + 1 < 9 then s + 1 else 0, by omega, by split <;> omega, k3, c2, c3, fun i hi => ?_⟩, c1⟩
  by_cases c : i = (if n = 8 then 7 else n)
  · rw [c, sl_new hn8 hs8]
    refine ⟨b, hb, fun k hk => ?_, zRB_cong (fun r q1 q2 => c1 r (by omega)) hbB⟩
    exact (k5 k hk).trans (hbR k hk)
  · have hi2 : i < (if n = 8 then 7 else n) := by omega
    obtain ⟨b', b1, b2, b3⟩ := hh (i + (if n = 8 then 1 else 0)) (by split <;> split at hi2 <;> omega)
    rw [sl_step hn8 hs8 hi2]
    have hl := sl_lt s n (i + (if n = 8 then 1 else 0))
    refine ⟨b', b1, fun k hk => ?_, zRB_cong (fun r q1 q2 => c1 r (by omega)) b3⟩
    exact (k4 i k hi2 hk).trans (b2 k hk)
/-- a change begins: both sides keep the state -/
theorem z_keep {X Y : Nat → Nat → Int32} {a : Nat → Nat} (h : zInv 0 X Y a) :
    ∃ Yr, f_X6_remembers Y = some Yr ∧ zInv 0 (f_X0_keep X) Yr a ∧ zTxt Y Yr ∧ (∀ r, r ≠ 0 → r ≠ 2 → Yr r = Y r) ∧ (∀ k, k ≠ 3 → Yr 0 k = Y 0 k) ∧ (∀ r, r < 27 → f_X0_keep X r = X r) ∧ (∀ r, 146 ≤ r → f_X0_keep X r = X r) := by
  have h0 := h
  obtain ⟨hB, hR, hG, ⟨⟨n, s, n8, s8, y3, x2, x1, hh⟩, ⟨hc1, hc2⟩, hs, hr, he, hO, r1, r2⟩, h7⟩ := h
  obtain ⟨kB, kr⟩ := n_keepSpare h0 x2 x1 n8 s8
  obtain ⟨Yr, e, k1, k2, k3, k4⟩ := z_count (X := f_X0_keepSpare X) (Y := Y) (r0 := 1) (b := a) (by decide) (by decide) n8 s8 y3 (by rw [kr 27 (by omega)]; exact x2) (by rw [kr 27 (by omega)]; exact x1)
    (fun i hi => by
      obtain ⟨b, b1, b2, b3⟩ := hh i hi
      have := sl_ne n8 s8 hi
      exact ⟨b, b1, b2, zRB_cong (fun r q1 q2 => kr r (by omega)) b3⟩) hG hR kB
  have eK : f_X0_keep X = f_X0_countSpare (f_X0_keepSpare X) := rfl
  have low : ∀ r, r < 27 → f_X0_keep X r = X r := fun r hr => by rw [eK, k4 r (by omega), kr r (by omega)]
  have high : ∀ r, 146 ≤ r → f_X0_keep X r = X r := fun r hr => by rw [eK, k4 r (by omega), kr r (by omega)]
  refine ⟨Yr, ?_, ⟨zRB_cong (fun r q1 q2 => low r (by omega)) hB, by rw [k1 1 (by decide) (by decide)]; exact hR, hG, ⟨?_, ⟨zCon_cong (fun r q1 q2 => low r (by omega)) hc1, fun i hi => ?_⟩, ?_, ?_, ?_, ?_, ?_, ?_⟩, ?_⟩, ⟨k1 5 (by decide) (by decide), k1 6 (by decide) (by decide), k2 11 (by decide), k2 14 (by decide)⟩, k1, k2, low, high⟩
  · unfold f_X6_remembers
    rw [h7, if_pos nI_0, e]
    rfl
  · rw [eK]; exact k3
  · rw [eK]
    by_cases c : i = s
    · subst c
      exact (zRB_cong (fun r q1 q2 => k4 r (by omega)) kB).con
    · exact zCon_cong (fun r q1 q2 => by rw [k4 r (by omega), kr r (by omega)]) (hc2 i hi)
  · unfold zSav at hs ⊢
    rw [low 0 (by decide), k2 5 (by decide), k1 3 (by decide) (by decide)]
    rcases hs with hs | ⟨s1, s2, b, b1, b2, b3⟩
    · exact Or.inl hs
    · exact Or.inr ⟨s1, s2, b, b1, b2, zRB_cong (fun r q1 q2 => low r (by omega)) b3⟩
  · unfold zRsn at hr ⊢
    rw [low 0 (by decide), k2 8 (by decide), k2 9 (by decide)]
    exact hr
  · unfold zErr at he ⊢
    rw [low 0 (by decide), k2 12 (by decide)]
    exact he
  · unfold oCon at hO ⊢
    rw [high 147 (by decide)]
    exact hO
  · rw [high 150 (by decide)]; exact r1
  · rw [high 150 (by decide)]; exact r2
  · rw [k2 7 (by decide)]; exact h7
