/-! A FAILURE: one show after the other -/
section FST
variable {X Y : Nat → Nat → Int32} {b c b' c' : Nat → Nat}
theorem VW.gd {rest : List Nat} (h : VW b c rest) (hG : Gd b) : Gd c := by
  have h4 := hG.c4
  have e4 : b 4 = c 4 := h.1.lo (by decide) (by decide)
  have e6 := h.2.2.2.2.1
  have g6 := hG.c6
  refine hG.vw (fun j hj q1 q2 => (h.1.1 j hj q1).symm) (by omega) (by rw [← h.1.1 7 (by decide) (by decide)]; exact hG.1.2.2.2.2.2.2.1) (fun s k hs hk => (h.1.2 s k hs hk).symm) (fun s hs => ?_)
  have p := h.2.2.1 s (by omega)
  have q := hG.2.2.2.2 s hs
  by_cases e : shw c s 8 = 2
  · omega
  · rw [if_neg e] at p
    omega
theorem VW.step {s : Nat} {t : List Nat} (h : VW b c (s :: t)) (hn : s ∉ t) (h30 : c 4 ≤ 30) (hA : ∀ j, j < 158 → j ≠ 6 → b' j = c' j) (hB : ∀ k, k < 8 → shw b' s k = shw c' s k) (hC : ∀ z k, z ≠ s → z < 30 → k < 9 → shw b' z k = shw b z k ∧ shw c' z k = shw c z k) (d4 : c' 4 = c 4) (d6 : b' 6 = b 6) (d7 : c' 6 = c 6 + 1) (hE : shw c' s 8 ≠ 2) (hE2 : shw b' s 8 = shw c' s 8) (hF : ∀ i k, i ≠ c 6 → k < 5 → lin b' i k = lin b i k) (hF2 : ∀ i k, i < c 6 → k < 5 → lin c' i k = lin c i k) (hGl : ∀ k, k < 5 → lin b' (c 6) k = lin c' (c 6) k) : VW b' c' t := by
  obtain ⟨⟨v1, v2⟩, v3, v4, v5, v6, v7, v8⟩ := h
  refine ⟨⟨hA, fun z k hz hk => ?_⟩, fun z hz => ?_, fun z hz => ?_, fun z hz => ?_, ?_, fun i hi k hk => ?_, fun i z hz => ?_⟩
  · by_cases e : z = s
    · subst e; exact hB k hk
    · rw [(hC z k e hz (by omega)).1, (hC z k e hz (by omega)).2]; exact v2 z k hz hk
  · rw [d4] at hz
    by_cases e : z = s
    · subst e
      exact ⟨fun q => absurd q hn, fun q => absurd q hE⟩
    · rw [(hC z 8 e (by omega) (by decide)).2, ← v3 z hz]
      exact ⟨fun q => List.mem_cons_of_mem _ q, fun q => by rcases List.mem_cons.mp q with q | q; exact absurd q e; exact q⟩
  · rw [d4] at hz
    by_cases e : z = s
    · subst e
      rw [if_neg hE]; exact hE2
    · rw [(hC z 8 e (by omega) (by decide)).1, (hC z 8 e (by omega) (by decide)).2]; exact v4 z hz
  · rw [d4]; exact v5 z (List.mem_cons_of_mem _ hz)
  · rw [d6, d7, v6, List.length_cons]; omega
  · rw [d7] at hi
    by_cases e : i = c 6
    · subst e; exact hGl k hk
    · rw [hF i k e hk, hF2 i k (by omega) hk]; exact v7 i (by omega) k hk
  · have p := v8 (i + 1) z (by rw [List.getElem?_cons_succ]; exact hz)
    have hzm : z ∈ t := List.mem_of_getElem? hz
    have ez : z ≠ s := fun q => hn (by rw [← q]; exact hzm)
    have z4 := v5 z (List.mem_cons_of_mem _ hzm)
    rw [d7, show c 6 + 1 + i = c 6 + (i + 1) by omega, hF _ 0 (by omega) (by decide), hF _ 1 (by omega) (by decide), hF _ 2 (by omega) (by decide), hF _ 3 (by omega) (by decide), hF _ 4 (by omega) (by decide), (hC z 3 ez (by omega) (by decide)).2, (hC z 7 ez (by omega) (by decide)).2]
    exact p
theorem lnC_line {s : Nat} : lin (lnC c s) (c 6) 0 = s ∧ lin (lnC c s) (c 6) 1 = shw c s 3 ∧ lin (lnC c s) (c 6) 4 = shw c s 7 := by
  unfold lin lnC
  refine ⟨?_, ?_, ?_⟩
  · rw [up_n _ (by omega), up_n _ (by omega)]
    exact up_s _ _ _
  · rw [up_n _ (by omega), up_s]
  · rw [up_s]
theorem lnC_old {s i k : Nat} (hi : i < c 6) (hk : k < 5) : lin (lnC c s) i k = lin c i k := by
  unfold lin lnC
  rw [up_n _ (by omega), up_n _ (by omega), up_n _ (by omega), up_n _ (by omega)]
theorem drp_o {a : Nat → Nat} {s j : Nat} (h5 : j ≠ 5) (h7 : j ≠ 158 + 9 * s + 7) (h8 : j ≠ 158 + 9 * s + 8) : drp a s j = a j := by
  unfold drp
  rw [up_n _ h5, up_n _ h7, up_n _ h8]
theorem VW.none {s : Nat} {t : List Nat} (h : VW b c (s :: t)) (hn : s ∉ t) (h30 : c 4 ≤ 30) : VW (drp b s) (drp (lnN (lnC c s) (c 6)) s) t := by
  have hs := h.2.2.2.1 s List.mem_cons_self
  have b6 := h.2.2.2.2.1
  have l0 := h.2.2.2.2.2.2 0 s rfl
  rw [Nat.add_zero] at l0
  have nlo : ∀ j, j ≠ 6 → j < 428 → lnN (lnC c s) (c 6) j = c j := fun j h6 hj => by unfold lnN; rw [up_n _ (by omega), up_n _ (by omega)]; exact lnC_lo h6 hj
  have nC : lnN (lnC c s) (c 6) 6 = c 6 + 1 := by
    unfold lnN lnC
    rw [up_n _ (by omega), up_n _ (by omega), up_n _ (by omega), up_n _ (by omega), up_n _ (by omega), up_s]
  have s7 : shw (lnN (lnC c s) (c 6)) s 7 = shw c s 7 := nlo _ (by omega) (by omega)
  have e7 : shw b s 7 = shw c s 7 := h.1.2 s 7 (by omega) (by decide)
  have t7 : ∀ a : Nat → Nat, shw (drp a s) s 7 = 0 := fun a => by unfold shw drp; rw [up_n _ (by omega), up_s]
  have t8 : ∀ a : Nat → Nat, shw (drp a s) s 8 = 1 := fun a => by unfold shw drp; rw [up_n _ (by omega), up_n _ (by omega), up_s]
  have lo : ∀ (a : Nat → Nat) (i k : Nat), lin (drp a s) i k = lin a i k := fun a i k => drp_o (by omega) (by omega) (by omega)
  refine h.step hn h30 (fun j hj h6 => ?_) (fun k hk => ?_) (fun z k hz hz3 hk => ⟨drp_o (by omega) (by omega) (by omega), (drp_o (by omega) (by omega) (by omega)).trans (nlo _ (by omega) (by omega))⟩) ?_ (drp_o (by decide) (by omega) (by omega)) ?_ (by rw [t8]; decide) (by rw [t8, t8]) (fun i k hi hk => lo b i k) (fun i k hi hk => ?_) (fun k hk => ?_)
  · by_cases e : j = 5
    · subst e
      show drp b s 5 = drp (lnN (lnC c s) (c 6)) s 5
      rw [show drp b s 5 = b 5 + shw b s 7 from up_s _ _ _, show drp (lnN (lnC c s) (c 6)) s 5 = lnN (lnC c s) (c 6) 5 + shw (lnN (lnC c s) (c 6)) s 7 from up_s _ _ _, nlo 5 (by decide) (by decide), s7, e7, h.1.1 5 (by decide) (by decide)]
    · rw [drp_o e (by omega) (by omega), drp_o e (by omega) (by omega), nlo j h6 (by omega)]
      exact h.1.1 j hj h6
  · by_cases e : k = 7
    · subst e; rw [t7, t7]
    · rw [show shw (drp b s) s k = shw b s k from drp_o (by omega) (by omega) (by omega), show shw (drp (lnN (lnC c s) (c 6)) s) s k = shw (lnN (lnC c s) (c 6)) s k from drp_o (by omega) (by omega) (by omega), show shw (lnN (lnC c s) (c 6)) s k = shw c s k from nlo _ (by omega) (by omega)]
      exact h.1.2 s k (by omega) hk
  · rw [drp_o (by decide) (by omega) (by omega)]; exact nlo 4 (by decide) (by decide)
  · rw [drp_o (by decide) (by omega) (by omega)]; exact nC
  · rw [lo, show lin (lnN (lnC c s) (c 6)) i k = lin (lnC c s) i k by unfold lin lnN; rw [up_n _ (by omega), up_n _ (by omega)]]
    exact lnC_old hi hk
  · rw [lo, lo]
    obtain ⟨n0, n1, n4⟩ := lnC_line (c := c) (s := s)
    have m : ∀ k, k ≠ 2 → k ≠ 3 → k < 5 → lin (lnN (lnC c s) (c 6)) (c 6) k = lin (lnC c s) (c 6) k := fun k q1 q2 q3 => by unfold lin lnN; rw [up_n _ (by omega), up_n _ (by omega)]
    have m2 : lin (lnN (lnC c s) (c 6)) (c 6) 2 = 0 := by unfold lin lnN; rw [up_n _ (by omega), up_s]
    have m3 : lin (lnN (lnC c s) (c 6)) (c 6) 3 = 0 := by unfold lin lnN; rw [up_s]
    match k, hk with
    | 0, _ => rw [m 0 (by decide) (by decide) (by decide), n0]; exact l0.1
    | 1, _ => rw [m 1 (by decide) (by decide) (by decide), n1]; exact l0.2.1
    | 2, _ => rw [m2]; exact l0.2.2.1
    | 3, _ => rw [m3]; exact l0.2.2.2.1
    | 4, _ => rw [m 4 (by decide) (by decide) (by decide), n4]; exact l0.2.2.2.2
theorem VW.some {s h9 st : Nat} {t : List Nat} (h : VW b c (s :: t)) (hn : s ∉ t) (h30 : c 4 ≤ 30) : VW (lnP (bkA b s h9 st) (c 6) h9 st) (bkA (lnP (lnC c s) (c 6) h9 st) s h9 st) t := by
  have hs := h.2.2.2.1 s List.mem_cons_self
  have b6 := h.2.2.2.2.1
  have l0 := h.2.2.2.2.2.2 0 s rfl
  rw [Nat.add_zero] at l0
  have plo : ∀ (a : Nat → Nat) (j : Nat), j < 428 → lnP a (c 6) h9 st j = a j := fun a j hj => by unfold lnP; rw [up_n _ (by omega), up_n _ (by omega)]
  have nC : lnP (lnC c s) (c 6) h9 st 6 = c 6 + 1 := by
    rw [plo _ 6 (by decide)]
    unfold lnC
    rw [up_n _ (by omega), up_n _ (by omega), up_n _ (by omega), up_s]
  have bo : ∀ (a : Nat → Nat) (j : Nat), j ≠ 158 + 9 * s → j ≠ 158 + 9 * s + 3 → j ≠ 158 + 9 * s + 8 → bkA a s h9 st j = a j := fun a j q0 q3 q8 => bkA_o q0 q3 q8
  have k0 : ∀ a : Nat → Nat, shw (bkA a s h9 st) s 0 = h9 := fun a => (up_n _ (by omega)).trans (pts_0 a s h9 st)
  have k3 : ∀ a : Nat → Nat, shw (bkA a s h9 st) s 3 = st := fun a => (up_n _ (by omega)).trans (pts_3 a s h9 st)
  have k8 : ∀ a : Nat → Nat, shw (bkA a s h9 st) s 8 = 0 := fun a => up_s _ _ _
  have pb : ∀ z k, z < 30 → k < 9 → shw (lnP (bkA b s h9 st) (c 6) h9 st) z k = shw (bkA b s h9 st) z k := fun z k hz hk => plo _ _ (by omega)
  have lo : ∀ (a : Nat → Nat) (i k : Nat), lin (bkA a s h9 st) i k = lin a i k := fun a i k => bo a _ (by omega) (by omega) (by omega)
  have lp : ∀ (a : Nat → Nat) (i k : Nat), i ≠ c 6 → k < 5 → lin (lnP a (c 6) h9 st) i k = lin a i k := fun a i k hi hk => by unfold lin lnP; rw [up_n _ (by omega), up_n _ (by omega)]
  have lq : ∀ (a : Nat → Nat) (k : Nat), k ≠ 2 → k ≠ 3 → k < 5 → lin (lnP a (c 6) h9 st) (c 6) k = lin a (c 6) k := fun a k q1 q2 q3 => by unfold lin lnP; rw [up_n _ (by omega), up_n _ (by omega)]
  have l2 : ∀ a : Nat → Nat, lin (lnP a (c 6) h9 st) (c 6) 2 = h9 + 1 := fun a => by unfold lin lnP; rw [up_n _ (by omega), up_s]
  have l3 : ∀ a : Nat → Nat, lin (lnP a (c 6) h9 st) (c 6) 3 = st + 1 := fun a => by unfold lin lnP; rw [up_s]
  refine h.step hn h30 (fun j hj h6 => ?_) (fun k hk => ?_) (fun z k hz hz3 hk => ⟨?_, ?_⟩) ?_ ?_ ?_ (by rw [k8]; decide) (by rw [pb s 8 (by omega) (by decide), k8, k8]) (fun i k hi hk => by rw [lp _ _ _ hi hk, lo]) (fun i k hi hk => by rw [lo, lp _ _ _ (by omega) hk]; exact lnC_old hi hk) (fun k hk => ?_)
  · rw [plo _ j (by omega), bo b j (by omega) (by omega) (by omega), bo _ j (by omega) (by omega) (by omega), plo _ j (by omega), lnC_lo h6 (by omega)]
    exact h.1.1 j hj h6
  · rw [pb s k (by omega) (by omega)]
    by_cases e0 : k = 0
    · subst e0; rw [k0, k0]
    · by_cases e3 : k = 3
      · subst e3; rw [k3, k3]
      · rw [show shw (bkA b s h9 st) s k = shw b s k from bo b _ (by omega) (by omega) (by omega), show shw (bkA (lnP (lnC c s) (c 6) h9 st) s h9 st) s k = shw (lnP (lnC c s) (c 6) h9 st) s k from bo _ _ (by omega) (by omega) (by omega), show shw (lnP (lnC c s) (c 6) h9 st) s k = shw (lnC c s) s k from plo _ _ (by omega), show shw (lnC c s) s k = shw c s k from lnC_lo (by omega) (by omega)]
        exact h.1.2 s k (by omega) hk
  · rw [pb z k hz3 hk]; exact bo b _ (by omega) (by omega) (by omega)
  · exact (bo _ _ (by omega) (by omega) (by omega)).trans ((plo _ _ (by omega)).trans (lnC_lo (by omega) (by omega)))
  · rw [bo _ 4 (by omega) (by omega) (by omega), plo _ 4 (by decide)]; exact lnC_lo (by decide) (by decide)
  · rw [plo _ 6 (by decide)]; exact bo b 6 (by omega) (by omega) (by omega)
  · rw [bo _ 6 (by omega) (by omega) (by omega)]; exact nC
  · obtain ⟨n0, n1, n4⟩ := lnC_line (c := c) (s := s)
    rw [lo]
    match k, hk with
    | 0, _ => rw [lq _ 0 (by decide) (by decide) (by decide), lq _ 0 (by decide) (by decide) (by decide), lo, n0]; exact l0.1
    | 1, _ => rw [lq _ 1 (by decide) (by decide) (by decide), lq _ 1 (by decide) (by decide) (by decide), lo, n1]; exact l0.2.1
    | 2, _ => rw [l2, l2]
    | 3, _ => rw [l3, l3]
    | 4, _ => rw [lq _ 4 (by decide) (by decide) (by decide), lq _ 4 (by decide) (by decide) (by decide), lo, n4]; exact l0.2.2.2.2
end FST
