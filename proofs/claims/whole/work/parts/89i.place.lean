/-! A FAILURE: the class puts a show back -/
section PLC
variable {X X2 Y Y2 : Nat → Nat → Int32} {b c : Nat → Nat}
theorem fndV_ok {s x : Nat} {v : Int32} {h : Nat} (e : fndV c s x v = some h) : ∃ st, v = nI st ∧ st < 960 ∧ h < c 1 ∧ hok c s x h st := by
  unfold fndV at e
  rcases minute_cases v with ⟨q, -⟩ | ⟨q, -, st, hst, rfl⟩
  · rw [if_pos (by rw [q]; rfl)] at e
    cases e
  · rw [q, if_neg nI_10, nI_clamp (by omega)] at e
    obtain ⟨p1, p2⟩ := fndH_lt (c 1) 0 (Nat.zero_add _) h e
    exact ⟨st, rfl, hst, p1, p2⟩
theorem srch_ok {s x : Nat} {h : Nat} {v : Int32} : ∀ (n d : Nat), srch c s x d n = some (h, v) → ∃ st, v = nI st ∧ st < 960 ∧ h < c 1 ∧ hok c s x h st
  | 0, d, e => by cases e
  | n + 1, d, e => by
    rw [srch] at e
    cases e1 : fndV c s x (nI (shw c s 3) - nI d) with
    | some z =>
      rw [e1] at e
      obtain ⟨rfl, rfl⟩ := Prod.mk.inj (Option.some.inj e)
      exact fndV_ok e1
    | none =>
      rw [e1] at e
      cases e2 : fndV c s x (nI (shw c s 3) + nI d) with
      | some z =>
        rw [e2] at e
        obtain ⟨rfl, rfl⟩ := Prod.mk.inj (Option.some.inj e)
        exact fndV_ok e2
      | none =>
        rw [e2] at e
        exact srch_ok n (d + 1) e
/-- the show s stands again, in the hall h at st, as the line i tells -/
def bkA (b : Nat → Nat) (s h st : Nat) : Nat → Nat := up (pts b s h st) (158 + 9 * s + 8) 0
def lnP (b : Nat → Nat) (i h st : Nat) : Nat → Nat := up (up b (428 + 5 * i + 2) (h + 1)) (428 + 5 * i + 3) (st + 1)
theorem bkA_o {s h st j : Nat} (h0 : j ≠ 158 + 9 * s) (h3 : j ≠ 158 + 9 * s + 3) (h8 : j ≠ 158 + 9 * s + 8) : bkA b s h st j = b j := by
  unfold bkA
  rw [up_n _ h8, pts_o _ _ _ _ h0 h3]
theorem n_bkA (hB : zRB X 1 b) (hG : Gd2 b) {s h st : Nat} (hs : s < b 4) (hh : h < b 1) (hst : st < 960) (hen : st + mins b s ≤ 960) (h8 : shw b s 8 = 1)
    (ds : ∀ t, t < b 4 → t ≠ s → shw b t 8 = 0 → h = shw b t 0 → shw b s 2 = shw b t 2 → st ≠ shw b t 3) :
    ∃ X', f_X4_put (f_X3_putShow X (nI s) (nI h) (nI st)) 8 360 (nI s) (nI 8) (nI 0) = X' ∧ zRB X' 1 (bkA b s h st) ∧ Gd2 (bkA b s h st) ∧ ∀ r, r ≠ 9 → X' r = X r := by
  obtain ⟨Z, e1, q1, q2, q3⟩ := n_putShow hB hG hs hh hst hen (fun q => by omega)
  rw [e1]
  refine ⟨_, rfl, ?_⟩
  obtain ⟨bH, bF, bT, bS, bL, bC, b1, b0⟩ := zRB_iff.mp q1
  have h4 := hG.1.c4
  have e4 : pts b s h st 4 = b 4 := pts_o _ _ _ _ (by omega) (by omega)
  have hs' : s < pts b s h st 4 := by rw [e4]; exact hs
  have pS := bS.2 s hs'
  have gS := q2.1.2.2.2.2 s hs'
  have c2 := q2.1.c2
  rw [n_put bS.1.1 (by decide) (show s * 12 + 8 < 360 by omega)]
  have x9 : ∀ j, j ≠ s * 12 + 8 → zU Z 9 (s * 12 + 8) (nI 0) 9 j = Z 9 j := fun j q => zU_k _ _ _ _ q
  have to : ∀ j, j ≠ 158 + 9 * s + 8 → bkA b s h st j = pts b s h st j := fun j q => up_n _ q
  have t8 : shw (bkA b s h st) s 8 = 0 := up_s _ _ _
  have tk : ∀ k, k < 8 → shw (bkA b s h st) s k = shw (pts b s h st) s k := fun k hk => to _ (by omega)
  have eE : endA (bkA b s h st) s = endA (pts b s h st) s := by
    unfold endA mins
    rw [tk 3 (by decide), tk 5 (by decide), tk 1 (by decide), show flm (bkA b s h st) (shw (pts b s h st) s 1) 0 = flm (pts b s h st) (shw (pts b s h st) s 1) 0 from to _ (by omega)]
  have res := fr_S1 (X' := zU Z 9 (s * 12 + 8) (nI 0)) (a' := bkA b s h st) q1 q2 hs' ?_ ?_ ?_ ?_ ?_ (fun r p1 p2 => zU_r _ _ _ _ p2) (fun j hj => x9 j (by omega)) (fun j p1 p2 => to j (by omega))
  · exact ⟨res.1, res.2, fun r p1 => by rw [zU_r _ _ _ _ p1]; exact q3 r p1⟩
  · obtain ⟨p0, p1, p2, p3, p4, p5, p6⟩ := pS
    refine ⟨fun k hk => by rw [tk k (by omega), x9 _ (by omega)]; exact p0 k hk, ?_, ?_, ?_, ?_, ?_, ?_⟩
    · rw [eE, x9 _ (by omega)]; exact p1
    · rw [tk 7 (by decide), x9 _ (by omega)]; exact p2
    · rw [tk 4 (by decide), x9 _ (by omega)]; exact p3
    · rw [tk 6 (by decide), x9 _ (by omega)]; exact p4
    · show zU Z 9 (s * 12 + 8) (nI 0) 9 (s * 12 + 8) = _
      rw [zU_s, t8]; rfl
    · rw [tk 5 (by decide), x9 _ (by omega)]; exact p6
  · exact b1.cg (zU_r _ _ _ _ (by decide)) (to 0 (by omega)) (to 5 (by omega))
  · unfold GdSr
    rw [tk 0 (by decide), tk 1 (by decide), tk 2 (by decide), tk 3 (by decide), tk 4 (by decide), tk 5 (by decide), tk 6 (by decide), tk 7 (by decide), t8, eE, to 1 (by omega), to 2 (by omega), show flm (bkA b s h st) (shw (pts b s h st) s 1) 4 = flm (pts b s h st) (shw (pts b s h st) s 1) 4 from to _ (by omega)]
    obtain ⟨g0, g1, g2, g3, g4, g5, g6, g7, g8, g9, g10, g11⟩ := gS
    exact ⟨g0, g1, g2, g3, g4, g5, g6, g7, g8, g9, by decide, g11⟩
  · rw [t8]; exact Nat.zero_le _
  · intro _ t ht hts ht8 ht0 ht2
    rw [e4] at ht
    have o : ∀ k, k < 9 → shw (pts b s h st) t k = shw b t k := fun k hk => pts_o _ _ _ _ (by omega) (by omega)
    rw [o 8 (by decide)] at ht8
    rw [tk 0 (by decide), pts_0, o 0 (by decide)] at ht0
    rw [tk 2 (by decide), show shw (pts b s h st) s 2 = shw b s 2 from pts_o _ _ _ _ (by omega) (by omega), o 2 (by decide)] at ht2
    rw [tk 3 (by decide), pts_3, o 3 (by decide)]
    exact ds t ht hts ht8 ht0 ht2
theorem n_lnP (hB : zRB X 1 b) (hG : Gd2 b) {i h st : Nat} (hi : i < b 6) (hh : h < 6) (hst : st < 960) (h7 : b 7 = 1) :
    ∃ X', f_X4_put (f_X4_put X 10 150 (nI i) (nI 2) (nI h)) 10 150 (nI i) (nI 3) (nI st) = X' ∧ zRB X' 1 (lnP b i h st) ∧ Gd2 (lnP b i h st) ∧ ∀ r, r ≠ 11 → X' r = X r := by
  obtain ⟨bH, bF, bT, bS, bL, bC, b1, b0⟩ := zRB_iff.mp hB
  have g6 := hG.1.c6
  rw [n_put bL.1.1 (by decide) (show i * 5 + 2 < 150 by omega), n_put (by rw [zU_r _ _ _ _ (by decide)]; exact bL.1.1) (by decide) (show i * 5 + 3 < 150 by omega)]
  refine ⟨_, rfl, ?_⟩
  have xr : ∀ r, r ≠ 11 → zU (zU X 11 (i * 5 + 2) (nI h)) 11 (i * 5 + 3) (nI st) r = X r := fun r q => by rw [zU_r _ _ _ _ q, zU_r _ _ _ _ q]
  have to : ∀ j, j < 428 → lnP b i h st j = b j := fun j q => by unfold lnP; rw [up_n _ (by omega), up_n _ (by omega)]
  have h6 : lnP b i h st 6 = b 6 := to 6 (by decide)
  have h77 : lnP b i h st 7 = b 7 := to 7 (by decide)
  have bL' : PL (zU (zU X 11 (i * 5 + 2) (nI h)) 11 (i * 5 + 3) (nI st)) (lnP b i h st) := by
    refine ⟨⟨?_, ?_, ?_⟩, fun z hz => ?_⟩
    · rw [xr 10 (by decide)]; exact bL.1.1
    · rw [xr 10 (by decide)]; exact bL.1.2.1
    · rw [xr 10 (by decide), h6]; exact bL.1.2.2
    · rw [h6] at hz
      have p := bL.2 z hz
      by_cases e : z = i
      · subst e
        have l2 : lin (lnP b z h st) z 2 = h + 1 := by unfold lin lnP; rw [up_n _ (by omega), up_s]
        have l3 : lin (lnP b z h st) z 3 = st + 1 := by unfold lin lnP; rw [up_s]
        have lo : ∀ k, k ≠ 2 → k ≠ 3 → k < 5 → lin (lnP b z h st) z k = lin b z k := fun k q1 q2 q3 => by unfold lin lnP; rw [up_n _ (by omega), up_n _ (by omega)]
        rw [l2, l3, lo 0 (by decide) (by decide) (by decide), lo 1 (by decide) (by decide) (by decide), lo 4 (by decide) (by decide) (by decide)]
        refine ⟨?_, ?_, ?_, ?_, ?_⟩
        · rw [zU_k _ _ _ _ (by omega), zU_k _ _ _ _ (by omega)]; exact p.1
        · rw [zU_k _ _ _ _ (by omega), zU_k _ _ _ _ (by omega)]; exact p.2.1
        · rw [zU_k _ _ _ _ (by omega), zU_s]
          show nI h = nI (h + 1) - nI 1
          rw [pk_sub (by omega), Nat.add_sub_cancel]
        · rw [zU_s]
          show nI st = nI (st + 1) - nI 1
          rw [pk_sub (by omega), Nat.add_sub_cancel]
        · rw [zU_k _ _ _ _ (by omega), zU_k _ _ _ _ (by omega)]; exact p.2.2.2.2
      · have lo : ∀ k, k < 5 → lin (lnP b i h st) z k = lin b z k := fun k q3 => by unfold lin lnP; rw [up_n _ (by omega), up_n _ (by omega)]
        have xo : ∀ k, k < 5 → zU (zU X 11 (i * 5 + 2) (nI h)) 11 (i * 5 + 3) (nI st) 11 (z * 5 + k) = X 11 (z * 5 + k) := fun k hk => by rw [zU_k _ _ _ _ (by omega), zU_k _ _ _ _ (by omega)]
        rw [lo 0 (by decide), lo 1 (by decide), lo 2 (by decide), lo 3 (by decide), lo 4 (by decide), xo 0 (by decide), xo 1 (by decide), xo 2 (by decide), xo 3 (by decide), xo 4 (by decide)]
        exact p
  have res := fr_L (X' := zU (zU X 11 (i * 5 + 2) (nI h)) 11 (i * 5 + 3) (nI st)) (a' := lnP b i h st) hB hG bL' (by rw [h6]; exact g6) (by rw [h77, h7]; exact Nat.le_refl _) (fun q => by rw [h77, h7] at q; omega) (fun r q1 q2 => xr r q2) (fun j q1 q2 q3 => to j q3)
  exact ⟨res.1, res.2, xr⟩
/-- the line i of b tells of the show s -/
def lnOf (b c : Nat → Nat) (i s : Nat) : Prop := i < b 6 ∧ lin b i 0 = s ∧ lin b i 1 = shw c s 3 ∧ lin b i 4 = shw c s 7
theorem n_again {s x i : Nat} (H : SH0 X Y b c s x) (hG2 : Gd2 b) (hO : oCon X) (hL : lnOf b c i s) (h7 : b 7 = 1) (h8 : shw b s 8 = 1) :
    (found c s x = none ∧ ∃ X', f_X5_isPlacedAgain X (nI i) (nI x) = some (nI 0, X') ∧ oCon X' ∧ ∀ r, r ≠ 146 → r ≠ 147 → r ≠ 148 → X' r = X r) ∨
    (∃ h st X', found c s x = some (h, nI st) ∧ st < 960 ∧ h < c 1 ∧ hok c s x h st ∧ f_X5_isPlacedAgain X (nI i) (nI x) = some (nI 1, X') ∧ zRB X' 1 (lnP (bkA b s h st) i h st) ∧ Gd2 (lnP (bkA b s h st) i h st) ∧ oCon X' ∧ ∀ r, r ≠ 9 → r ≠ 11 → r ≠ 146 → r ≠ 147 → r ≠ 148 → X' r = X r) := by
  obtain ⟨l6, l0, l1, l4⟩ := hL
  have hB := H.hB
  have hGb := H.hGb
  have hG := H.hG
  have hs := H.hs
  have hV := H.hV
  have hS := hG.2.2.2.2 s hs
  have c4 := hG.c4
  have c2 := hG.c2
  have c1 := hG.c1
  have e4 : b 4 = c 4 := hV.1.lo (by decide) (by decide)
  have e1 : b 1 = c 1 := hV.1.lo (by decide) (by decide)
  have g6 := hGb.c6
  have hsb : s < b 4 := by omega
  have sb : ∀ k, k < 8 → shw b s k = shw c s k := fun k hk => hV.1.2 s k (by omega) hk
  obtain ⟨bH, bF, bT, bS, bL, bC, b1, b0⟩ := zRB_iff.mp hB
  have pL := bL.2 i l6
  have gl : ∀ (Z : Nat → Nat → Int32) (k : Nat), Z 10 = X 10 → Z 11 = X 11 → k < 5 → f_X4_get Z 10 150 (nI i) (nI k) = X 11 (i * 5 + k) := fun Z k q1 q2 hk => by
    rw [c_get_in (c := 5) (by rw [q1]; exact bL.1.1) (by decide) (show i * 5 + k < 150 by omega), q2]
  have g0 : f_X4_get X 10 150 (nI i) (nI 0) = nI s := by rw [gl X 0 rfl rfl (by decide), pL.1, l0]
  have g1 : f_X4_get X 10 150 (nI i) (nI 1) = nI (shw c s 3) := by rw [gl X 1 rfl rfl (by decide), pL.2.1, l1]
  have g4 : f_X4_get X 10 150 (nI i) (nI 4) = nI (shw c s 7) := by rw [gl X 4 rfl rfl (by decide), pL.2.2.2.2, l4]
  have hmb : mins b s = mins c s := hV.1.mi (by omega) (by omega)
  obtain ⟨X1, t1, t2, t3⟩ := n_takeUp hB hGb hO (nI s) (f := shw c s 1) (d := shw c s 2) (by omega) (by omega)
  have ef : f_X5_isPlacedAgain X (nI i) (nI x) = f_X5_isPlacedAgain_L100 (fun X_2020 v10_2018 v11_2019 => (zlet (f_X5_putBack X_2020 (nI i) v11_2019 v10_2018) fun X_2021 => some ((nI 1), X_2021))) (nI i) (nI x) (nI (shw c s 3)) (nI (shw c s 7)) (nI (mins c s)) (nI (c 12)) zFuel X1 (nI 0) := by
    unfold f_X5_isPlacedAgain f_X3_settingOf
    rw [g0, g1, g4, n_shw hB hGb hsb (by decide), n_shw hB hGb hsb (by decide), sb 1 (by decide), sb 2 (by decide), t1, Option.bind_some, n_minutesOf hB hGb hsb, hmb, n_set hB (k := 4) (by decide), show b (8 + 4) = c 12 from hV.1.lo (by decide) (by decide)]
  rw [ef]
  obtain ⟨X3, r1, r2⟩ := n_found (X2 := X1) H (fun X_2020 v10_2018 v11_2019 => (zlet (f_X5_putBack X_2020 (nI i) v11_2019 v10_2018) fun X_2021 => some ((nI 1), X_2021))) (nI i) ⟨t2, t3⟩
  rw [r2]
  cases e : found c s x with
  | none => exact Or.inl ⟨rfl, X3, rfl, r1.2.1, r1.1⟩
  | some p =>
    obtain ⟨h, v⟩ := p
    obtain ⟨st, rfl, hst, hh, hk⟩ := srch_ok (c 12 + 1) 0 e
    have hbk : (brk b (nI s) (shw c s 1) (shw c s 2) h st (st + mins c s)).1 = 0 := by rw [hV.bk hG hh hS.2.1 hst]; exact hk.2.2
    have hm : 0 < mins c s := by
      have hF := hG.2.2.1 _ hS.2.1
      unfold mins
      omega
    have hB3 : zRB X3 1 b := hB.x (fun r hr => r1.1 r (by omega) (by omega) (by omega))
    obtain ⟨X4, p1, p2, p3, p4⟩ := n_bkA hB3 hG2 hsb (by omega : h < b 1) hst (by rw [hmb]; exact (brk_zero hbk).2.1) h8 (fun t ht hts ht8 h0 h2 => fun q => by
      refine brk_ds hbk (by omega) hGb ht (fun q9 => hts ((nI_eq (by omega) (by omega)).mp q9)) ht8 (by rw [← h2]; exact sb 2 (by decide)) h0.symm ?_
      exact q.symm)
    have lo : ∀ i k, lin (bkA b s h st) i k = lin b i k := fun i k => bkA_o (by omega) (by omega) (by omega)
    obtain ⟨X5, u1, u2, u3, u4⟩ := n_lnP p2 p3 (i := i) (h := h) (st := st) (by rw [bkA_o (by omega) (by omega) (by omega)]; exact l6) (by omega) hst (by rw [bkA_o (by omega) (by omega) (by omega)]; exact h7)
    have x10 : X4 10 = X 10 := (p4 10 (by decide)).trans (r1.1 10 (by decide) (by decide) (by decide))
    have ePB : f_X5_putBack X3 (nI i) (nI h) (nI st) = X5 := by
      unfold f_X5_putBack
      simp only [zlet_eq]
      have q0 : f_X4_get X3 10 150 (nI i) (nI 0) = nI s := by rw [gl X3 0 (r1.1 10 (by decide) (by decide) (by decide)) (r1.1 11 (by decide) (by decide) (by decide)) (by decide), pL.1, l0]
      rw [q0]
      rw [p1, u1]
    refine Or.inr ⟨h, st, X5, rfl, hst, hh, hk, ?_, u2, u3, ?_, fun r q1 q2 q3 q4 q5 => (u4 r q2).trans ((p4 r q1).trans (r1.1 r q3 q4 q5))⟩
    · simp only [zlet_eq]
      rw [ePB]
    · exact r1.2.1.fr ((u4 147 (by decide)).trans (p4 147 (by decide)))
end PLC
