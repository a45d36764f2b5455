/-! A FAILURE: the reference treats a show that is out -/
section TRT
variable {X Y : Nat → Nat → Int32} {b c : Nat → Nat}
/-- the next line tells of the show s, its place is not known yet -/
def lnC (c : Nat → Nat) (s : Nat) : Nat → Nat := up (up (up (up c 6 (c 6 + 1)) (428 + 5 * c 6) s) (428 + 5 * c 6 + 1) (shw c s 3)) (428 + 5 * c 6 + 4) (shw c s 7)
def lnN (a : Nat → Nat) (i : Nat) : Nat → Nat := up (up a (428 + 5 * i + 2) 0) (428 + 5 * i + 3) 0
theorem lnC_lo {s j : Nat} (h6 : j ≠ 6) (hj : j < 428) : lnC c s j = c j := by
  unfold lnC
  rw [up_n _ (by omega), up_n _ (by omega), up_n _ (by omega), up_n _ h6]
theorem sp_li {i k : Nat} (hi : i < 30) (hk : k < 5) (h : k ≠ 2) (h3 : k ≠ 3) : sp (428 + 5 * i + k) = false := by
  rw [sp_lin hk]
  simp [h, h3]
theorem sp_l2 {i : Nat} (hi : i < 30) : sp (428 + 5 * i + 2) = true ∧ sp (428 + 5 * i + 3) = true := by
  rw [sp_lin (by decide), sp_lin (by decide)]
  simp [hi]
theorem FY.of1 {Y Y' : Nat → Nat → Int32} (h : ∀ r, r ≠ 1 → Y' r = Y r) : FY Y Y' := ⟨fun r hr => h r (by omega), fun k _ _ => by rw [h 0 (by decide)]⟩
theorem m_treats {s x : Nat} (hR : RM (Y 1) c) (hG : Gd c) (hs : s < c 4) (hi : c 6 < 30) (H1 : ∀ Z, RM (Z 1) (lnC c s) → SH0 X Z b (lnC c s) s x) :
    (found (lnC c s) s x = none ∧ ∃ Y', f_X6_treats Y (nI s) = some (nI 1, Y') ∧ RM (Y' 1) (drp (lnN (lnC c s) (c 6)) s) ∧ FY Y Y') ∨
    ∃ h st, found (lnC c s) s x = some (h, nI st) ∧ st < 960 ∧ h < c 1 ∧ hok (lnC c s) s x h st ∧ ∃ Y', f_X6_treats Y (nI s) = some (nI 0, Y') ∧ RM (Y' 1) (bkA (lnP (lnC c s) (c 6) h st) s h st) ∧ FY Y Y' := by
  have c4 := hG.c4
  have c1 := hG.c1
  have hS := hG.2.2.2.2 s hs
  obtain ⟨i, hii⟩ : ∃ i, i = c 6 := ⟨_, rfl⟩
  have e6 : Y 1 (nI 6).toNatClampNeg = nI i := by rw [hii]; exact hR.lo (by decide)
  have cl6 : (nI 6).toNatClampNeg = 6 := by decide
  obtain ⟨Y4, hY4⟩ : ∃ Z, Z = zU (zU (zU (zU Y 1 6 (nI (i + 1))) 1 (428 + 5 * i) (nI s)) 1 (428 + 5 * i + 1) (nI (shw c s 3))) 1 (428 + 5 * i + 4) (nI (shw c s 7)) := ⟨_, rfl⟩
  have r1 : RM ((zU Y 1 6 (nI (i + 1))) 1) (up c 6 (i + 1)) := hR.put (k := 6) (n := i + 1) (en_n (sp_lo (by decide))).symm
  have r2 : RM ((zU (zU Y 1 6 (nI (i + 1))) 1 (428 + 5 * i) (nI s)) 1) (up (up c 6 (i + 1)) (428 + 5 * i) s) := r1.put (k := 428 + 5 * i) (n := s) (en_n (sp_li (i := i) (k := 0) (by omega) (by decide) (by decide) (by decide))).symm
  have r3 := r2.put (k := 428 + 5 * i + 1) (n := shw c s 3) (en_n (sp_li (i := i) (k := 1) (by omega) (by decide) (by decide) (by decide))).symm
  have r4 : RM (Y4 1) (lnC c s) := by
    rw [hY4]
    have := r3.put (k := 428 + 5 * i + 4) (n := shw c s 7) (en_n (sp_li (i := i) (k := 4) (by omega) (by decide) (by decide) (by decide))).symm
    unfold lnC
    rw [← hii]
    exact this
  have s3 : f_X6_showAt (zU (zU Y 1 6 (nI (i + 1))) 1 (428 + 5 * i) (nI s)) (nI s) (nI 3) = some (nI (shw c s 3)) := by
    rw [m_shw r2 (by omega) (by decide)]
    congr 2
    exact (up_n _ (by omega)).trans (up_n _ (by omega))
  have s7 : f_X6_showAt (zU (zU (zU Y 1 6 (nI (i + 1))) 1 (428 + 5 * i) (nI s)) 1 (428 + 5 * i + 1) (nI (shw c s 3))) (nI s) (nI 7) = some (nI (shw c s 7)) := by
    rw [m_shw r3 (by omega) (by decide)]
    congr 2
    exact (up_n _ (by omega)).trans ((up_n _ (by omega)).trans (up_n _ (by omega)))
  have H := H1 Y4 r4
  have hFY4 : FY Y Y4 := by rw [hY4]; exact (((FY.put _ _ _).tr (FY.put _ _ _)).tr (FY.put _ _ _)).tr (FY.put _ _ _)
  obtain ⟨Y5, f1, f2⟩ := m_found H
  have r5 : RM (Y5 1) (lnC c s) := by rw [f1.2]; exact r4
  have i0 : ∀ k, k < 5 → ¬ (nI (428 + 5 * i + k) < 0 ∨ 580 ≤ 428 + 5 * i + k) := fun k hk => by have := nI_ix (n := 428 + 5 * i + k) (by omega); rw [nI_clamp (by omega)] at this; exact this
  have i00 : ¬ (nI (428 + 5 * i) < 0 ∨ 580 ≤ 428 + 5 * i) := by have := nI_ix (n := 428 + 5 * i) (by omega); rw [nI_clamp (by omega)] at this; exact this
  have z01 : ∀ (Z : Nat → Nat → Int32) (k : Nat) (v : Int32) (j : Nat), zU Z 1 k v 0 j = Z 0 j := fun Z k v j => by rw [zU_r _ _ _ _ (by decide)]
  have j0 : ∀ k, k < 9 → ¬ (nI (158 + 9 * s + k) < 0 ∨ 580 ≤ 158 + 9 * s + k) := fun k hk => by have := nI_ix (n := 158 + 9 * s + k) (by omega); rw [nI_clamp (by omega)] at this; exact this
  have n0 : (nI (428 + 5 * i)).toNatClampNeg = 428 + 5 * i := nI_clamp (by omega)
  have nk : ∀ k, k < 5 → (nI (428 + 5 * i + k)).toNatClampNeg = 428 + 5 * i + k := fun k hk => nI_clamp (by omega)
  have mk : ∀ k, k < 9 → (nI (158 + 9 * s + k)).toNatClampNeg = 158 + 9 * s + k := fun k hk => nI_clamp (by omega)
  have e12 := sp_l2 (i := i) (by omega)
  have ef : f_X6_treats Y (nI s) = (f_X6_findsPlace Y4 (nI s)).bind fun q_16 => (if q_16.1 = 0 then ((f_X6_cancels (zU (zU q_16.2 1 (428 + 5 * i + 2) (-1 : Int32)) 1 (428 + 5 * i + 3) (-1 : Int32)) (nI s)).bind fun q_25 => some ((nI 1), q_25.2)) else
      some ((nI 0), zU (zU (zU (zU (zU q_16.2 1 (428 + 5 * i + 2) (q_16.2 0 22)) 1 (428 + 5 * i + 3) (q_16.2 0 23)) 1 (158 + 9 * s + 0) (q_16.2 0 22)) 1 (158 + 9 * s + 3) (q_16.2 0 23)) 1 (158 + 9 * s + 8) (nI 0))) := by
    unfold f_X6_treats
    rw [e6, cl6]
    simp only [zlet_eq, pk_mul, nI_add, i0 1 (by decide), i0 2 (by decide), i0 3 (by decide), i0 4 (by decide), i00, j0 0 (by decide), j0 3 (by decide), j0 8 (by decide), if_false, n0, nk 1 (by decide), nk 2 (by decide), nk 3 (by decide), nk 4 (by decide), mk 0 (by decide), mk 3 (by decide), mk 8 (by decide), s3, s7, Option.bind_some, z01, ← hY4]
  rw [ef, f2]
  cases e : found (lnC c s) s x with
  | none =>
    refine Or.inl ⟨rfl, ?_⟩
    simp only [Option.bind_some]
    rw [if_pos nI_0]
    have r6 : RM ((zU (zU Y5 1 (428 + 5 * i + 2) (-1 : Int32)) 1 (428 + 5 * i + 3) (-1 : Int32)) 1) (lnN (lnC c s) i) := (r5.put (k := 428 + 5 * i + 2) (n := 0) (en_m1 e12.1)).put (k := 428 + 5 * i + 3) (n := 0) (en_m1 e12.2)
    have lo : ∀ j, j < 428 → lnN (lnC c s) i j = lnC c s j := fun j hj => by unfold lnN; rw [up_n _ (by omega), up_n _ (by omega)]
    have g6 : Gd (lnN (lnC c s) i) := H.hG.vw (fun j hj _ _ => lo j (by omega)) (by rw [lo 6 (by decide)]; exact H.hG.c6) (by rw [lo 7 (by decide)]; exact H.hG.1.2.2.2.2.2.2.1) (fun z k hz hk => lo _ (by omega)) (fun z hz => by
      have h4 := H.hG.c4
      rw [show shw (lnN (lnC c s) i) z 8 = shw (lnC c s) z 8 from lo _ (by omega)]
      have := H.hG.2.2.2.2 z hz
      omega)
    obtain ⟨Y6, q1, q2, q3⟩ := m_drop r6 g6 (s := s) (by rw [lo 4 (by decide)]; exact H.hs)
    rw [q1, Option.bind_some]
    refine ⟨Y6, rfl, by rw [← hii]; exact q2, ?_⟩
    exact (hFY4.tr f1.1).tr (((FY.put _ _ _).tr (FY.put _ _ _)).tr (FY.of1 q3))
  | some p =>
    obtain ⟨h, v⟩ := p
    obtain ⟨st, rfl, hst, hh, hk⟩ := srch_ok (lnC c s 12 + 1) 0 e
    have hh1 : h < c 1 := by rw [lnC_lo (by decide) (by decide)] at hh; exact hh
    refine Or.inr ⟨h, st, rfl, hst, hh1, hk, ?_⟩
    simp only [Option.bind_some]
    rw [if_neg nI_10]
    have a22 : zU (zU Y5 0 22 (nI h)) 0 23 (nI st) 0 22 = nI h := by rw [zU_k _ _ _ _ (by decide), zU_s]
    have a23 : zU (zU Y5 0 22 (nI h)) 0 23 (nI st) 0 23 = nI st := zU_s _ _ _ _
    rw [a22, a23]
    have r6 : RM (zU (zU Y5 0 22 (nI h)) 0 23 (nI st) 1) (lnC c s) := by rw [zU_r _ _ _ _ (by decide), zU_r _ _ _ _ (by decide)]; exact r5
    have r7 := ((((r6.put (k := 428 + 5 * i + 2) (n := h + 1) (en_d e12.1)).put (k := 428 + 5 * i + 3) (n := st + 1) (en_d e12.2)).put (k := 158 + 9 * s + 0) (n := h) (en_n (sp_mid (by omega) (by omega))).symm).put (k := 158 + 9 * s + 3) (n := st) (en_n (sp_mid (by omega) (by omega))).symm).put (k := 158 + 9 * s + 8) (n := 0) (en_n (sp_mid (by omega) (by omega))).symm
    refine ⟨_, rfl, ?_, ?_⟩
    · rw [← hii]; exact r7
    · refine (hFY4.tr f1.1).tr (FY.tr (Y := zU (zU Y5 0 22 (nI h)) 0 23 (nI st)) ⟨fun r hr => ?_, fun k _ hk => ?_⟩ (((((FY.put _ _ _).tr (FY.put _ _ _)).tr (FY.put _ _ _)).tr (FY.put _ _ _)).tr (FY.put _ _ _)))
      · rw [zU_r _ _ _ _ (by omega), zU_r _ _ _ _ (by omega)]
      · rw [zU_k _ _ _ _ (by omega), zU_k _ _ _ _ (by omega)]
end TRT
