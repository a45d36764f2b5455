/-! A FAILURE: the reference marks the shows that are out -/
theorem Gd.vw {a c : Nat → Nat} (hG : Gd a) (lo : ∀ j, j < 158 → j ≠ 6 → j ≠ 7 → c j = a j) (c6 : c 6 ≤ 30) (c7 : c 7 ≤ 1) (sh : ∀ s k, s < 30 → k < 8 → shw c s k = shw a s k) (h8 : ∀ s, s < a 4 → shw c s 8 ≤ 2) : Gd c := by
  have k4 := hG.c4
  have k2 := hG.c2
  obtain ⟨gC, gH, gF, gT, gS⟩ := id hG
  have e0 := lo 0 (by decide) (by decide) (by decide)
  have e1 := lo 1 (by decide) (by decide) (by decide)
  have e2 := lo 2 (by decide) (by decide) (by decide)
  have e3 := lo 3 (by decide) (by decide) (by decide)
  have e4 := lo 4 (by decide) (by decide) (by decide)
  refine ⟨?_, GdH.cg hG e1 (fun j q1 q2 => lo j (by omega) (by omega) (by omega)), GdF.cg hG e2 (fun j q1 q2 => lo j (by omega) (by omega) (by omega)), GdT.cg hG e3 (by omega) (fun j q1 q2 => lo j (by omega) (by omega) (by omega)), ?_⟩
  · unfold GdC at gC ⊢
    obtain ⟨q0, q1, q2, q3, q4, q6, q7, q8, q9, q10, q11, q12, q13, q14⟩ := gC
    rw [e0, e1, e2, e3, e4, lo 8 (by decide) (by decide) (by decide), lo 9 (by decide) (by decide) (by decide), lo 10 (by decide) (by decide) (by decide), lo 11 (by decide) (by decide) (by decide), lo 12 (by decide) (by decide) (by decide), lo 13 (by decide) (by decide) (by decide)]
    exact ⟨q0, q1, q2, q3, q4, c6, c7, q8, q9, q10, q11, q12, q13, fun h hh => by rw [lo (14 + h) (by omega) (by omega) (by omega)]; exact q14 h hh⟩
  · intro s hs
    rw [e4] at hs
    have hS := gS s hs
    have hF : ∀ k, k < 8 → flm c (shw a s 1) k = flm a (shw a s 1) k := fun k hk => flm_cg (by omega) hk (fun j q1 q2 => lo j (by omega) (by omega) (by omega))
    have hE : endA c s = endA a s := by
      unfold endA mins
      rw [sh s 3 (by omega) (by decide), sh s 5 (by omega) (by decide), sh s 1 (by omega) (by decide), hF 0 (by decide)]
    rw [sh s 0 (by omega) (by decide), sh s 1 (by omega) (by decide), sh s 2 (by omega) (by decide), sh s 3 (by omega) (by decide), sh s 4 (by omega) (by decide), sh s 5 (by omega) (by decide), sh s 6 (by omega) (by decide), sh s 7 (by omega) (by decide), hF 4 (by decide), hE, e1, e2]
    obtain ⟨q0, q1, q2, q3, q4, q5, q6, q7, q8, q9, q10, q11⟩ := hS
    exact ⟨q0, q1, q2, q3, q4, q5, q6, q7, q8, q9, h8 s hs, q11⟩
/-- a show that a failure takes out -/
def outP (a : Nat → Nat) (x d s : Nat) : Prop := shw a s 8 = 0 ∧ shw a s 0 = x ∧ d ≤ shw a s 2
def MK (a c : Nat → Nat) (x d N : Nat) : Prop := (∀ j, (∀ s, s < N → j ≠ 158 + 9 * s + 8) → c j = a j) ∧ ∀ s, s < N → (outP a x d s → shw c s 8 = 2) ∧ (¬ outP a x d s → shw c s 8 = shw a s 8)
section MRK
variable {Y : Nat → Nat → Int32} {a c : Nat → Nat}
theorem MK.lo {x d N : Nat} (h : MK a c x d N) {j : Nat} (hj : j < 158) : c j = a j := h.1 j (fun s _ => by omega)
theorem MK.sh {x d N : Nat} (h : MK a c x d N) {s k : Nat} (hk : k < 8) : shw c s k = shw a s k := h.1 _ (fun s _ => by omega)
theorem MK.ge {x d N : Nat} (h : MK a c x d N) {s k : Nat} (hs : N ≤ s) (hk : k < 9) : shw c s k = shw a s k := h.1 _ (fun s _ => by omega)
theorem MK.gd {x d N : Nat} (h : MK a c x d N) (hG : Gd a) : Gd c := by
  have c6 := hG.c6
  refine hG.vw (fun j hj _ _ => h.lo hj) (by rw [h.lo (by decide)]; exact c6) (by rw [h.lo (by decide)]; exact hG.1.2.2.2.2.2.2.1) (fun s k _ hk => h.sh hk) (fun s hs => ?_)
  have hS := hG.2.2.2.2 s hs
  by_cases hN : s < N
  · by_cases o : outP a x d s
    · rw [(h.2 s hN).1 o]; exact Nat.le_refl _
    · rw [(h.2 s hN).2 o]; omega
  · rw [h.ge (by omega) (by decide)]; omega
theorem MK.no {x d N : Nat} (h : MK a c x d N) (o : ¬ outP a x d N) : MK a c x d (N + 1) := by
  refine ⟨fun j hj => h.1 j (fun s hs => hj s (by omega)), fun s hs => ?_⟩
  by_cases e : s = N
  · subst e
    exact ⟨fun q => absurd q o, fun _ => h.ge (Nat.le_refl _) (by decide)⟩
  · exact h.2 s (by omega)
theorem MK.yes {x d N : Nat} (h : MK a c x d N) (o : outP a x d N) : MK a (up c (158 + 9 * N + 8) 2) x d (N + 1) := by
  refine ⟨fun j hj => ?_, fun s hs => ?_⟩
  · rw [up_n _ (hj N (by omega))]
    exact h.1 j (fun s hs => hj s (by omega))
  · by_cases e : s = N
    · subst e
      exact ⟨fun _ => up_s _ _ _, fun q => absurd o q⟩
    · have e2 : shw (up c (158 + 9 * N + 8) 2) s 8 = shw c s 8 := up_n _ (by omega)
      rw [e2]
      exact h.2 s (by omega)
theorem m_mark (hG : Gd a) {x d : Nat} (hx : x < 6) (hd : d < 60) (k : (Nat → Nat → Int32) → Option (Int32 × (Nat → Nat → Int32))) : ∀ (n s fu : Nat) (Y : Nat → Nat → Int32) (c : Nat → Nat), s + n = a 4 → n < fu → RM (Y 1) c → MK a c x d s → ∃ Y' c', f_X6_fail_L89 k (nI x) (nI d) fu Y (nI s) = k Y' ∧ RM (Y' 1) c' ∧ MK a c' x d (a 4) ∧ FY Y Y' := by
  have h4 := hG.c4
  intro n
  induction n with
  | zero =>
    intro s fu Y c hs hf hR hM
    obtain ⟨f, rfl, -⟩ := fu_s hf
    have e : s = a 4 := by omega
    subst e
    have e4 : c 4 = a 4 := hM.lo (by decide)
    rw [f_X6_fail_L89, m_nS hR, e4, if_pos (nI_le (Nat.le_refl _) (by omega))]
    exact ⟨Y, c, rfl, hR, hM, FY.rf Y⟩
  | succ n ih =>
    intro s fu Y c hs hf hR hM
    obtain ⟨f, rfl, hf2⟩ := fu_s hf
    have hf2 := hf2 n rfl
    have hx4 : s < a 4 := by omega
    have e4 : c 4 = a 4 := hM.lo (by decide)
    have gc := hM.gd hG
    have hS := hG.2.2.2.2 s hx4
    have s0 : shw c s 0 = shw a s 0 := hM.sh (by decide)
    have s2 : shw c s 2 = shw a s 2 := hM.sh (by decide)
    have s8 : shw c s 8 = shw a s 8 := hM.ge (Nat.le_refl _) (by decide)
    have g1 := hG.c1
    have e1 : nI s + 1 = nI (s + 1) := nI_1 s
    rw [f_X6_fail_L89, m_nS hR, e4, if_neg (nI_ge hx4 (by omega)), m_stands hR gc (by omega), s8, Option.bind_some, e1]
    by_cases o8 : shw a s 8 = 0
    · rw [if_pos o8, if_neg (by decide), m_shw hR (by omega) (by decide), s0, Option.bind_some]
      by_cases o0 : shw a s 0 = x
      · rw [if_pos (show nI (shw a s 0) = nI x by rw [o0]), m_shw hR (by omega) (by decide), s2, Option.bind_some]
        by_cases o2 : d ≤ shw a s 2
        · rw [if_neg (fun q => by rw [nI_ltI (by omega) (by omega)] at q; omega), pk_mul, nI_add, nI_add, if_neg (nI_ix (by omega)), nI_clamp (by omega)]
          simp only [zlet_eq]
          obtain ⟨Y', c', r1, r2, r3, r4⟩ := ih (s + 1) f _ _ (by omega) hf2 (hR.put (k := 158 + 9 * s + 8) (n := 2) (en_n (sp_mid (by omega) (by omega))).symm) (hM.yes ⟨o8, o0, o2⟩)
          exact ⟨Y', c', r1, r2, r3, (FY.put Y _ _).tr r4⟩
        · rw [if_pos ((nI_ltI (by omega) (by omega)).mpr (by omega))]
          exact ih (s + 1) f Y c (by omega) hf2 hR (hM.no (fun q => o2 q.2.2))
      · rw [if_neg (fun q => o0 ((nI_eq (by omega) (by omega)).mp q))]
        exact ih (s + 1) f Y c (by omega) hf2 hR (hM.no (fun q => o0 q.2.1))
    · rw [if_neg o8, if_pos nI_0]
      exact ih (s + 1) f Y c (by omega) hf2 hR (hM.no (fun q => o8 q.1))
end MRK
