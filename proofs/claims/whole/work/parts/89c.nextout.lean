/-! A FAILURE: the reference's next show that is out -/
abbrev ltK (a : Nat → Nat) (s z : Nat) : Prop := shw a s 2 < shw a z 2 ∨ (shw a s 2 = shw a z 2 ∧ shw a s 3 < shw a z 3)
def nuS (a : Nat → Nat) (s : Nat) (o : Option Nat) : Option Nat := if shw a s 8 = 2 then (match o with
  | none => some s
  | some z => if ltK a s z then some s else some z) else o
def nut (a : Nat → Nat) : Nat → Nat → Option Nat → Option Nat
  | _, 0, o => o
  | s, n + 1, o => nut a (s + 1) n (nuS a s o)
section NXO
variable {Y : Nat → Nat → Int32} {c : Nat → Nat}
theorem nuS_lt {s N : Nat} {o : Option Nat} (hs : s < N) (ho : ∀ z, o = some z → z < N) : ∀ z, nuS c s o = some z → z < N := by
  intro z hz
  unfold nuS at hz
  split at hz
  · cases o with
    | none => cases hz; exact hs
    | some y =>
      dsimp only at hz
      split at hz
      · cases hz; exact hs
      · exact ho z hz
  · exact ho z hz
theorem m_nextOut_L (hR : RM (Y 1) c) (hG : Gd c) : ∀ (n s fu : Nat) (o : Option Nat), s + n = c 4 → n < fu → (∀ z, o = some z → z < c 4) → f_X6_nextOut_L4 Y fu (enO o) (nI s) = some (enO (nut c s n o)) := by
  have h4 := hG.c4
  intro n
  induction n with
  | zero =>
    intro s fu o hs hf ho
    obtain ⟨f, rfl, -⟩ := fu_s hf
    rw [f_X6_nextOut_L4, m_nS hR, if_pos (nI_le (by omega) (by omega))]
    rfl
  | succ n ih =>
    intro s fu o hs hf ho
    obtain ⟨f, rfl, hf2⟩ := fu_s hf
    have hf2 := hf2 n rfl
    have hx : s < c 4 := by omega
    have hS := hG.2.2.2.2 s hx
    have next := ih (s + 1) f (nuS c s o) (by omega) hf2 (nuS_lt hx ho)
    have e1 : nI s + 1 = nI (s + 1) := nI_1 s
    rw [f_X6_nextOut_L4, m_nS hR, if_neg (nI_ge hx (by omega)), m_shw hR (by omega) (by decide), Option.bind_some, e1, nut]
    by_cases h8 : shw c s 8 = 2
    · rw [if_pos (show nI (shw c s 8) = nI 2 by rw [h8])]
      cases o with
      | none =>
        have en : nuS c s none = some s := by unfold nuS; rw [if_pos h8]
        rw [en] at next ⊢
        rw [if_pos (show enO none = (-1 : Int32) from rfl)]
        exact next
      | some z =>
        have hz := ho z rfl
        have hZ := hG.2.2.2.2 z hz
        have ez : enO (some z) = nI z := rfl
        have hs2 : f_X6_showAt Y (nI s) (nI 2) = some (nI (shw c s 2)) := m_shw hR (by omega) (by decide)
        have hz2 : f_X6_showAt Y (nI z) (nI 2) = some (nI (shw c z 2)) := m_shw hR (by omega) (by decide)
        have hs3 : f_X6_showAt Y (nI s) (nI 3) = some (nI (shw c s 3)) := m_shw hR (by omega) (by decide)
        have hz3 : f_X6_showAt Y (nI z) (nI 3) = some (nI (shw c z 3)) := m_shw hR (by omega) (by decide)
        rw [ez, if_neg (show ¬ nI z = (-1 : Int32) from z_m1 (by omega))]
        simp only [hs2, hz2, hs3, hz3, Option.bind_some]
        by_cases d1 : shw c s 2 < shw c z 2
        · have en : nuS c s (some z) = some s := by unfold nuS; rw [if_pos h8]; exact if_pos (Or.inl d1)
          rw [en] at next ⊢
          rw [if_pos ((nI_ltI (by omega) (by omega)).mpr d1)]
          exact next
        · rw [if_neg (fun q => d1 ((nI_ltI (by omega) (by omega)).mp q))]
          by_cases d2 : shw c s 2 = shw c z 2
          · rw [if_pos (show nI (shw c s 2) = nI (shw c z 2) by rw [d2])]
            by_cases d3 : shw c s 3 < shw c z 3
            · have en : nuS c s (some z) = some s := by unfold nuS; rw [if_pos h8]; exact if_pos (Or.inr ⟨d2, d3⟩)
              rw [en] at next ⊢
              rw [if_neg (fun q => by rw [nI_leI (by omega) (by omega)] at q; omega)]
              exact next
            · have en : nuS c s (some z) = some z := by unfold nuS; rw [if_pos h8]; exact if_neg (fun q => by rcases q with q | q <;> omega)
              rw [en] at next ⊢
              rw [if_pos ((nI_leI (by omega) (by omega)).mpr (by omega))]
              exact next
          · have en : nuS c s (some z) = some z := by unfold nuS; rw [if_pos h8]; exact if_neg (fun q => by rcases q with q | q <;> omega)
            rw [en] at next ⊢
            rw [if_neg (fun q => d2 ((nI_eq (by omega) (by omega)).mp q))]
            exact next
    · have en : nuS c s o = o := by unfold nuS; rw [if_neg h8]
      rw [en] at next ⊢
      rw [if_neg (fun q => h8 ((nI_eq (by omega) (by decide)).mp q))]
      exact next
/-- what comes out of it -/
def nuOk (c : Nat → Nat) (N : Nat) (o : Option Nat) : Prop := match o with
  | none => ∀ s, s < N → shw c s 8 ≠ 2
  | some z => z < N ∧ shw c z 8 = 2 ∧ ∀ s, s < N → shw c s 8 = 2 → ¬ ltK c s z
theorem nut_ok : ∀ (n s : Nat) (o : Option Nat), nuOk c s o → nuOk c (s + n) (nut c s n o)
  | 0, s, o, h => h
  | n + 1, s, o, h => by
    rw [nut, show s + (n + 1) = s + 1 + n by omega]
    refine nut_ok n (s + 1) _ ?_
    unfold nuS
    by_cases h8 : shw c s 8 = 2
    · rw [if_pos h8]
      cases o with
      | none =>
        refine ⟨by omega, h8, fun y hy hy8 => ?_⟩
        by_cases e : y = s
        · subst e; omega
        · exact absurd hy8 (h y (by omega))
      | some z =>
        obtain ⟨q1, q2, q3⟩ := h
        dsimp only
        by_cases l : ltK c s z
        · rw [if_pos l]
          refine ⟨by omega, h8, fun y hy hy8 => ?_⟩
          by_cases e : y = s
          · subst e; omega
          · have := q3 y (by omega) hy8
            omega
        · rw [if_neg l]
          refine ⟨by omega, q2, fun y hy hy8 => ?_⟩
          by_cases e : y = s
          · subst e; exact l
          · exact q3 y (by omega) hy8
    · rw [if_neg h8]
      cases o with
      | none =>
        intro y hy
        by_cases e : y = s
        · subst e; exact h8
        · exact h y (by omega)
      | some z =>
        obtain ⟨q1, q2, q3⟩ := h
        refine ⟨by omega, q2, fun y hy hy8 => ?_⟩
        by_cases e : y = s
        · subst e; exact absurd hy8 h8
        · exact q3 y (by omega) hy8
theorem m_nextOut (hR : RM (Y 1) c) (hG : Gd c) {rest : List Nat} (hm : ∀ s, s < c 4 → (s ∈ rest ↔ shw c s 8 = 2)) (hl : ∀ s ∈ rest, s < c 4) (hp : rest.Pairwise (ltK c)) : f_X6_nextOut Y = some (enO rest.head?) := by
  unfold f_X6_nextOut
  have h4 := hG.c4
  have h1 := m_nextOut_L hR hG (c 4) 0 zFuel none (Nat.zero_add _) (by show c 4 < 5000; omega) (fun z hz => by cases hz)
  have h2 := nut_ok (c := c) (c 4) 0 none (fun s hs => absurd hs (Nat.not_lt_zero s))
  rw [Nat.zero_add] at h2
  rw [show (-1 : Int32) = enO none from rfl, h1]
  congr 2
  generalize nut c 0 (c 4) none = o at h2
  cases o with
  | none =>
    cases rest with
    | nil => rfl
    | cons z r =>
      have hz := hl z List.mem_cons_self
      exact absurd ((hm z hz).mp List.mem_cons_self) (h2 z hz)
  | some z =>
    obtain ⟨q1, q2, q3⟩ := h2
    cases rest with
    | nil => exact absurd ((hm z q1).mpr q2) (by simp)
    | cons y r =>
      have hy := hl y List.mem_cons_self
      have hy8 := (hm y hy).mp List.mem_cons_self
      rcases List.mem_cons.mp ((hm z q1).mpr q2) with e | e
      · rw [e]; rfl
      · exact absurd ((List.pairwise_cons.mp hp).1 z e) (q3 y hy hy8)
end NXO
