theorem z_m1 {k : Nat} (h : k < 2 ^ 31) : ¬ nI k = -1 := by
  intro q
  have h1 := nI_pos h
  rw [q] at h1
  exact h1 (by decide)
theorem z_p1 : (-1 : Int32) + 1 = nI 0 := by decide
section CW
variable {X Y : Nat → Nat → Int32} {a : Nat → Nat}
theorem n_crowdL (hO : oCon X) {N c1 c2 : Nat} {bg fn : Nat → Nat} (hN : X 147 3 = nI N) (hN30 : N ≤ 30) (hc1 : c1 < 7) (hc2 : c2 < 7) {fr un most : Nat} (hfr : fr < 2 ^ 31) (hun : un < 2 ^ 31) (hmo : most < 2 ^ 31) {L : List Nat} (hL : L.length = N) (hLb : ∀ s ∈ L, bg s < 2 ^ 31 ∧ fn s < 2 ^ 31) (hL1 : oCol X c1 bg 0 L) (hL2 : oCol X c2 fn 0 L) :
    ∀ (l : List Nat) (k fu : Nat) (fd : Option Nat), k + l.length = N → l.length < fu → (∀ s ∈ l, bg s < 2 ^ 31 ∧ fn s < 2 ^ 31) → oCol X c1 bg k l → (∀ z, fd = some z → z < 2 ^ 31) → (fd = some fr ∨ cntO bg fn L fr ≤ most) →
      f_X2_firstCrowded_L6 X (nI fr) (nI un) (nI most) (nI c1) (nI c2) fu (enO fd) (nI k) = some (enO (crw (cntO bg fn L) most fr un bg fd l)) := by
  have hct : ∀ m, cntO bg fn L m ≤ 31 := fun m => by
    have := List.countP_le_length (p := fun s => decide (bg s ≤ m) && decide (m < fn s)) (l := L)
    unfold cntO
    omega
  have hcnt : ∀ (m : Nat) (kk : Int32 → Option Int32) (u6 u7 : Int32), m < 2 ^ 31 → f_X2_firstCrowded_L72 kk X (nI fr) (nI un) (nI most) (nI c1) (nI c2) u6 u7 (nI m) zFuel (nI 1) (nI 0) = kk (nI (cntO bg fn L m)) := fun m kk u6 u7 hm =>
    n_count hO hN hN30 hc1 hc2 hm kk _ _ _ u6 u7 L 0 1 zFuel (by omega) (by show L.length < 5000; omega) hLb hL1 hL2
  intro l
  induction l with
  | nil =>
    intro k fu fd hk hfu _ _ _ _
    obtain ⟨fu', rfl, -⟩ := fu_s hfu
    rw [f_X2_firstCrowded_L6, n_size hN, if_pos (nI_le (by simp at hk; omega) (by omega))]
    rfl
  | cons s l ih =>
    intro k fu fd hk hfu hb h1 hz hinv
    rw [List.length_cons] at hk hfu
    obtain ⟨fu', rfl, hf2⟩ := fu_s hfu
    have hbs := hb s List.mem_cons_self
    have ih' := fun fd => ih (k + 1) fu' fd (by omega) (hf2 l.length rfl) (fun x hx => hb x (List.mem_cons_of_mem _ hx)) h1.2
    have hset : ∀ z, some (bg s) = some z → z < 2 ^ 31 := fun z q => by cases q; exact hbs.1
    rw [f_X2_firstCrowded_L6, n_size hN, if_neg (nI_ge (by omega) (by omega)), if_neg (z_m1 (by omega)), og hO (by omega) hc1, h1.1, nI_1, crw]
    by_cases q1 : bg s < fr
    · rw [if_pos (nI_lt q1 hfr), if_neg (by simp; omega)]
      exact ih' fd hz hinv
    · rw [if_neg (nI_nlt (by omega) hbs.1)]
      by_cases q2 : un ≤ bg s
      · rw [if_pos (nI_le q2 hbs.1), if_neg (by simp; omega)]
        exact ih' fd hz hinv
      · rw [if_neg (nI_ge (by omega) hun)]
        have hgo : ∀ (u6 u7 : Int32), okm fd (bg s) = true → f_X2_firstCrowded_L72 (fun v9 => (if v9 ≤ nI most then f_X2_firstCrowded_L6 X (nI fr) (nI un) (nI most) (nI c1) (nI c2) fu' (enO fd) (nI (k + 1)) else f_X2_firstCrowded_L6 X (nI fr) (nI un) (nI most) (nI c1) (nI c2) fu' (nI (bg s)) (nI (k + 1)))) X (nI fr) (nI un) (nI most) (nI c1) (nI c2) u6 u7 (nI (bg s)) zFuel (nI 1) (nI 0) = some (enO (crw (cntO bg fn L) most fr un bg (if decide (fr < bg s) && decide (bg s < un) && okm fd (bg s) && decide (most < cntO bg fn L (bg s)) then some (bg s) else fd) l)) := by
          intro u6 u7 hok
          rw [hcnt _ _ _ _ hbs.1, hok]
          have hc31 := hct (bg s)
          by_cases q3 : cntO bg fn L (bg s) ≤ most
          · rw [if_pos (nI_le q3 hmo), if_neg (by simp; omega)]
            exact ih' fd hz hinv
          · rw [if_neg (nI_ge (by omega) (by omega))]
            rcases hinv with hi | hi
            · subst hi
              simp only [okm, decide_eq_true_eq] at hok
              omega
            · have hne : fr ≠ bg s := fun q => q3 (q ▸ hi)
              rw [if_pos (by simp; omega)]
              exact ih' (some (bg s)) hset (Or.inr hi)
        cases fd with
        | none =>
          rw [if_pos (show enO none = -1 from rfl)]
          exact hgo _ _ rfl
        | some z =>
          have hz2 := hz z rfl
          rw [if_neg (show ¬ enO (some z) = -1 from z_m1 hz2), show enO (some z) = nI z from rfl]
          by_cases q3 : z ≤ bg s
          · rw [if_pos (nI_le q3 hbs.1), if_neg (by simp [okm]; omega)]
            exact ih' (some z) hz hinv
          · rw [if_neg (nI_ge (by omega) hz2)]
            exact hgo _ _ (by simp [okm]; omega)
theorem crw_no (cnt : Nat → Nat) (most fr un : Nat) (bg : Nat → Nat) (fd : Option Nat) (h : un ≤ fr) : ∀ (l : List Nat), crw cnt most fr un bg fd l = fd
  | [] => rfl
  | s :: l => by rw [crw, if_neg (by simp; omega), crw_no cnt most fr un bg fd h l]
theorem n_crowded (hO : oCon X) {N c1 c2 : Nat} {bg fn : Nat → Nat} (hN : X 147 3 = nI N) (hN30 : N ≤ 30) (hc1 : c1 < 7) (hc2 : c2 < 7) {fr un most : Nat} (hfr : fr < 2 ^ 31) (hun : un < 2 ^ 31) (hmo : most < 2 ^ 31) {L : List Nat} (hL : L.length = N) (hLb : ∀ s ∈ L, bg s < 2 ^ 31 ∧ fn s < 2 ^ 31) (hL1 : oCol X c1 bg 0 L) (hL2 : oCol X c2 fn 0 L) :
    f_X2_firstCrowded X (nI fr) (nI un) (nI most) (nI c1) (nI c2) = some (enO (if un ≤ fr then none else crw0 (cntO bg fn L) most fr un bg L)) := by
  have hct : ∀ m, cntO bg fn L m ≤ 31 := fun m => by
    have := List.countP_le_length (p := fun s => decide (bg s ≤ m) && decide (m < fn s)) (l := L)
    unfold cntO
    omega
  have key := n_crowdL hO hN hN30 hc1 hc2 hfr hun hmo hL hLb hL1 hL2 L 0 4999
  unfold f_X2_firstCrowded
  rw [show zFuel = 4999 + 1 from rfl, f_X2_firstCrowded_L6, n_size hN, if_neg (by rw [Int32.le_iff_toInt_le, nI_toInt (by omega)]; have : (-1 : Int32).toInt = -1 := by decide
                                                                                  omega), if_pos rfl, if_neg (fun q => nI_nlt (Nat.le_refl fr) hfr q), z_p1]
  by_cases q : un ≤ fr
  · rw [if_pos (nI_le q hfr), if_pos q]
    -- nothing is looked at
    have go : ∀ (l : List Nat) (k fu : Nat), k + l.length = N → l.length < fu → (∀ s ∈ l, bg s < 2 ^ 31 ∧ fn s < 2 ^ 31) → oCol X c1 bg k l →
        f_X2_firstCrowded_L6 X (nI fr) (nI un) (nI most) (nI c1) (nI c2) fu (-1) (nI k) = some (enO none) := by
      intro l
      induction l with
      | nil =>
        intro k fu hk hfu _ _
        obtain ⟨fu', rfl, -⟩ := fu_s hfu
        rw [f_X2_firstCrowded_L6, n_size hN, if_pos (nI_le (by simp at hk; omega) (by omega))]
        rfl
      | cons s l ih =>
        intro k fu hk hfu hb h1
        rw [List.length_cons] at hk hfu
        obtain ⟨fu', rfl, hf2⟩ := fu_s hfu
        have hbs := hb s List.mem_cons_self
        rw [f_X2_firstCrowded_L6, n_size hN, if_neg (nI_ge (by omega) (by omega)), if_neg (z_m1 (by omega)), og hO (by omega) hc1, h1.1, nI_1]
        have ih' := ih (k + 1) fu' (by omega) (hf2 l.length rfl) (fun x hx => hb x (List.mem_cons_of_mem _ hx)) h1.2
        by_cases q1 : bg s < fr
        · rw [if_pos (nI_lt q1 hfr)]
          exact ih'
        · rw [if_neg (nI_nlt (by omega) hbs.1), if_pos (nI_le (by omega) hbs.1)]
          exact ih'
    exact go L 0 4999 (by omega) (by omega) hLb hL1
  · rw [if_neg (nI_ge (by omega) hun), if_neg q, if_pos rfl]
    rw [n_count hO hN hN30 hc1 hc2 hfr _ _ _ _ _ _ L 0 1 zFuel (by omega) (by show L.length < 5000; omega) hLb hL1 hL2]
    have hc31 := hct fr
    unfold crw0
    change (if nI (cntO bg fn L fr) ≤ nI most then _ else _) = _
    by_cases q3 : cntO bg fn L fr ≤ most
    · rw [if_pos (nI_le q3 hmo), if_neg (by omega)]
      exact key none (by omega) (by omega) hLb hL1 (fun z e => by cases e) (Or.inr q3)
    · rw [if_neg (nI_ge (by omega) (by omega)), if_pos (by omega)]
      exact key (some fr) (by omega) (by omega) hLb hL1 (fun z e => by cases e; exact hfr) (Or.inl rfl)
theorem crw0_none {cnt : Nat → Nat} {most fr un : Nat} {bg : Nat → Nat} {L : List Nat} (h : un ≤ fr) : crw0 cnt most fr un bg L = if most < cnt fr then some fr else none := crw_no _ _ _ _ _ _ h _
end CW
