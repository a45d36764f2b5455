section SC
variable {X Y : Nat → Nat → Int32} {a : Nat → Nat}
theorem og (hO : oCon X) {k j : Nat} (hk : k < 30) (hj : j < 7) : f_X4_get X 147 210 (nI k) (nI j) = X 148 (k * 7 + j) := c_get_in hO.1 (by decide) (by omega)
theorem end_lt (hG : Gd a) {s : Nat} (hs : s < a 4) : endA a s ≤ 960 ∧ clnA a s ≤ 40 ∧ shw a s 3 < 960 ∧ hal a (shw a s 0) 2 ≤ 2 := by
  have hS := hG.2.2.2.2 s hs
  have hH := hG.2.1 _ hS.1
  exact ⟨hS.2.2.2.2.2.2.2.2.2.2.2, hH.2.2.1, hS.2.2.2.2.1, hH.2.2.2.1⟩
theorem n_inTheWay (hG : Gd a) {w : Int32} {f d : Nat} (hF : oFul X a w f d) {h st cl : Nat} (hh : h < 2 ^ 31) (hst : st < 2 ^ 31) (hcl : cl < 2 ^ 31) :
    f_X2_firstInTheWay X (nI h) (nI st) (nI cl) = some (enO ((othL (isO a w d) 0 (a 4)).find? (meet6 a h st cl))) := by
  obtain ⟨hO, -, -, hN, hT⟩ := hF
  have h4 := hG.c4
  have h1 := hG.c1
  generalize hL : othL (isO a w d) 0 (a 4) = L at hN hT ⊢
  have hlen : L.length ≤ 30 := by have := othL_len (isO a w d) (a 4) 0; rw [hL] at this; omega
  have hmem : ∀ s ∈ L, s < a 4 := fun s hs => by rw [← hL] at hs; have := (othL_mem hs).2.2; omega
  have key : ∀ (l : List Nat) (k fu : Nat), k + l.length = L.length → l.length < fu → (∀ s ∈ l, s < a 4) → oTab X a f k l → f_X2_firstInTheWay_L3 (fun v4_1005 => some (f_X4_get X 147 210 v4_1005 (nI 0))) X (nI h) (nI st) (nI cl) fu (nI k) = some (enO (l.find? (meet6 a h st cl))) := by
    intro l
    induction l with
    | nil =>
      intro k fu hk hfu _ _
      obtain ⟨fu', rfl, -⟩ := fu_s hfu
      rw [f_X2_firstInTheWay_L3, n_size hN, if_pos (nI_le (by simp at hk; omega) (by omega))]
      rfl
    | cons s l ih =>
      intro k fu hk hfu hm hTl
      rw [List.length_cons] at hk hfu
      obtain ⟨fu', rfl, hf2⟩ := fu_s hfu
      obtain ⟨⟨r0, r1, r2, r3, r4, r5, r6⟩, hTl⟩ := hTl
      have hs : s < a 4 := hm s List.mem_cons_self
      have he := end_lt hG hs
      have hS := hG.2.2.2.2 s hs
      have ih' := ih (k + 1) fu' (by omega) (hf2 l.length rfl) (fun x hx => hm x (List.mem_cons_of_mem _ hx)) hTl
      rw [f_X2_firstInTheWay_L3, n_size hN, if_neg (nI_ge (by omega) (by omega)), og hO (by omega) (by decide), og hO (by omega) (by decide), og hO (by omega) (by decide), og hO (by omega) (by decide), r0, r1, r3, r5, nI_1, List.find?_cons]
      by_cases c1 : cl ≤ shw a s 3
      · rw [if_pos (nI_le c1 (by omega)), show meet6 a h st cl s = false by simp [meet6]; omega]
        exact ih'
      · rw [if_neg (nI_ge (by omega) hcl)]
        by_cases c2 : endA a s + clnA a s ≤ st
        · rw [if_pos (nI_le c2 hst), show meet6 a h st cl s = false by simp [meet6]; omega]
          exact ih'
        · rw [if_neg (nI_ge (by omega) (by omega))]
          by_cases c3 : shw a s 0 = h
          · rw [if_pos (by rw [c3]), show meet6 a h st cl s = true by simp [meet6, c3]; omega]
            rfl
          · rw [if_neg (fun q => c3 ((nI_eq (by omega) hh).mp q)), show meet6 a h st cl s = false by simp [meet6, c3]]
            exact ih'
  exact key L 0 zFuel (Nat.zero_add _) (by show L.length < 5000; omega) hmem hT
theorem z_absI {x y : Nat} (hx : x < 2 ^ 29) (hy : y < 2 ^ 29) {g : Nat} (hg : g < 2 ^ 29) : nI g ≤ (if 0 ≤ (nI x - nI y) then (nI x - nI y) else 0 - (nI x - nI y)) ↔ (y + g ≤ x ∨ x + g ≤ y) := by
  have e1 : (nI x - nI y).toInt = (x : Int) - y := pk_sub_toInt (by omega) (by omega)
  by_cases c : y ≤ x
  · have h0 : 0 ≤ nI x - nI y := by rw [Int32.le_iff_toInt_le, Int32.toInt_zero, e1]; omega
    rw [if_pos h0, Int32.le_iff_toInt_le, e1, nI_toInt (by omega)]
    omega
  · have h0 : ¬ 0 ≤ nI x - nI y := by rw [Int32.le_iff_toInt_le, Int32.toInt_zero, e1]; omega
    have e2 : 0 - (nI x - nI y) = nI y - nI x := by
      rw [Int32.sub_eq_add_neg, Int32.neg_sub, Int32.zero_add]
    rw [if_neg h0, e2, Int32.le_iff_toInt_le, pk_sub_toInt (by omega) (by omega), nI_toInt (by omega)]
    omega
theorem n_atExit (hG : Gd a) {w : Int32} {f d : Nat} (hF : oFul X a w f d) {x en : Nat} (hx : x < 2 ^ 31) (hen : en < 2 ^ 29) :
    f_X2_firstAtExit X (nI x) (nI en) (nI (a 8)) = some (enO ((othL (isO a w d) 0 (a 4)).find? (meet8 a x en))) := by
  obtain ⟨hO, -, -, hN, hT⟩ := hF
  have h4 := hG.c4
  have h8 : a 8 ≤ 30 := hG.1.2.2.2.2.2.2.2.1
  generalize hL : othL (isO a w d) 0 (a 4) = L at hN hT ⊢
  have hlen : L.length ≤ 30 := by have := othL_len (isO a w d) (a 4) 0; rw [hL] at this; omega
  have hmem : ∀ s ∈ L, s < a 4 := fun s hs => by rw [← hL] at hs; have := (othL_mem hs).2.2; omega
  have key : ∀ (l : List Nat) (k fu : Nat), k + l.length = L.length → l.length < fu → (∀ s ∈ l, s < a 4) → oTab X a f k l → f_X2_firstAtExit_L3 (fun v4_1004 => some (f_X4_get X 147 210 v4_1004 (nI 0))) X (nI x) (nI en) (nI (a 8)) fu (nI k) = some (enO (l.find? (meet8 a x en))) := by
    intro l
    induction l with
    | nil =>
      intro k fu hk hfu _ _
      obtain ⟨fu', rfl, -⟩ := fu_s hfu
      rw [f_X2_firstAtExit_L3, n_size hN, if_pos (nI_le (by simp at hk; omega) (by omega))]
      rfl
    | cons s l ih =>
      intro k fu hk hfu hm hTl
      rw [List.length_cons] at hk hfu
      obtain ⟨fu', rfl, hf2⟩ := fu_s hfu
      obtain ⟨⟨r0, r1, r2, r3, r4, r5, r6⟩, hTl⟩ := hTl
      have hs : s < a 4 := hm s List.mem_cons_self
      have he := end_lt hG hs
      have ih' := ih (k + 1) fu' (by omega) (hf2 l.length rfl) (fun x hx => hm x (List.mem_cons_of_mem _ hx)) hTl
      rw [f_X2_firstAtExit_L3, n_size hN, if_neg (nI_ge (by omega) (by omega)), og hO (by omega) (by decide), og hO (by omega) (by decide), og hO (by omega) (by decide), r0, r2, r4, nI_1, List.find?_cons]
      by_cases c1 : hal a (shw a s 0) 2 = x
      · rw [if_pos (by rw [c1])]
        by_cases c2 : en + a 8 ≤ endA a s ∨ endA a s + a 8 ≤ en
        · rw [if_pos ((z_absI (by omega) hen (by omega)).mpr c2), show meet8 a x en s = false by simp [meet8, c1]; omega]
          exact ih'
        · rw [if_neg (fun q => c2 ((z_absI (by omega) hen (by omega)).mp q)), show meet8 a x en s = true by simp [meet8, c1]; omega]
          rfl
      · rw [if_neg (fun q => c1 ((nI_eq (by omega) hx).mp q)), show meet8 a x en s = false by simp [meet8, c1]]
        exact ih'
  exact key L 0 zFuel (Nat.zero_add _) (by show L.length < 5000; omega) hmem hT
/-- two columns of the table, as a beginning and an ending -/
def oCol (X : Nat → Nat → Int32) (c : Nat) (v : Nat → Nat) : Nat → List Nat → Prop
  | _, [] => True
  | k, s :: l => X 148 (k * 7 + c) = nI (v s) ∧ oCol X c v (k + 1) l
theorem n_count (hO : oCon X) {N c1 c2 : Nat} {bg fn : Nat → Nat} (hN : X 147 3 = nI N) (hN30 : N ≤ 30) (hc1 : c1 < 7) (hc2 : c2 < 7) {m : Nat} (hm : m < 2 ^ 31) (kk : Int32 → Option Int32) (u1 u2 u3 u6 u7 : Int32) :
    ∀ (l : List Nat) (k acc fu : Nat), k + l.length = N → l.length < fu → (∀ s ∈ l, bg s < 2 ^ 31 ∧ fn s < 2 ^ 31) → oCol X c1 bg k l → oCol X c2 fn k l →
      f_X2_firstCrowded_L72 kk X u1 u2 u3 (nI c1) (nI c2) u6 u7 (nI m) fu (nI acc) (nI k) = kk (nI (acc + l.countP (fun s => decide (bg s ≤ m) && decide (m < fn s)))) := by
  intro l
  induction l with
  | nil =>
    intro k acc fu hk hfu _ _ _
    obtain ⟨fu', rfl, -⟩ := fu_s hfu
    rw [f_X2_firstCrowded_L72, n_size hN, if_pos (nI_le (by simp at hk; omega) (by omega))]
    rfl
  | cons s l ih =>
    intro k acc fu hk hfu hb h1 h2
    rw [List.length_cons] at hk hfu
    obtain ⟨fu', rfl, hf2⟩ := fu_s hfu
    have hbs := hb s List.mem_cons_self
    have ih' := fun acc => ih (k + 1) acc fu' (by omega) (hf2 l.length rfl) (fun x hx => hb x (List.mem_cons_of_mem _ hx)) h1.2 h2.2
    rw [f_X2_firstCrowded_L72, n_size hN, if_neg (nI_ge (by omega) (by omega)), og hO (by omega) hc1, og hO (by omega) hc2, h1.1, h2.1, nI_1, nI_1, List.countP_cons]
    by_cases q1 : m < bg s
    · rw [if_pos (nI_lt q1 hbs.1), ih', if_neg (by simp; omega)]
      rfl
    · rw [if_neg (nI_nlt (by omega) hm)]
      by_cases q2 : fn s ≤ m
      · rw [if_pos (nI_le q2 hm), ih', if_neg (by simp; omega)]
        rfl
      · rw [if_neg (nI_ge (by omega) hbs.2), ih', if_pos (by simp; omega)]
        congr 2
        omega
end SC
