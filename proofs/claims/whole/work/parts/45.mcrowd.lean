theorem z_inm {m lo x : Nat} (hm : m < 2 ^ 30) (hl : lo < 2 ^ 30) (hx : x < 2 ^ 30) : f_X6_in (nI m) (nI lo) (nI x - nI 1) = if lo ≤ m ∧ m < x then nI 1 else nI 0 := by
  have e : (nI x - nI 1).toInt = (x : Int) - 1 := pk_sub_toInt hx (by decide)
  unfold f_X6_in
  by_cases c1 : m < lo
  · rw [if_pos (nI_lt c1 (by omega)), if_neg (by omega)]
  · rw [if_neg (nI_nlt (by omega) (by omega))]
    by_cases c2 : x ≤ m
    · rw [if_pos (by rw [Int32.lt_iff_toInt_lt, e, nI_toInt (by omega)]; omega), if_neg (by omega)]
    · rw [if_neg (by rw [Int32.lt_iff_toInt_lt, e, nI_toInt (by omega)]; omega), if_pos (by omega)]
def bg7 (a : Nat → Nat) (s : Nat) : Nat := shw a s 3
def fn7 (a : Nat → Nat) (f s : Nat) : Nat := if shw a s 1 = f then endA a s + a 10 else shw a s 3
def fn9 (a : Nat → Nat) (s : Nat) : Nat := endA a s + clnA a s
section MC
variable {X Y : Nat → Nat → Int32} {a : Nat → Nat}
theorem fn7_b (hG : Gd a) {f s : Nat} (hs : s < a 4) : bg7 a s < 960 ∧ fn7 a f s < 1021 ∧ endA a s < 961 ∧ fn9 a s < 1001 := by
  have he := end_lt hG hs
  have h10 : a 10 ≤ 60 := hG.1.2.2.2.2.2.2.2.2.2.1
  refine ⟨he.2.2.1, ?_, by omega, by unfold fn9; omega⟩
  unfold fn7
  split <;> omega
theorem m_n10 (hR : RM (Y 1) a) : Y 1 (nI 10).toNatClampNeg = nI (a 10) := hR.lo (by decide)
theorem m_n9 (hR : RM (Y 1) a) : Y 1 (nI 9).toNatClampNeg = nI (a 9) := hR.lo (by decide)
theorem m_copiesAt (hR : RM (Y 1) a) (hG : Gd a) {w : Int32} {h f d st en : Nat} (hI : mIts Y w h f d st en) (hf : f < 2 ^ 31) (hd : d < 2 ^ 31) {m : Nat} (hm : m < 2 ^ 30) :
    f_X6_copiesAt Y (nI m) = some (nI (cntO (bg7 a) (fn7 a f) (othL (isO a w d) 0 (a 4)) m)) := by
  obtain ⟨i15, i16, i17, i18, i19, i20⟩ := hI
  have h4 := hG.c4
  have h2 := hG.c2
  have h10 : a 10 ≤ 60 := hG.1.2.2.2.2.2.2.2.2.2.1
  have key : ∀ (n s fu acc : Nat), s + n = a 4 → n < fu → f_X6_copiesAt_L4 Y (nI m) fu (nI acc) (nI s) = some (nI (acc + (othL (isO a w d) s n).countP (fun s => decide (bg7 a s ≤ m) && decide (m < fn7 a f s)))) := by
    intro n
    induction n with
    | zero =>
      intro s fu acc hs hfu
      obtain ⟨fu', rfl, -⟩ := fu_s hfu
      rw [f_X6_copiesAt_L4, m_n4 hR, if_pos (nI_le (by omega) (by omega))]
      rfl
    | succ n ih =>
      intro s fu acc hs hfu
      obtain ⟨fu', rfl, hf2⟩ := fu_s hfu
      have hx : s < a 4 := by omega
      have he := end_lt hG hx
      have hS := hG.2.2.2.2 s hx
      have ih' := fun acc => ih (s + 1) fu' acc (by omega) (hf2 n rfl)
      rw [f_X6_copiesAt_L4, m_n4 hR, if_neg (nI_ge (by omega) (by omega)), m_isOther hR hG i17 i20 hd hx, Option.bind_some, nI_1, i16, nI_add, nI_add, m_n10 hR, othL]
      by_cases c0 : isO a w d s = true
      · rw [if_pos c0, if_neg nI_10, if_pos c0, m_shw hR (by omega) (by decide), Option.bind_some, List.countP_cons]
        by_cases c1 : shw a s 1 = f
        · rw [if_pos (by rw [c1]), m_shw hR (by omega) (by decide), Option.bind_some, m_endOf hR hG hx, Option.bind_some, nI_add, z_inm hm (by omega) (by omega)]
          have hfn : fn7 a f s = endA a s + a 10 := if_pos c1
          by_cases c2 : shw a s 3 ≤ m ∧ m < endA a s + a 10
          · rw [if_pos c2, if_neg nI_10, ih', if_pos (by simp [bg7, hfn, c2.1, c2.2])]
            congr 2
            omega
          · rw [if_neg c2, if_pos nI_0, ih', if_neg (show ¬ (decide (bg7 a s ≤ m) && decide (m < fn7 a f s)) = true by rw [hfn, Bool.and_eq_true, decide_eq_true_eq, decide_eq_true_eq]; exact c2)]
            rfl
        · rw [if_neg (fun q => c1 ((nI_eq (by omega) (by omega)).mp q)), ih', if_neg (show ¬ (decide (bg7 a s ≤ m) && decide (m < fn7 a f s)) = true by rw [show fn7 a f s = shw a s 3 from if_neg c1, Bool.and_eq_true, decide_eq_true_eq, decide_eq_true_eq]; unfold bg7; omega)]
          rfl
      · rw [if_neg c0, if_pos nI_0, if_neg c0]
        exact ih' acc
  unfold f_X6_copiesAt
  exact key (a 4) 0 zFuel 1 (Nat.zero_add _) (by show a 4 < 5000; omega)
theorem m_cleanedAt (hR : RM (Y 1) a) (hG : Gd a) {w : Int32} {h f d st en : Nat} (hI : mIts Y w h f d st en) (hd : d < 2 ^ 31) {m : Nat} (hm : m < 2 ^ 30) :
    f_X6_cleanedAt Y (nI m) = some (nI (cntO (endA a) (fn9 a) (othL (isO a w d) 0 (a 4)) m)) := by
  obtain ⟨i15, i16, i17, i18, i19, i20⟩ := hI
  have h4 := hG.c4
  have key : ∀ (n s fu acc : Nat), s + n = a 4 → n < fu → f_X6_cleanedAt_L4 Y (nI m) fu (nI acc) (nI s) = some (nI (acc + (othL (isO a w d) s n).countP (fun s => decide (endA a s ≤ m) && decide (m < fn9 a s)))) := by
    intro n
    induction n with
    | zero =>
      intro s fu acc hs hfu
      obtain ⟨fu', rfl, -⟩ := fu_s hfu
      rw [f_X6_cleanedAt_L4, m_n4 hR, if_pos (nI_le (by omega) (by omega))]
      rfl
    | succ n ih =>
      intro s fu acc hs hfu
      obtain ⟨fu', rfl, hf2⟩ := fu_s hfu
      have hx : s < a 4 := by omega
      have he := end_lt hG hx
      have ih' := fun acc => ih (s + 1) fu' acc (by omega) (hf2 n rfl)
      rw [f_X6_cleanedAt_L4, m_n4 hR, if_neg (nI_ge (by omega) (by omega)), m_isOther hR hG i17 i20 hd hx, Option.bind_some, nI_1, nI_add, nI_add, othL]
      by_cases c0 : isO a w d s = true
      · rw [if_pos c0, if_neg nI_10, if_pos c0, m_endOf hR hG hx, Option.bind_some, Option.bind_some, m_cleanOf hR hG hx, Option.bind_some, nI_add, z_inm hm (by omega) (by omega), List.countP_cons]
        by_cases c2 : endA a s ≤ m ∧ m < endA a s + clnA a s
        · rw [if_pos c2, if_neg nI_10, ih', if_pos (by simp [fn9, c2.1, c2.2])]
          congr 2
          omega
        · rw [if_neg c2, if_pos nI_0, ih', if_neg (show ¬ (decide (endA a s ≤ m) && decide (m < fn9 a s)) = true by rw [Bool.and_eq_true, decide_eq_true_eq, decide_eq_true_eq]; exact c2)]
          rfl
      · rw [if_neg c0, if_pos nI_0, if_neg c0]
        exact ih' acc
  unfold f_X6_cleanedAt
  exact key (a 4) 0 zFuel 1 (Nat.zero_add _) (by show a 4 < 5000; omega)
theorem cntO_le {bg fn : Nat → Nat} {P : Nat → Bool} {n m : Nat} (hn : n ≤ 30) : cntO bg fn (othL P 0 n) m ≤ 31 := by
  have := List.countP_le_length (p := fun s => decide (bg s ≤ m) && decide (m < fn s)) (l := othL P 0 n)
  have h2 := othL_len P n 0
  unfold cntO
  omega
theorem m_tooManyCopies (hR : RM (Y 1) a) (hG : Gd a) {w : Int32} {h f d st en : Nat} (hI : mIts Y w h f d st en) (hf : f < a 2) (hd : d < 2 ^ 31) (hst : st < 2 ^ 29) (hen : en < 2 ^ 29) :
    f_X6_tooManyCopies Y = some (enO (crw0 (cntO (bg7 a) (fn7 a f) (othL (isO a w d) 0 (a 4))) (flm a f 3) st (en + a 10) (bg7 a) (othL (isO a w d) 0 (a 4)))) := by
  have hI2 := hI
  obtain ⟨i15, i16, i17, i18, i19, i20⟩ := hI
  have h4 := hG.c4
  have h2 := hG.c2
  have h10 : a 10 ≤ 60 := hG.1.2.2.2.2.2.2.2.2.2.1
  have hF3 := (hG.2.2.1 f hf).2.2.2.2.2.2.1
  generalize hC : cntO (bg7 a) (fn7 a f) (othL (isO a w d) 0 (a 4)) = C
  have hC31 : ∀ m, C m ≤ 31 := fun m => by rw [← hC]; exact cntO_le h4
  have hcop : ∀ m, m < 2 ^ 30 → f_X6_copiesAt Y (nI m) = some (nI (C m)) := fun m hm => by rw [m_copiesAt hR hG hI2 (by omega) hd hm, hC]
  have key : ∀ (n s fu : Nat) (fd : Option Nat), s + n = a 4 → n < fu → (∀ z, fd = some z → z < 2 ^ 30) → f_X6_tooManyCopies_L44 Y (nI (en + a 10)) fu (enO fd) (nI s) = some (enO (crw C (flm a f 3) st (en + a 10) (bg7 a) fd (othL (isO a w d) s n))) := by
    intro n
    induction n with
    | zero =>
      intro s fu fd hs hfu _
      obtain ⟨fu', rfl, -⟩ := fu_s hfu
      rw [f_X6_tooManyCopies_L44, m_n4 hR, if_pos (nI_le (by omega) (by omega))]
      rfl
    | succ n ih =>
      intro s fu fd hs hfu hz
      obtain ⟨fu', rfl, hf2⟩ := fu_s hfu
      have hx : s < a 4 := by omega
      have he := end_lt hG hx
      have ih' := fun fd => ih (s + 1) fu' fd (by omega) (hf2 n rfl)
      rw [f_X6_tooManyCopies_L44, m_n4 hR, if_neg (nI_ge (by omega) (by omega)), m_shw hR (by omega) (by decide), Option.bind_some, m_isOther hR hG i17 i20 hd hx, Option.bind_some, nI_1, i18, i16, m_flm hR (by omega) (by decide), hcop _ (by omega), othL]
      simp only [Option.bind_some]
      by_cases c0 : isO a w d s = true
      · rw [if_pos c0, if_neg nI_10, if_pos c0, crw]
        have hb : bg7 a s = shw a s 3 := rfl
        by_cases q1 : shw a s 3 ≤ st
        · rw [if_pos (nI_le q1 (by omega)), if_neg (by rw [hb]; simp; omega)]
          exact ih' fd hz
        · rw [if_neg (nI_ge (by omega) (by omega))]
          by_cases q2 : en + a 10 ≤ shw a s 3
          · rw [if_pos (nI_le q2 (by omega)), if_neg (by rw [hb]; simp; omega)]
            exact ih' fd hz
          · rw [if_neg (nI_ge (by omega) (by omega))]
            have hgo : okm fd (shw a s 3) = true → (if nI (C (shw a s 3)) ≤ nI (flm a f 3) then f_X6_tooManyCopies_L44 Y (nI (en + a 10)) fu' (enO fd) (nI (s + 1)) else f_X6_tooManyCopies_L44 Y (nI (en + a 10)) fu' (nI (shw a s 3)) (nI (s + 1))) = some (enO (crw C (flm a f 3) st (en + a 10) (bg7 a) (if decide (st < bg7 a s) && decide (bg7 a s < en + a 10) && okm fd (bg7 a s) && decide (flm a f 3 < C (bg7 a s)) then some (bg7 a s) else fd) (othL (isO a w d) (s + 1) n))) := by
              intro hok
              rw [hb, hok]
              have hc31 := hC31 (shw a s 3)
              by_cases q3 : C (shw a s 3) ≤ flm a f 3
              · rw [if_pos (nI_le q3 (by omega)), if_neg (by simp; omega)]
                exact ih' fd hz
              · rw [if_neg (nI_ge (by omega) (by omega)), if_pos (by simp; omega)]
                exact ih' (some (shw a s 3)) (fun z e => by cases e; omega)
            cases fd with
            | none =>
              rw [if_pos (show enO none = -1 from rfl)]
              exact hgo rfl
            | some z =>
              have hz2 := hz z rfl
              rw [if_neg (show ¬ enO (some z) = -1 from z_m1 (by omega)), show enO (some z) = nI z from rfl]
              by_cases q3 : z ≤ shw a s 3
              · rw [if_pos (nI_le q3 (by omega)), if_neg (by rw [hb]; simp [okm]; omega)]
                exact ih' (some z) hz
              · rw [if_neg (nI_ge (by omega) (by omega))]
                exact hgo (by simp [okm]; omega)
      · rw [if_neg c0, if_pos nI_0, if_neg c0]
        exact ih' fd hz
  unfold f_X6_tooManyCopies crw0
  rw [i18, i19, i16, hcop _ (by omega), m_flm hR (by omega) (by decide), m_n10 hR]
  simp only [Option.bind_some]
  rw [nI_add]
  have hc31 := hC31 st
  by_cases q3 : C st ≤ flm a f 3
  · rw [if_pos (nI_le q3 (by omega)), if_neg (by omega)]
    exact key (a 4) 0 zFuel none (Nat.zero_add _) (by show a 4 < 5000; omega) (fun z e => by cases e)
  · rw [if_neg (nI_ge (by omega) (by omega)), if_pos (by omega)]
    exact key (a 4) 0 zFuel (some st) (Nat.zero_add _) (by show a 4 < 5000; omega) (fun z e => by cases e; omega)
theorem m_tooManyCleaned (hR : RM (Y 1) a) (hG : Gd a) {w : Int32} {h f d st en : Nat} (hI : mIts Y w h f d st en) (hh : h < a 1) (hd : d < 2 ^ 31) (hen : en < 2 ^ 29) :
    f_X6_tooManyCleaned Y = some (enO (if hal a h 1 = 0 then none else crw0 (cntO (endA a) (fn9 a) (othL (isO a w d) 0 (a 4))) (a 9) en (en + hal a h 1) (endA a) (othL (isO a w d) 0 (a 4)))) := by
  have hI2 := hI
  obtain ⟨i15, i16, i17, i18, i19, i20⟩ := hI
  have h4 := hG.c4
  have h1 := hG.c1
  have h9 : a 9 ≤ 3 := hG.1.2.2.2.2.2.2.2.2.1.2
  have hHc := (hG.2.1 h hh).2.2.1
  generalize hC : cntO (endA a) (fn9 a) (othL (isO a w d) 0 (a 4)) = C
  have hC31 : ∀ m, C m ≤ 31 := fun m => by rw [← hC]; exact cntO_le h4
  have hcop : ∀ m, m < 2 ^ 30 → f_X6_cleanedAt Y (nI m) = some (nI (C m)) := fun m hm => by rw [m_cleanedAt hR hG hI2 hd hm, hC]
  have key : ∀ (n s fu : Nat) (fd : Option Nat), s + n = a 4 → n < fu → (∀ z, fd = some z → z < 2 ^ 30) → f_X6_tooManyCleaned_L45 Y (nI (hal a h 1)) fu (enO fd) (nI s) = some (enO (crw C (a 9) en (en + hal a h 1) (endA a) fd (othL (isO a w d) s n))) := by
    intro n
    induction n with
    | zero =>
      intro s fu fd hs hfu _
      obtain ⟨fu', rfl, -⟩ := fu_s hfu
      rw [f_X6_tooManyCleaned_L45, m_n4 hR, if_pos (nI_le (by omega) (by omega))]
      rfl
    | succ n ih =>
      intro s fu fd hs hfu hz
      obtain ⟨fu', rfl, hf2⟩ := fu_s hfu
      have hx : s < a 4 := by omega
      have he := end_lt hG hx
      have ih' := fun fd => ih (s + 1) fu' fd (by omega) (hf2 n rfl)
      rw [f_X6_tooManyCleaned_L45, m_n4 hR, if_neg (nI_ge (by omega) (by omega)), m_endOf hR hG hx, Option.bind_some, m_isOther hR hG i17 i20 hd hx, Option.bind_some, nI_1, i19, nI_add, m_n9 hR, hcop _ (by omega), othL]
      simp only [Option.bind_some]
      by_cases c0 : isO a w d s = true
      · rw [if_pos c0, if_neg nI_10, if_pos c0, crw]
        by_cases q1 : endA a s ≤ en
        · rw [if_pos (nI_le q1 (by omega)), if_neg (by simp; omega)]
          exact ih' fd hz
        · rw [if_neg (nI_ge (by omega) (by omega))]
          by_cases q2 : en + hal a h 1 ≤ endA a s
          · rw [if_pos (nI_le q2 (by omega)), if_neg (by simp; omega)]
            exact ih' fd hz
          · rw [if_neg (nI_ge (by omega) (by omega))]
            have hgo : okm fd (endA a s) = true → (if nI (C (endA a s)) ≤ nI (a 9) then f_X6_tooManyCleaned_L45 Y (nI (hal a h 1)) fu' (enO fd) (nI (s + 1)) else f_X6_tooManyCleaned_L45 Y (nI (hal a h 1)) fu' (nI (endA a s)) (nI (s + 1))) = some (enO (crw C (a 9) en (en + hal a h 1) (endA a) (if decide (en < endA a s) && decide (endA a s < en + hal a h 1) && okm fd (endA a s) && decide (a 9 < C (endA a s)) then some (endA a s) else fd) (othL (isO a w d) (s + 1) n))) := by
              intro hok
              rw [hok]
              have hc31 := hC31 (endA a s)
              by_cases q3 : C (endA a s) ≤ a 9
              · rw [if_pos (nI_le q3 (by omega)), if_neg (by simp; omega)]
                exact ih' fd hz
              · rw [if_neg (nI_ge (by omega) (by omega)), if_pos (by simp; omega)]
                exact ih' (some (endA a s)) (fun z e => by cases e; omega)
            cases fd with
            | none =>
              rw [if_pos (show enO none = -1 from rfl)]
              exact hgo rfl
            | some z =>
              have hz2 := hz z rfl
              rw [if_neg (show ¬ enO (some z) = -1 from z_m1 (by omega)), show enO (some z) = nI z from rfl]
              by_cases q3 : z ≤ endA a s
              · rw [if_pos (nI_le q3 (by omega)), if_neg (by simp [okm]; omega)]
                exact ih' (some z) hz
              · rw [if_neg (nI_ge (by omega) (by omega))]
                exact hgo (by simp [okm]; omega)
      · rw [if_neg c0, if_pos nI_0, if_neg c0]
        exact ih' fd hz
  unfold f_X6_tooManyCleaned crw0
  rw [i19, i15, m_hal hR (by omega) (by decide), Option.bind_some]
  by_cases c0 : hal a h 1 = 0
  · rw [if_pos c0, c0, if_pos nI_0]
    rfl
  · rw [if_neg c0, if_neg (nI_ne0 (by omega) (by omega)), hcop _ (by omega), m_n9 hR, Option.bind_some]
    have hc31 := hC31 en
    by_cases q3 : C en ≤ a 9
    · rw [if_pos (nI_le q3 (by omega)), if_neg (by omega)]
      exact key (a 4) 0 zFuel none (Nat.zero_add _) (by show a 4 < 5000; omega) (fun z e => by cases e)
    · rw [if_neg (nI_ge (by omega) (by omega)), if_pos (by omega)]
      exact key (a 4) 0 zFuel (some en) (Nat.zero_add _) (by show a 4 < 5000; omega) (fun z e => by cases e; omega)
end MC
