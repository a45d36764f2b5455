/-! the reference's looks at the other shows -/
/-- the reference stands over a place: hall, film, day, start, end, itself -/
def mIts (Y : Nat → Nat → Int32) (w : Int32) (h f d st en : Nat) : Prop := Y 0 15 = nI h ∧ Y 0 16 = nI f ∧ Y 0 17 = nI d ∧ Y 0 18 = nI st ∧ Y 0 19 = nI en ∧ Y 0 20 = w
section MS
variable {X Y : Nat → Nat → Int32} {a : Nat → Nat}
theorem m_isOther (hR : RM (Y 1) a) (hG : Gd a) {w : Int32} {d : Nat} (h17 : Y 0 17 = nI d) (h20 : Y 0 20 = w) (hd : d < 2 ^ 31) {s : Nat} (hs : s < a 4) : f_X6_isOther Y (nI s) = some (if isO a w d s = true then nI 1 else nI 0) := by
  have h4 := hG.c4
  have hS := hG.2.2.2.2 s hs
  unfold f_X6_isOther
  rw [h20, h17, m_stands hR hG hs]
  by_cases c1 : nI s = w
  · rw [if_pos c1, if_neg (by simp [isO, c1])]
  · rw [if_neg c1]
    by_cases c8 : shw a s 8 = 0
    · rw [if_pos c8, Option.bind_some, if_neg nI_10, m_shw hR (by omega) (by decide), Option.bind_some]
      by_cases c2 : shw a s 2 = d
      · rw [if_pos (by rw [c2]), if_pos (by simp [isO, c1, c2, c8])]
      · rw [if_neg (fun q => c2 ((nI_eq (by omega) hd).mp q)), if_neg (by simp [isO, c2])]
    · rw [if_neg c8, Option.bind_some, if_pos nI_0, if_neg (by simp [isO, c8])]
theorem isO_t {w : Int32} {d s : Nat} {P : Nat → Bool} {b : Bool} (h : P s = b) (n : Nat) : othL P s (n + 1) = if b = true then s :: othL P (s + 1) n else othL P (s + 1) n := by rw [othL, h]
theorem m_n4 (hR : RM (Y 1) a) : Y 1 (nI 4).toNatClampNeg = nI (a 4) := hR.lo (by decide)
theorem m_meetsInHall (hR : RM (Y 1) a) (hG : Gd a) {w : Int32} {h f d st en : Nat} (hI : mIts Y w h f d st en) (hh : h < a 1) (hd : d < 2 ^ 31) (hst : st < 2 ^ 30) (hen : en < 2 ^ 30) :
    f_X6_meetsInHall Y = some (enO ((othL (isO a w d) 0 (a 4)).find? (meet6 a h st (en + hal a h 1)))) := by
  obtain ⟨i15, i16, i17, i18, i19, i20⟩ := hI
  have h4 := hG.c4
  have h1 := hG.c1
  have hHc := (hG.2.1 h hh).2.2.1
  have key : ∀ (n s fu : Nat), s + n = a 4 → n < fu → f_X6_meetsInHall_L17 Y (nI (en + hal a h 1)) fu (nI s) = some (enO ((othL (isO a w d) s n).find? (meet6 a h st (en + hal a h 1)))) := by
    intro n
    induction n with
    | zero =>
      intro s fu hs hfu
      obtain ⟨fu', rfl, -⟩ := fu_s hfu
      rw [f_X6_meetsInHall_L17, m_n4 hR, if_pos (nI_le (by omega) (by omega))]
      rfl
    | succ n ih =>
      intro s fu hs hfu
      obtain ⟨fu', rfl, hf2⟩ := fu_s hfu
      have hx : s < a 4 := by omega
      have he := end_lt hG hx
      have hS := hG.2.2.2.2 s hx
      have ih' := ih (s + 1) fu' (by omega) (hf2 n rfl)
      rw [f_X6_meetsInHall_L17, m_n4 hR, if_neg (nI_ge (by omega) (by omega)), m_isOther hR hG i17 i20 hd hx, Option.bind_some, nI_1, i15, i18, othL]
      by_cases c0 : isO a w d s = true
      · rw [if_pos c0, if_neg nI_10, if_pos c0, m_shw hR (by omega) (by decide), Option.bind_some, List.find?_cons]
        by_cases c1 : shw a s 0 = h
        · rw [if_pos (by rw [c1]), m_shw hR (by omega) (by decide), Option.bind_some]
          by_cases c2 : en + hal a h 1 ≤ shw a s 3
          · rw [if_pos (nI_le c2 (by omega)), show meet6 a h st (en + hal a h 1) s = false by simp [meet6]; omega]
            exact ih'
          · rw [if_neg (nI_ge (by omega) (by omega)), m_endOf hR hG hx, Option.bind_some, m_cleanOf hR hG hx, Option.bind_some, nI_add]
            by_cases c3 : endA a s + clnA a s ≤ st
            · rw [if_pos (nI_le c3 (by omega)), show meet6 a h st (en + hal a h 1) s = false by simp [meet6]; omega]
              exact ih'
            · rw [if_neg (nI_ge (by omega) (by omega)), show meet6 a h st (en + hal a h 1) s = true by simp [meet6, c1]; omega]
              rfl
        · rw [if_neg (fun q => c1 ((nI_eq (by omega) (by omega)).mp q)), show meet6 a h st (en + hal a h 1) s = false by simp [meet6, c1]]
          exact ih'
      · rw [if_neg c0, if_pos nI_0, if_neg c0]
        exact ih'
  unfold f_X6_meetsInHall
  rw [i15, i19, m_hal hR (by omega) (by decide), Option.bind_some, nI_add]
  exact key (a 4) 0 zFuel (Nat.zero_add _) (by show a 4 < 5000; omega)
theorem m_meetsAtExit (hR : RM (Y 1) a) (hG : Gd a) {w : Int32} {h f d st en : Nat} (hI : mIts Y w h f d st en) (hh : h < a 1) (hd : d < 2 ^ 31) (hen : en < 2 ^ 29) :
    f_X6_meetsAtExit Y = some (enO ((othL (isO a w d) 0 (a 4)).find? (meet8 a (hal a h 2) en))) := by
  obtain ⟨i15, i16, i17, i18, i19, i20⟩ := hI
  have h4 := hG.c4
  have h1 := hG.c1
  have h8 : a 8 ≤ 30 := hG.1.2.2.2.2.2.2.2.1
  have hH2 := (hG.2.1 h hh).2.2.2.1
  have e8 : Y 1 (nI 8).toNatClampNeg = nI (a 8) := hR.lo (by decide)
  have key : ∀ (n s fu : Nat), s + n = a 4 → n < fu → f_X6_meetsAtExit_L2 Y fu (nI s) = some (enO ((othL (isO a w d) s n).find? (meet8 a (hal a h 2) en))) := by
    intro n
    induction n with
    | zero =>
      intro s fu hs hfu
      obtain ⟨fu', rfl, -⟩ := fu_s hfu
      rw [f_X6_meetsAtExit_L2, m_n4 hR, if_pos (nI_le (by omega) (by omega))]
      rfl
    | succ n ih =>
      intro s fu hs hfu
      obtain ⟨fu', rfl, hf2⟩ := fu_s hfu
      have hx : s < a 4 := by omega
      have he := end_lt hG hx
      have hS := hG.2.2.2.2 s hx
      have ih' := ih (s + 1) fu' (by omega) (hf2 n rfl)
      rw [f_X6_meetsAtExit_L2, m_n4 hR, if_neg (nI_ge (by omega) (by omega)), m_endOf hR hG hx, Option.bind_some, m_isOther hR hG i17 i20 hd hx, Option.bind_some, nI_1, i15, i19, e8, othL]
      by_cases c0 : isO a w d s = true
      · rw [if_pos c0, if_neg nI_10, if_pos c0, m_shw hR (by omega) (by decide), Option.bind_some, m_hal hR (by omega) (by decide), Option.bind_some, m_hal hR (by omega) (by decide), Option.bind_some, List.find?_cons]
        by_cases c1 : hal a (shw a s 0) 2 = hal a h 2
        · rw [if_pos (by rw [c1])]
          have e1 : (nI (endA a s) - nI en).toInt = (endA a s : Int) - en := pk_sub_toInt (by omega) (by omega)
          by_cases c : en ≤ endA a s
          · rw [if_pos (by rw [Int32.le_iff_toInt_le, Int32.toInt_zero, e1]; omega), pk_sub c]
            by_cases c2 : a 8 ≤ endA a s - en
            · rw [if_pos (nI_le c2 (by omega)), show meet8 a (hal a h 2) en s = false by simp [meet8, c1]; omega]
              exact ih'
            · rw [if_neg (nI_ge (by omega) (by omega)), show meet8 a (hal a h 2) en s = true by simp [meet8, c1]; omega]
              rfl
          · rw [if_neg (by rw [Int32.le_iff_toInt_le, Int32.toInt_zero, e1]; omega), Int32.neg_sub, pk_sub (by omega)]
            by_cases c2 : a 8 ≤ en - endA a s
            · rw [if_pos (nI_le c2 (by omega)), show meet8 a (hal a h 2) en s = false by simp [meet8, c1]; omega]
              exact ih'
            · rw [if_neg (nI_ge (by omega) (by omega)), show meet8 a (hal a h 2) en s = true by simp [meet8, c1]; omega]
              rfl
        · rw [if_neg (fun q => c1 ((nI_eq (by omega) (by omega)).mp q)), show meet8 a (hal a h 2) en s = false by simp [meet8, c1]]
          exact ih'
      · rw [if_neg c0, if_pos nI_0, if_neg c0]
        exact ih'
  exact key (a 4) 0 zFuel (Nat.zero_add _) (by show a 4 < 5000; omega)
end MS
