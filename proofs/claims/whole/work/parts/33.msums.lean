/-! the reference's sums -/
section MS
variable {X : Nat → Nat → Int32} {a : Nat → Nat}
theorem m_stands (hR : RM (X 1) a) (hG : Gd a) {s : Nat} (hs : s < a 4) : f_X6_stands X (nI s) = some (if shw a s 8 = 0 then nI 1 else nI 0) := by
  have h4 := hG.c4
  have hS := hG.2.2.2.2 s hs
  unfold f_X6_stands
  rw [m_shw hR (by omega) (by decide)]
  simp only [Option.bind_some]
  by_cases h8 : shw a s 8 = 0
  · rw [if_pos h8, h8, if_pos nI_0]
  · rw [if_neg h8, if_neg (nI_ne0 (by omega) (by omega))]
theorem m_receiptsOf (hR : RM (X 1) a) (hG : Gd a) {s : Nat} (hs : s < a 4) : f_X6_receiptsOf X (nI s) = some (nI (rcp a s)) := by
  have h4 := hG.c4
  unfold f_X6_receiptsOf
  rw [m_shw hR (by omega) (by decide), m_shw hR (by omega) (by decide)]
  simp only [Option.bind_some, pk_mul]
  rfl
theorem m_partOf (hR : RM (X 1) a) (hG : Gd a) {s : Nat} (hs : s < a 4) : f_X6_partOf X (nI s) = some (nI (prt a s)) := by
  have h4 := hG.c4
  have hS := hG.2.2.2.2 s hs
  unfold f_X6_partOf
  rw [m_receiptsOf hR hG hs, m_shw hR (by omega) (by decide), m_shw hR (by omega) (by decide)]
  simp only [Option.bind_some]
  rw [m_shareOn hR hG (hG.s1 hs) hS.2.2.1 hS.2.2.2.1]
  simp only [Option.bind_some]
  rw [pk_mul, pk_div (rs_lt hG hs) (by decide) (by decide)]
  rfl
theorem m_nS (hR : RM (X 1) a) : X 1 (nI 4).toNatClampNeg = nI (a 4) := hR.lo (by decide)
theorem m_hall_L (hR : RM (X 1) a) (hG : Gd a) {h w : Nat} (hh : h < 2 ^ 31) (hw : w = 4 ∨ w = 5 ∨ w = 6) (k : Int32 → Option (Int32 × (Nat → Nat → Int32))) :
    f_X6_hall_L51 k X (nI h) (nI w) zFuel (nI 0) (nI 0) = k (nI (tot a (w - 4) (fun s => decide (shw a s 0 = h)))) := by
  have key : ∀ (n s acc fu : Nat), s + n = a 4 → n < fu → f_X6_hall_L51 k X (nI h) (nI w) fu (nI acc) (nI s) = k (nI (acc + zsm (fun s => if decide (shw a s 0 = h) = true ∧ shw a s 8 = 0 then meas a (w - 4) s else 0) s n)) := by
    intro n
    induction n with
    | zero =>
      intro s acc fu hs hf
      obtain ⟨f, rfl, -⟩ := fu_s hf
      rw [f_X6_hall_L51, m_nS hR, if_pos (nI_le (by omega) (by have := hG.c4; omega))]
      rfl
    | succ n ih =>
      intro s acc fu hs hf
      obtain ⟨f, rfl, hf2⟩ := fu_s hf
      have hx : s < a 4 := by omega
      have h4 := hG.c4
      have hS := hG.2.2.2.2 s hx
      have h1 := hG.c1
      rw [f_X6_hall_L51, m_nS hR, if_neg (nI_ge hx (by omega)), m_stands hR hG hx, m_shw hR (by omega) (by decide), m_minutesOf hR hG hx, m_shw hR (by omega) (by decide), nI_1, zsm]
      simp only [Option.bind_some]
      by_cases h8 : shw a s 8 = 0
      · rw [if_pos h8, if_neg (by decide)]
        by_cases hcj : shw a s 0 = h
        · rw [if_pos (by rw [hcj]), if_pos (show decide (shw a s 0 = h) = true ∧ shw a s 8 = 0 from ⟨decide_eq_true hcj, h8⟩)]
          rcases hw with rfl | rfl | rfl
          · rw [if_pos rfl, nI_add, ih (s + 1) _ f (by omega) (hf2 n rfl), Nat.add_assoc]; rfl
          · rw [if_neg (by decide), if_pos rfl, nI_add, ih (s + 1) _ f (by omega) (hf2 n rfl), Nat.add_assoc]; rfl
          · rw [if_neg (by decide), if_neg (by decide), nI_add, ih (s + 1) _ f (by omega) (hf2 n rfl), Nat.add_assoc]; rfl
        · rw [if_neg (fun q => hcj ((nI_eq (by omega) hh).mp q)), ih (s + 1) _ f (by omega) (hf2 n rfl), if_neg (fun q => hcj (of_decide_eq_true q.1)), Nat.zero_add]
      · rw [if_neg h8, if_pos nI_0, ih (s + 1) _ f (by omega) (hf2 n rfl), if_neg (fun q => h8 q.2), Nat.zero_add]
  have h1 := key (a 4) 0 0 zFuel (Nat.zero_add _) (by have := hG.c4; show a 4 < 5000; omega)
  rw [Nat.zero_add] at h1
  exact h1
/-- the measure that film's number w asks for -/
def fMs (w : Nat) : Nat := match w with
  | 5 => 0
  | 6 => 2
  | 7 => 3
  | _ => 4
theorem m_film_L (hR : RM (X 1) a) (hG : Gd a) {h w : Nat} (hh : h < 2 ^ 31) (hw : w = 5 ∨ w = 6 ∨ w = 7 ∨ w = 8) (k : Int32 → Option (Int32 × (Nat → Nat → Int32))) :
    f_X6_film_L71 k X (nI h) (nI w) zFuel (nI 0) (nI 0) = k (nI (tot a (fMs w) (fun s => decide (shw a s 1 = h)))) := by
  have key : ∀ (n s acc fu : Nat), s + n = a 4 → n < fu → f_X6_film_L71 k X (nI h) (nI w) fu (nI acc) (nI s) = k (nI (acc + zsm (fun s => if decide (shw a s 1 = h) = true ∧ shw a s 8 = 0 then meas a (fMs w) s else 0) s n)) := by
    intro n
    induction n with
    | zero =>
      intro s acc fu hs hf
      obtain ⟨f, rfl, -⟩ := fu_s hf
      rw [f_X6_film_L71, m_nS hR, if_pos (nI_le (by omega) (by have := hG.c4; omega))]
      rfl
    | succ n ih =>
      intro s acc fu hs hf
      obtain ⟨f, rfl, hf2⟩ := fu_s hf
      have hx : s < a 4 := by omega
      have h4 := hG.c4
      have hS := hG.2.2.2.2 s hx
      have h2 := hG.c2
      rw [f_X6_film_L71, m_nS hR, if_neg (nI_ge hx (by omega)), m_stands hR hG hx, m_shw hR (by omega) (by decide), m_receiptsOf hR hG hx, m_partOf hR hG hx, m_shw hR (by omega) (by decide), nI_1, zsm]
      simp only [Option.bind_some]
      by_cases h8 : shw a s 8 = 0
      · rw [if_pos h8, if_neg (by decide)]
        by_cases hcj : shw a s 1 = h
        · rw [if_pos (by rw [hcj]), if_pos (show decide (shw a s 1 = h) = true ∧ shw a s 8 = 0 from ⟨decide_eq_true hcj, h8⟩)]
          rcases hw with rfl | rfl | rfl | rfl
          · rw [if_pos rfl, nI_add, ih (s + 1) _ f (by omega) (hf2 n rfl), Nat.add_assoc]; rfl
          · rw [if_neg (by decide), if_pos rfl, nI_add, ih (s + 1) _ f (by omega) (hf2 n rfl), Nat.add_assoc]; rfl
          · rw [if_neg (by decide), if_neg (by decide), if_pos rfl, nI_add, ih (s + 1) _ f (by omega) (hf2 n rfl), Nat.add_assoc]; rfl
          · rw [if_neg (by decide), if_neg (by decide), if_neg (by decide), nI_add, ih (s + 1) _ f (by omega) (hf2 n rfl), Nat.add_assoc]; rfl
        · rw [if_neg (fun q => hcj ((nI_eq (by omega) hh).mp q)), ih (s + 1) _ f (by omega) (hf2 n rfl), if_neg (fun q => hcj (of_decide_eq_true q.1)), Nat.zero_add]
      · rw [if_neg h8, if_pos nI_0, ih (s + 1) _ f (by omega) (hf2 n rfl), if_neg (fun q => h8 q.2), Nat.zero_add]
  have h1 := key (a 4) 0 0 zFuel (Nat.zero_add _) (by have := hG.c4; show a 4 < 5000; omega)
  rw [Nat.zero_add] at h1
  exact h1
/-- the measure that sumOf's number w asks for -/
def sMs (w : Nat) : Nat := match w with
  | 5 => 2
  | 6 => 3
  | 7 => 4
  | _ => 1
theorem m_sumOf (hR : RM (X 1) a) (hG : Gd a) {w : Nat} (hw : w = 5 ∨ w = 6 ∨ w = 7 ∨ w = 10) : f_X6_sumOf X (nI w) = some (nI (tot a (sMs w) (fun _ => true))) := by
  obtain ⟨P, hPe⟩ : ∃ P : Nat → Bool, P = fun _ => true := ⟨_, rfl⟩
  have hP : ∀ s, P s = true := fun s => by rw [hPe]
  rw [← hPe]
  have key : ∀ (n s acc fu : Nat), s + n = a 4 → n < fu → f_X6_sumOf_L4 X (nI w) fu (nI acc) (nI s) = some (nI (acc + zsm (fun s => if P s = true ∧ shw a s 8 = 0 then meas a (sMs w) s else 0) s n)) := by
    intro n
    induction n with
    | zero =>
      intro s acc fu hs hf
      obtain ⟨f, rfl, -⟩ := fu_s hf
      rw [f_X6_sumOf_L4, m_nS hR, if_pos (nI_le (by omega) (by have := hG.c4; omega))]
      rfl
    | succ n ih =>
      intro s acc fu hs hf
      obtain ⟨f, rfl, hf2⟩ := fu_s hf
      have hx : s < a 4 := by omega
      have h4 := hG.c4
      rw [f_X6_sumOf_L4, m_nS hR, if_neg (nI_ge hx (by omega)), m_stands hR hG hx, m_minutesOf hR hG hx, m_receiptsOf hR hG hx, m_partOf hR hG hx, m_shw hR (by omega) (by decide), nI_1, zsm]
      simp only [Option.bind_some]
      rw [if_neg (show ¬ nI w = nI 4 by rcases hw with rfl | rfl | rfl | rfl <;> decide)]
      by_cases h8 : shw a s 8 = 0
      · rw [if_pos h8, if_neg (by decide), if_pos (show P s = true ∧ shw a s 8 = 0 from ⟨hP s, h8⟩)]
        rcases hw with rfl | rfl | rfl | rfl
        · rw [if_pos rfl, nI_add, ih (s + 1) _ f (by omega) (hf2 n rfl), Nat.add_assoc]; rfl
        · rw [if_neg (by decide), if_pos rfl, nI_add, ih (s + 1) _ f (by omega) (hf2 n rfl), Nat.add_assoc]; rfl
        · rw [if_neg (by decide), if_neg (by decide), if_pos rfl, nI_add, ih (s + 1) _ f (by omega) (hf2 n rfl), Nat.add_assoc]; rfl
        · rw [if_neg (by decide), if_neg (by decide), if_neg (by decide), nI_add, ih (s + 1) _ f (by omega) (hf2 n rfl), Nat.add_assoc]; rfl
      · rw [if_neg h8, if_pos nI_0, ih (s + 1) _ f (by omega) (hf2 n rfl), if_neg (fun q => h8 q.2), Nat.zero_add]
  have h1 := key (a 4) 0 0 zFuel (Nat.zero_add _) (by have := hG.c4; show a 4 < 5000; omega)
  rw [Nat.zero_add] at h1
  exact h1
/-- the cancelled shows, counted from s on -/
def cnc (a : Nat → Nat) : Nat := zsm (fun s => if shw a s 8 = 0 then 0 else 1) 0 (a 4)
theorem m_sumOf4 (hR : RM (X 1) a) (hG : Gd a) : f_X6_sumOf X (nI 4) = some (nI (cnc a)) := by
  have key : ∀ (n s acc fu : Nat), s + n = a 4 → n < fu → f_X6_sumOf_L4 X (nI 4) fu (nI acc) (nI s) = some (nI (acc + zsm (fun s => if shw a s 8 = 0 then 0 else 1) s n)) := by
    intro n
    induction n with
    | zero =>
      intro s acc fu hs hf
      obtain ⟨f, rfl, -⟩ := fu_s hf
      rw [f_X6_sumOf_L4, m_nS hR, if_pos (nI_le (by omega) (by have := hG.c4; omega))]
      rfl
    | succ n ih =>
      intro s acc fu hs hf
      obtain ⟨f, rfl, hf2⟩ := fu_s hf
      have hx : s < a 4 := by omega
      have h4 := hG.c4
      rw [f_X6_sumOf_L4, m_nS hR, if_neg (nI_ge hx (by omega)), m_stands hR hG hx, nI_1, zsm, if_pos rfl]
      simp only [Option.bind_some]
      by_cases h8 : shw a s 8 = 0
      · rw [if_pos h8, if_neg (by decide), if_pos h8, nI_add, ih (s + 1) _ f (by omega) (hf2 n rfl), Nat.add_assoc]
      · rw [if_neg h8, if_pos nI_0, if_neg h8, nI_add, ih (s + 1) _ f (by omega) (hf2 n rfl), Nat.add_assoc]
  have h1 := key (a 4) 0 0 zFuel (Nat.zero_add _) (by have := hG.c4; show a 4 < 5000; omega)
  rw [Nat.zero_add] at h1
  exact h1
theorem tot0_cnc (a : Nat → Nat) : tot a 0 (fun _ => true) + cnc a = a 4 := by
  have key : ∀ n s : Nat, zsm (fun s => if (fun _ => true) s = true ∧ shw a s 8 = 0 then meas a 0 s else 0) s n + zsm (fun s => if shw a s 8 = 0 then 0 else 1) s n = n := by
    intro n
    induction n with
    | zero => intro s; rfl
    | succ n ih =>
      intro s
      have := ih (s + 1)
      rw [zsm, zsm]
      by_cases h8 : shw a s 8 = 0
      · rw [if_pos ⟨rfl, h8⟩, if_pos h8]
        show 1 + _ + (0 + _) = n + 1
        omega
      · rw [if_neg (fun q => h8 q.2), if_neg h8]
        omega
  exact key (a 4) 0
end MS
