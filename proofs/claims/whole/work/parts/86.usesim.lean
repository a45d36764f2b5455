/-! use, append, written: both sides agree -/
section USE
variable {X Y : Nat → Nat → Int32} {a : Nat → Nat}
theorem m_use_L {g : Nat → Nat → Int32} (hR : RM (g 1) a) (hG : Gd a) (P : Nat → Bool) (hP : ∀ s, P s = true) (k : Int32 → Option (UInt64 × (Nat → Nat → Int32))) : ∀ (n s acc fu : Nat), s + n = a 4 → n < fu → f_X6_use_L4 k g fu (nI acc) (nI s) = k (nI (acc + zsm (fun s => if P s = true ∧ shw a s 8 = 0 then meas a 5 s else 0) s n)) := by
  intro n
  induction n with
  | zero =>
    intro s acc fu hs hf
    obtain ⟨f, rfl, -⟩ := fu_s hf
    rw [f_X6_use_L4, m_nS hR, if_pos (nI_le (by omega) (by have := hG.c4; omega))]
    rfl
  | succ n ih =>
    intro s acc fu hs hf
    obtain ⟨f, rfl, hf2⟩ := fu_s hf
    have hx : s < a 4 := by omega
    have h4 := hG.c4
    have h1 := hG.c1
    have hS := hG.2.2.2.2 s hx
    rw [f_X6_use_L4, m_nS hR, if_neg (nI_ge hx (by omega)), m_stands hR hG hx, m_shw hR (by omega) (by decide), nI_1, zsm]
    simp only [Option.bind_some]
    by_cases h8 : shw a s 8 = 0
    · rw [if_pos h8, if_neg (by decide), if_pos (show P s = true ∧ shw a s 8 = 0 from ⟨hP s, h8⟩), m_hallAt g (by omega) (by decide), Option.bind_some, hR.hal (by omega) (by decide), nI_add, ih (s + 1) _ f (by omega) (hf2 n rfl), Nat.add_assoc]
      rfl
    · rw [if_neg h8, if_pos nI_0, nI_add, ih (s + 1) _ f (by omega) (hf2 n rfl), if_neg (fun q => h8 q.2), Nat.zero_add, Nat.add_zero]
def Ku (c : Nat) : Nat := match c with
  | 0 => 0
  | _ => 1
theorem sim_use (h : zInv 0 X Y a) : ∃ (c : Nat) (r b : UInt64), f_X5_use X = some (c, r) ∧ f_X6_use Y = some (b, zU Y 0 0 (nI (Ku c))) ∧ (c = 0 → r = b) := by
  have hG := h.2.2.1.1
  have hR := h.2.1
  unfold f_X5_use f_X6_use
  rw [show (5 : Nat) = 5 from rfl, n_total_all h.1 hG (m := 5) (by decide), n_total_all h.1 hG (m := 2) (by decide), Option.bind_some]
  obtain ⟨P, hPe⟩ : ∃ P : Nat → Bool, P = fun _ => true := ⟨_, rfl⟩
  have hP : ∀ s, P s = true := fun s => by rw [hPe]
  rw [← hPe]
  have h1 := m_use_L hR hG P hP (fun v1_1009 => (if v1_1009 = 0 then (zlet (zU Y 0 0 (nI 1)) fun X_1015 => some (FP.dconst0, X_1015)) else (zlet (zU Y 0 0 (nI 0)) fun X_1011 => ((f_X6_sumOf X_1011 (nI 5)).bind fun q_1013 => some ((FP.ddiv (FP.i2d q_1013) (FP.i2d v1_1009)), X_1011))))) (a 4) 0 0 zFuel (Nat.zero_add _) (by have := hG.c4; show a 4 < 5000; omega)
  rw [h1, Nat.zero_add]
  show ∃ (c : Nat) (r b : UInt64), (if nI (tot a 5 P) = 0 then _ else _) = some (c, r) ∧ (if nI (tot a 5 P) = 0 then _ else _) = some (b, zU Y 0 0 (nI (Ku c))) ∧ (c = 0 → r = b)
  by_cases c0 : nI (tot a 5 P) = 0
  · rw [if_pos c0, if_pos c0]
    exact ⟨4, 0, FP.dconst0, rfl, rfl, fun q => absurd q (by decide)⟩
  · rw [if_neg c0, if_neg c0, Option.bind_some]
    simp only [zlet_eq]
    rw [m_sumOf (hR.u0 0 (nI 0)) hG (Or.inl rfl), Option.bind_some, ← hPe]
    exact ⟨0, _, _, rfl, rfl, fun _ => rfl⟩
end USE
