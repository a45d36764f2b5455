/-! WHAT THE CONSTRUCTORS LEAVE keeps to what holds between both sides -/
def za0 (k : Nat) : Nat := if k < 8 then 0 else if k < 14 then [10, 2, 15, 10, 60, 10].getD (k - 8) 0 else if k < 30 then 3 else if sp k = true then 1 else 0
theorem za0_RM : RM (zY0 1) za0 := by
  show ∀ k, k < 580 → zG6 22 k = en k (za0 k)
  decide +kernel
theorem za0_RB : zRB zX0 1 za0 := by
  refine ⟨by decide +kernel, fun h hh => absurd hh (Nat.not_lt_zero h), fun h hh => absurd hh (Nat.not_lt_zero h), fun h hh => absurd hh (Nat.not_lt_zero h), fun h hh => absurd hh (Nat.not_lt_zero h), fun h hh => absurd hh (Nat.not_lt_zero h), by decide +kernel, by decide +kernel, by decide +kernel⟩
theorem za0_Gd : Gd2 za0 := by
  refine ⟨⟨?_, fun h hh => absurd hh (Nat.not_lt_zero h), fun h hh => absurd hh (Nat.not_lt_zero h), fun h hh => absurd hh (Nat.not_lt_zero h), fun h hh => absurd hh (Nat.not_lt_zero h)⟩, fun h hh => absurd hh (Nat.not_lt_zero h), fun h _ hh => absurd hh (Nat.not_lt_zero h)⟩
  unfold GdC
  decide +kernel
theorem z0_inv : zInv 0 zX0 zY0 za0 := by
  refine ⟨za0_RB, za0_RM, za0_Gd, ⟨⟨0, 0, by decide, by decide, by decide +kernel, by decide +kernel, by decide +kernel, fun i hi => absurd hi (Nat.not_lt_zero i)⟩, ⟨?_, ?_⟩, Or.inl (by decide +kernel), Or.inl (by decide +kernel), ?_, ?_, by decide +kernel, by decide +kernel⟩, by decide +kernel⟩
  · unfold zCon; decide +kernel
  · unfold zCon; decide +kernel
  · unfold zErr; decide +kernel
  · unfold oCon; decide +kernel
theorem z0_in (t : Nat → Nat) : zTIn t 0 zY0 := ⟨by decide, by decide +kernel, fun j hj => absurd hj (Nat.not_lt_zero j)⟩
theorem z0_out (t : Nat → Nat) : zTOut t 0 zY0 := ⟨by decide, by decide +kernel, fun j hj => absurd hj (Nat.not_lt_zero j)⟩
theorem z0_lat (t : Nat → Nat) (f : Nat → Int32) : sb_Lat t 0 f := fun j hj => absurd hj (Nat.not_lt_zero j)
theorem z0_fit : sb_Fit (fun _ => 0) := fun _ => rfl
