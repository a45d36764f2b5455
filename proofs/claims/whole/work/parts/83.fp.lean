/-! A QUOTIENT OF WHOLE NUMBERS IS A NUMBER -/
def zfd (d : FP.Core.Datum) : Prop := match d with
  | .nan => False
  | .inf _ => True
  | .fin _ c q => c < 2 ^ 53 ∧ q ≤ 971
theorem zasm (s : Bool) (e t : Nat) (he : e ≤ 2047) (ht : t < 2 ^ 52) (h : e = 2047 → t = 0) : FP.Core.assemble FP.Core.b64 s e t < 2 ^ 64 ∧ FP.Core.assemble FP.Core.b64 s e t % 2 ^ 63 = e * 2 ^ 52 + t ∧ e * 2 ^ 52 + t ≤ 2047 * 2 ^ 52 := by
  have e1 : FP.Core.assemble FP.Core.b64 s e t = (s.toNat * 2048 + e) * 2 ^ 52 + t := rfl
  rw [e1]
  have hb : s.toNat ≤ 1 := by cases s <;> decide
  by_cases c : e = 2047
  · have := h c
    omega
  · omega
theorem zencd {d : FP.Core.Datum} (h : zfd d) : FP.Core.encode FP.Core.b64 d < 2 ^ 64 ∧ FP.Core.encode FP.Core.b64 d % 2 ^ 63 ≤ 2047 * 2 ^ 52 := by
  cases d with
  | nan => exact absurd h id
  | inf s =>
    have q := zasm s 2047 0 (Nat.le_refl _) (by decide) (fun _ => rfl)
    have e : FP.Core.encode FP.Core.b64 (.inf s) = FP.Core.assemble FP.Core.b64 s 2047 0 := rfl
    rw [e]
    omega
  | fin s c q =>
    obtain ⟨h1, h2⟩ := h
    have e : FP.Core.encode FP.Core.b64 (.fin s c q) = if c < 2 ^ 52 then FP.Core.assemble FP.Core.b64 s 0 c else FP.Core.assemble FP.Core.b64 s ((q - (-1074)).toNat + 1) (c - 2 ^ 52) := rfl
    rw [e]
    split
    · have q := zasm s 0 c (by omega) (by omega) (by omega)
      omega
    · have q := zasm s ((q - (-1074)).toNat + 1) (c - 2 ^ 52) (by omega) (by omega) (by omega)
      omega
theorem zsettle (s : Bool) (c : Nat) (q : Int) : zfd (FP.Core.settle FP.Core.b64 s c q) := by
  have e : FP.Core.settle FP.Core.b64 s c q = if c < 2 ^ 53 then (if q ≤ 971 then .fin s c q else .inf s) else (if q + 1 ≤ 971 then .fin s (2 ^ 52) (q + 1) else .inf s) := rfl
  rw [e]
  split
  · split
    · exact ⟨by assumption, by assumption⟩
    · trivial
  · split
    · exact ⟨by decide, by assumption⟩
    · trivial
theorem zround (s : Bool) (a b : Nat) (e : Int) : zfd (FP.Core.roundRatio FP.Core.b64 s a b e) := by
  unfold FP.Core.roundRatio
  split
  · exact ⟨by decide, by decide⟩
  · exact zsettle _ _ _
/-- what a double that a whole number became is -/
theorem zof {d : FP.Core.Datum} (h : zfd d) : (UInt64.ofNat (FP.Core.encode FP.Core.b64 d)).toNat = FP.Core.encode FP.Core.b64 d := by
  have := (zencd h).1
  rw [UInt64.toNat_ofNat_of_lt' (by simpa using this)]
theorem zn64 {d : FP.Core.Datum} (h : zfd d) : vf_n64 (UInt64.ofNat (FP.Core.encode FP.Core.b64 d)) := by
  have h2 := (zencd h).2
  unfold vf_n64
  rw [UInt64.le_iff_toNat_le, UInt64.toNat_and, zof h, show ((0x7fffffffffffffff : UInt64)).toNat = 2 ^ 63 - 1 from rfl, Nat.and_two_pow_sub_one_eq_mod]
  exact h2
/-- a positive whole number becomes a number other than zero, and no whole number a NaN -/
theorem zdec0 {n : Nat} (h1 : n < 2 ^ 64) (h2 : n % 2 ^ 63 ≤ 2047 * 2 ^ 52) : FP.Core.decode FP.Core.b64 n ≠ .nan := by
  have e : FP.Core.decode FP.Core.b64 n = if n / 2 ^ 52 % 2048 = 2047 then (if n % 2 ^ 52 = 0 then .inf (FP.Core.fieldS FP.Core.b64 n) else .nan) else if n / 2 ^ 52 % 2048 = 0 then .fin (FP.Core.fieldS FP.Core.b64 n) (n % 2 ^ 52) (-1074) else .fin (FP.Core.fieldS FP.Core.b64 n) (2 ^ 52 + n % 2 ^ 52) (-1074 + (((n / 2 ^ 52 % 2048 : Nat) : Int) - 1)) := rfl
  rw [e]
  split
  · split
    · exact fun h => FP.Core.Datum.noConfusion h
    · omega
  · split <;> exact fun h => FP.Core.Datum.noConfusion h
theorem zi2d0 (a : Int32) : FP.Core.decode FP.Core.b64 (FP.i2d a).toNat ≠ .nan := by
  have e : FP.i2d a = UInt64.ofNat (FP.Core.encode FP.Core.b64 (FP.Core.roundRatio FP.Core.b64 (decide (a.toInt < 0)) a.toInt.natAbs 1 0)) := rfl
  have h := zround (decide (a.toInt < 0)) a.toInt.natAbs 1 0
  rw [e, zof h]
  exact zdec0 (zencd h).1 (zencd h).2
theorem zi2d1 (b : Int32) (hb : b ≠ 0) : ∃ s c q, FP.Core.decode FP.Core.b64 (FP.i2d b).toNat = .fin s c q ∧ c ≠ 0 := by
  have hn : b.toInt.natAbs ≠ 0 := by
    intro h
    refine hb ?_
    have h0 : b.toInt = 0 := by omega
    exact Int32.toInt_inj.mp (by rw [h0]; rfl)
  have hlt : b.toInt.natAbs < 2 ^ 32 := by
    have h1 := Int32.toInt_lt b
    have h2 := Int32.le_toInt b
    omega
  obtain ⟨n, hnn⟩ : ∃ n, n = b.toInt.natAbs := ⟨_, rfl⟩
  obtain ⟨s, hs⟩ : ∃ s, s = decide (b.toInt < 0) := ⟨_, rfl⟩
  have e : FP.i2d b = UInt64.ofNat (FP.Core.encode FP.Core.b64 (FP.Core.roundRatio FP.Core.b64 s n 1 0)) := by subst hs hnn; rfl
  rw [← hnn] at hn hlt
  have h := zround s n 1 0
  rw [e, zof h]
  have hr : FP.Core.roundRatio FP.Core.b64 s n 1 0 = FP.Core.settle FP.Core.b64 s (FP.Core.nearest (FP.Core.unitsNum n 0 (FP.Core.quantum FP.Core.b64 n 1 0)) (FP.Core.unitsDen 1 0 (FP.Core.quantum FP.Core.b64 n 1 0))) (FP.Core.quantum FP.Core.b64 n 1 0) := if_neg hn
  have hl : n.log2 ≤ 31 := by
    have := (Nat.log2_lt hn).mpr hlt
    omega
  have hlead : FP.Core.leading n 1 ≤ 31 := by
    unfold FP.Core.leading
    have : Nat.log2 1 = 0 := by decide
    simp only [this]
    split <;> omega
  have hq : FP.Core.quantum FP.Core.b64 n 1 0 ≤ -21 := by
    have e9 : FP.Core.quantum FP.Core.b64 n 1 0 = max (-1074) (FP.Core.leading n 1 + 0 - ((53 : Int) - 1)) := rfl
    rw [e9]
    omega
  generalize FP.Core.quantum FP.Core.b64 n 1 0 = q at hq hr
  have hden : FP.Core.unitsDen 1 0 q = 1 := by
    unfold FP.Core.unitsDen
    have : (q - 0).toNat = 0 := by omega
    rw [this]
  have hnum : FP.Core.unitsNum n 0 q ≠ 0 := by
    unfold FP.Core.unitsNum
    exact Nat.mul_ne_zero hn (Nat.pos_iff_ne_zero.mp (Nat.pow_pos (by decide)))
  rw [hden] at hr
  have hne : ∀ m, FP.Core.nearest m 1 = m := by
    intro m
    unfold FP.Core.nearest
    rw [Nat.mod_one, if_pos (by decide), Nat.div_one]
  rw [hne] at hr
  generalize FP.Core.unitsNum n 0 q = m at hr hnum
  have hset : ∃ c q', FP.Core.roundRatio FP.Core.b64 s n 1 0 = .fin s c q' ∧ c ≠ 0 ∧ c < 2 ^ 53 ∧ q' ≤ 0 := by
    have e9 : FP.Core.settle FP.Core.b64 s m q = if m < 2 ^ 53 then (if q ≤ 971 then .fin s m q else .inf s) else (if q + 1 ≤ 971 then .fin s (2 ^ 52) (q + 1) else .inf s) := rfl
    rw [hr, e9]
    split
    · rw [if_pos (by omega)]
      exact ⟨m, q, rfl, hnum, by assumption, by omega⟩
    · rw [if_pos (by omega)]
      exact ⟨2 ^ 52, q + 1, rfl, by decide, by decide, by omega⟩
  obtain ⟨c, q', e2, hc, hc2, hq'⟩ := hset
  rw [e2]
  have e3 : FP.Core.encode FP.Core.b64 (.fin s c q') = if c < 2 ^ 52 then FP.Core.assemble FP.Core.b64 s 0 c else FP.Core.assemble FP.Core.b64 s ((q' - (-1074)).toNat + 1) (c - 2 ^ 52) := rfl
  have dec : ∀ n : Nat, FP.Core.decode FP.Core.b64 n = if n / 2 ^ 52 % 2048 = 2047 then (if n % 2 ^ 52 = 0 then .inf (FP.Core.fieldS FP.Core.b64 n) else .nan) else if n / 2 ^ 52 % 2048 = 0 then .fin (FP.Core.fieldS FP.Core.b64 n) (n % 2 ^ 52) (-1074) else .fin (FP.Core.fieldS FP.Core.b64 n) (2 ^ 52 + n % 2 ^ 52) (-1074 + (((n / 2 ^ 52 % 2048 : Nat) : Int) - 1)) := fun _ => rfl
  rw [e3]
  split
  · have q9 := zasm s 0 c (by omega) (by omega) (by omega)
    rw [dec, if_neg (by omega), if_pos (by omega)]
    exact ⟨_, _, _, rfl, by omega⟩
  · have q9 := zasm s ((q' - (-1074)).toNat + 1) (c - 2 ^ 52) (by omega) (by omega) (by omega)
    rw [dec, if_neg (by omega), if_neg (by omega)]
    exact ⟨_, _, _, rfl, by omega⟩
theorem zddiv (a b : Int32) (hb : b ≠ 0) : vf_n64 (FP.ddiv (FP.i2d a) (FP.i2d b)) := by
  obtain ⟨t, d, r, hd, hd0⟩ := zi2d1 b hb
  have ha := zi2d0 a
  have e : FP.ddiv (FP.i2d a) (FP.i2d b) = UInt64.ofNat (FP.Core.encode FP.Core.b64 (FP.Core.quotient FP.Core.b64 (FP.Core.decode FP.Core.b64 (FP.i2d a).toNat) (FP.Core.decode FP.Core.b64 (FP.i2d b).toNat))) := rfl
  rw [e, hd]
  refine zn64 ?_
  generalize FP.Core.decode FP.Core.b64 (FP.i2d a).toNat = x at ha
  cases x with
  | nan => exact absurd rfl ha
  | inf s => trivial
  | fin s c q =>
    have e2 : FP.Core.quotient FP.Core.b64 (.fin s c q) (.fin t d r) = if d = 0 then (if c = 0 then .nan else .inf (s != t)) else FP.Core.roundRatio FP.Core.b64 (s != t) c d (q - r) := rfl
    rw [e2, if_neg hd0]
    exact zround _ _ _ _
