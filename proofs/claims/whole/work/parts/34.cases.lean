/-! the looks at arguments, on both sides at once -/
theorem in_cases (x : Int32) {lo hi : Nat} (hh : hi < 2 ^ 30) (hl : lo < 2 ^ 30) :
    (f_X6_in x (nI lo) (nI hi) = nI 0 ∧ f_X5_isWithin x (nI lo) (nI hi) = nI 0 ∧ ¬ ∃ n, lo ≤ n ∧ n ≤ hi ∧ x = nI n) ∨ (f_X6_in x (nI lo) (nI hi) = nI 1 ∧ f_X5_isWithin x (nI lo) (nI hi) = nI 1 ∧ ∃ n, lo ≤ n ∧ n ≤ hi ∧ x = nI n) := by
  unfold f_X6_in f_X5_isWithin
  by_cases h1 : x < nI lo
  · rw [if_pos h1]
    refine Or.inl ⟨rfl, rfl, ?_⟩
    rintro ⟨n, h2, h3, rfl⟩
    rw [nI_ltI (by omega) (by omega)] at h1
    omega
  · rw [if_neg h1]
    by_cases h2 : nI hi < x
    · rw [if_pos h2]
      refine Or.inl ⟨rfl, rfl, ?_⟩
      rintro ⟨n, h3, h4, rfl⟩
      rw [nI_ltI (by omega) (by omega)] at h2
      omega
    · rw [if_neg h2]
      refine Or.inr ⟨rfl, rfl, ?_⟩
      rw [Int32.lt_iff_toInt_lt, nI_toInt (by omega)] at h1 h2
      obtain ⟨n, hn, rfl⟩ := nI_of (x := x) (by rw [Int32.lt_iff_toInt_lt, Int32.toInt_zero]; omega)
      rw [nI_toInt hn] at h1 h2
      exact ⟨n, by omega, by omega, rfl⟩
theorem row_cases {X : Nat → Nat → Int32} {r n c : Nat} (hc : X r 3 = nI c) (hb : c < 2 ^ 30) (x : Int32) :
    (f_X4_isRow X r n x = nI 0 ∧ f_X6_in x (nI 0) (nI c - nI 1) = nI 0 ∧ ¬ ∃ k, k < c ∧ x = nI k) ∨ (f_X4_isRow X r n x = nI 1 ∧ f_X6_in x (nI 0) (nI c - nI 1) = nI 1 ∧ ∃ k, k < c ∧ x = nI k) := by
  have e : (nI c - nI 1).toInt = (c : Int) - 1 := pk_sub_toInt hb (by decide)
  rcases c_isRow (n := n) hc (by omega) x with ⟨h1, h2⟩ | ⟨h1, k, hk, rfl⟩
  · refine Or.inl ⟨h1, ?_, ?_⟩
    · unfold f_X6_in
      by_cases h3 : x < nI 0
      · rw [if_pos h3]
      · rw [if_neg h3]
        rcases h2 with h2 | h2
        · rw [nI_0] at h3; exact absurd h2 h3
        · rw [if_pos (by rw [Int32.le_iff_toInt_le, nI_toInt (by omega)] at h2; rw [Int32.lt_iff_toInt_lt, e]; omega)]
    · rintro ⟨k, hk, rfl⟩
      rcases h2 with h2 | h2
      · exact nI_pos (by omega) h2
      · rw [nI_leI (by omega) (by omega)] at h2; omega
  · refine Or.inr ⟨h1, ?_, k, hk, rfl⟩
    unfold f_X6_in
    rw [if_neg (by rw [nI_0]; exact nI_pos (by omega)), if_neg (by rw [Int32.lt_iff_toInt_lt, e, nI_toInt (by omega)]; omega)]
theorem nI_10 : ¬ nI 1 = 0 := by decide
section OC
variable {X Y : Nat → Nat → Int32} {a : Nat → Nat}
theorem hall_cases (h : zRB X 1 a) (hR : RM (Y 1) a) (hG : Gd a) (x : Int32) : (f_X4_isRow X 2 24 x = nI 0 ∧ f_X6_isHall Y x = nI 0) ∨ (f_X4_isRow X 2 24 x = nI 1 ∧ f_X6_isHall Y x = nI 1 ∧ ∃ k, k < a 1 ∧ x = nI k) := by
  have e : f_X6_isHall Y x = f_X6_in x (nI 0) (nI (a 1) - nI 1) := by
    unfold f_X6_isHall
    rw [show Y 1 (nI 1).toNatClampNeg = nI (a 1) from hR.lo (by decide)]
  rw [e]
  have := hG.c1
  rcases row_cases (n := 24) (n_nH h) (by omega) x with ⟨h1, h2, -⟩ | h1
  · exact Or.inl ⟨h1, h2⟩
  · exact Or.inr h1
theorem film_cases (h : zRB X 1 a) (hR : RM (Y 1) a) (hG : Gd a) (x : Int32) : (f_X4_isRow X 4 96 x = nI 0 ∧ f_X6_isFilm Y x = nI 0) ∨ (f_X4_isRow X 4 96 x = nI 1 ∧ f_X6_isFilm Y x = nI 1 ∧ ∃ k, k < a 2 ∧ x = nI k) := by
  have e : f_X6_isFilm Y x = f_X6_in x (nI 0) (nI (a 2) - nI 1) := by
    unfold f_X6_isFilm
    rw [show Y 1 (nI 2).toNatClampNeg = nI (a 2) from hR.lo (by decide)]
  rw [e]
  have := hG.c2
  rcases row_cases (n := 96) (n_nF h) (by omega) x with ⟨h1, h2, -⟩ | h1
  · exact Or.inl ⟨h1, h2⟩
  · exact Or.inr h1
theorem show_cases (h : zRB X 1 a) (hR : RM (Y 1) a) (hG : Gd a) (x : Int32) : (f_X4_isRow X 8 360 x = nI 0 ∧ f_X6_isShow Y x = nI 0) ∨ (f_X4_isRow X 8 360 x = nI 1 ∧ f_X6_isShow Y x = nI 1 ∧ ∃ k, k < a 4 ∧ x = nI k) := by
  have e : f_X6_isShow Y x = f_X6_in x (nI 0) (nI (a 4) - nI 1) := by
    unfold f_X6_isShow
    rw [show Y 1 (nI 4).toNatClampNeg = nI (a 4) from hR.lo (by decide)]
  rw [e]
  have := hG.c4
  rcases row_cases (n := 360) (n_nS h) (by omega) x with ⟨h1, h2, -⟩ | h1
  · exact Or.inl ⟨h1, h2⟩
  · exact Or.inr h1
theorem trailer_cases (h : zRB X 1 a) (hR : RM (Y 1) a) (hG : Gd a) (x : Int32) : (f_X4_isRow X 6 40 x = nI 0 ∧ f_X6_in x (nI 0) ((Y 1 (nI 3).toNatClampNeg) - (nI 1)) = nI 0) ∨ (f_X4_isRow X 6 40 x = nI 1 ∧ f_X6_in x (nI 0) ((Y 1 (nI 3).toNatClampNeg) - (nI 1)) = nI 1 ∧ ∃ k, k < a 3 ∧ x = nI k) := by
  rw [show Y 1 (nI 3).toNatClampNeg = nI (a 3) from hR.lo (by decide)]
  have := hG.c3
  rcases row_cases (n := 40) (n_nT h) (by omega) x with ⟨h1, h2, -⟩ | h1
  · exact Or.inl ⟨h1, h2⟩
  · exact Or.inr h1
theorem day_cases (x : Int32) : (f_X5_isDay x = nI 0 ∧ f_X6_isDay x = nI 0) ∨ (f_X5_isDay x = nI 1 ∧ f_X6_isDay x = nI 1 ∧ ∃ k, k < 60 ∧ x = nI k) := by
  rcases in_cases x (lo := 0) (hi := 59) (by decide) (by decide) with ⟨h1, h2, -⟩ | ⟨h1, h2, n, -, h3, h4⟩
  · exact Or.inl ⟨h2, h1⟩
  · exact Or.inr ⟨h2, h1, n, by omega, h4⟩
theorem minute_cases (x : Int32) : (f_X5_isMinute x = nI 0 ∧ f_X6_in x (nI 0) (nI 959) = nI 0) ∨ (f_X5_isMinute x = nI 1 ∧ f_X6_in x (nI 0) (nI 959) = nI 1 ∧ ∃ k, k < 960 ∧ x = nI k) := by
  rcases in_cases x (lo := 0) (hi := 959) (by decide) (by decide) with ⟨h1, h2, -⟩ | ⟨h1, h2, n, -, h3, h4⟩
  · exact Or.inl ⟨h2, h1⟩
  · exact Or.inr ⟨h2, h1, n, by omega, h4⟩
theorem m_fails (Y : Nat → Nat → Int32) (k : Nat) : f_X6_fails Y (nI k) = (nI 0, zU Y 0 0 (nI k)) := rfl
theorem m_done (Y : Nat → Nat → Int32) (v : Int32) : f_X6_done Y v = (v, zU Y 0 0 (nI 0)) := rfl
/-- what a reading call must do on both sides: the class leaves its memory, the reference sets 'thrown' alone; K: which number the law's handlers give to the class's exceptions -/
def zSimR (X Y : Nat → Nat → Int32) (K : Nat → Nat) (f : Option (Nat × Int32 × (Nat → Nat → Int32))) (g : Option (Int32 × (Nat → Nat → Int32))) : Prop :=
  ∃ (c : Nat) (v b : Int32), f = some (c, v, X) ∧ g = some (b, zU Y 0 0 (nI (K c))) ∧ (c = 0 → v = b)
theorem zSimR.mk {X Y : Nat → Nat → Int32} {K : Nat → Nat} {f : Option (Nat × Int32 × (Nat → Nat → Int32))} {g : Option (Int32 × (Nat → Nat → Int32))} (c : Nat) (v b : Int32) (hf : f = some (c, v, X)) (hg : g = some (b, zU Y 0 0 (nI (K c)))) (h : c = 0 → v = b) : zSimR X Y K f g := ⟨c, v, b, hf, hg, h⟩
end OC
/-- the handlers' numbers: first and second catch, by the exceptions' numbers -/
def K31 (c : Nat) : Nat := match c with
  | 0 => 0
  | 3 => 1
  | _ => 2
