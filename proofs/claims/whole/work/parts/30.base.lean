/-! THE STATE AS NUMBERS: a k is what stands at the place k of the reference's row (0 to 579); a place that may hold -1 holds its number less one -/
def sp (k : Nat) : Bool := (30 ≤ k && k < 54 && (k - 30) % 4 == 3) || (428 ≤ k && k < 578 && ((k - 428) % 5 == 2 || (k - 428) % 5 == 3))
def en (k n : Nat) : Int32 := if sp k = true then nI n - 1 else nI n
/-- the reference's row g holds a -/
def RM (g : Nat → Int32) (a : Nat → Nat) : Prop := ∀ k, k < 580 → g k = en k (a k)
def hal (a : Nat → Nat) (h k : Nat) : Nat := a (30 + 4 * h + k)
def flm (a : Nat → Nat) (f k : Nat) : Nat := a (54 + 8 * f + k)
def trl (a : Nat → Nat) (t k : Nat) : Nat := a (118 + 4 * t + k)
def shw (a : Nat → Nat) (s k : Nat) : Nat := a (158 + 9 * s + k)
def lin (a : Nat → Nat) (i k : Nat) : Nat := a (428 + 5 * i + k)
def mins (a : Nat → Nat) (s : Nat) : Nat := shw a s 5 + flm a (shw a s 1) 0
def endA (a : Nat → Nat) (s : Nat) : Nat := shw a s 3 + mins a s
def clnA (a : Nat → Nat) (s : Nat) : Nat := hal a (shw a s 0) 1
/-- what every state keeps to -/
def GdH (a : Nat → Nat) : Prop := ∀ h, h < a 1 → 1 ≤ hal a h 0 ∧ hal a h 0 ≤ 400 ∧ hal a h 1 ≤ 40 ∧ hal a h 2 ≤ 2 ∧ hal a h 3 ≤ 60
def GdF (a : Nat → Nat) : Prop := ∀ f, f < a 2 → 30 ≤ flm a f 0 ∧ flm a f 0 ≤ 240 ∧ flm a f 1 ≤ 3 ∧ 1 ≤ flm a f 2 ∧ flm a f 2 ≤ 63 ∧ 1 ≤ flm a f 3 ∧ flm a f 3 ≤ 3 ∧ flm a f 4 < 60 ∧ flm a f 5 ≤ 100 ∧ flm a f 6 ≤ 50 ∧ flm a f 7 ≤ flm a f 5
def GdT (a : Nat → Nat) : Prop := ∀ t, t < a 3 → trl a t 0 < a 2 ∧ 1 ≤ trl a t 1 ∧ trl a t 1 ≤ 6 ∧ trl a t 2 ≤ 3 ∧ 1 ≤ trl a t 3 ∧ trl a t 3 ≤ 63
def GdS (a : Nat → Nat) : Prop := ∀ s, s < a 4 → shw a s 0 < a 1 ∧ shw a s 1 < a 2 ∧ shw a s 2 < 60 ∧ flm a (shw a s 1) 4 ≤ shw a s 2 ∧ shw a s 3 < 960 ∧ shw a s 4 < 1024 ∧ shw a s 5 ≤ 24 ∧ 1 ≤ shw a s 6 ∧ shw a s 6 ≤ 99 ∧ shw a s 7 ≤ 400 ∧ shw a s 8 ≤ 2 ∧ endA a s ≤ 960
def GdC (a : Nat → Nat) : Prop := a 0 < 60 ∧ a 1 ≤ 6 ∧ a 2 ≤ 8 ∧ a 3 ≤ 10 ∧ a 4 ≤ 30 ∧ a 6 ≤ 30 ∧ a 7 ≤ 1 ∧ a 8 ≤ 30 ∧ (1 ≤ a 9 ∧ a 9 ≤ 3) ∧ a 10 ≤ 60 ∧ a 11 ≤ 20 ∧ a 12 ≤ 120 ∧ (1 ≤ a 13 ∧ a 13 ≤ 99) ∧ ∀ h, h < 16 → a (14 + h) ≤ 3
def Gd (a : Nat → Nat) : Prop := GdC a ∧ GdH a ∧ GdF a ∧ GdT a ∧ GdS a
theorem en_n {k n : Nat} (h : sp k = false) : en k n = nI n := by unfold en; rw [h]; rfl
theorem sp_lo {k : Nat} (h : k < 30) : sp k = false := by
  simp only [sp, Bool.or_eq_false_iff, Bool.and_eq_false_iff, decide_eq_false_iff_not]
  omega
theorem sp_mid {k : Nat} (h : 54 ≤ k) (h2 : k < 428) : sp k = false := by
  simp only [sp, Bool.or_eq_false_iff, Bool.and_eq_false_iff, decide_eq_false_iff_not]
  omega
theorem sp_hal {h k : Nat} (hh : h < 6) (hk : k < 3) : sp (30 + 4 * h + k) = false := by
  have e : (30 + 4 * h + k - 30) % 4 = k := by omega
  simp only [sp, e, Bool.or_eq_false_iff, Bool.and_eq_false_iff, decide_eq_false_iff_not, beq_eq_false_iff_ne]
  omega
theorem sp_clo {h : Nat} (hh : h < 6) : sp (30 + 4 * h + 3) = true := by
  match h, hh with
  | 0, _ => rfl
  | 1, _ => rfl
  | 2, _ => rfl
  | 3, _ => rfl
  | 4, _ => rfl
  | 5, _ => rfl
theorem RM.lo {g : Nat → Int32} {a : Nat → Nat} (h : RM g a) {k : Nat} (hk : k < 30) : g k = nI (a k) := by rw [h k (by omega), en_n (sp_lo hk)]
theorem RM.hal {g : Nat → Int32} {a : Nat → Nat} (h : RM g a) {x k : Nat} (hx : x < 6) (hk : k < 3) : g (30 + 4 * x + k) = nI (hal a x k) := by rw [h _ (by omega), en_n (sp_hal hx hk)]; rfl
theorem RM.clo {g : Nat → Int32} {a : Nat → Nat} (h : RM g a) {x : Nat} (hx : x < 6) : g (30 + 4 * x + 3) = nI (a (30 + 4 * x + 3)) - 1 := by
  rw [h _ (by omega)]
  unfold en
  rw [if_pos (sp_clo hx)]
theorem RM.flm {g : Nat → Int32} {a : Nat → Nat} (h : RM g a) {x k : Nat} (hx : x < 8) (hk : k < 8) : g (54 + 8 * x + k) = nI (flm a x k) := by rw [h _ (by omega), en_n (sp_mid (by omega) (by omega))]; rfl
theorem RM.trl {g : Nat → Int32} {a : Nat → Nat} (h : RM g a) {x k : Nat} (hx : x < 10) (hk : k < 4) : g (118 + 4 * x + k) = nI (trl a x k) := by rw [h _ (by omega), en_n (sp_mid (by omega) (by omega))]; rfl
theorem RM.shw {g : Nat → Int32} {a : Nat → Nat} (h : RM g a) {x k : Nat} (hx : x < 30) (hk : k < 9) : g (158 + 9 * x + k) = nI (shw a x k) := by rw [h _ (by omega), en_n (sp_mid (by omega) (by omega))]; rfl
-- the reference's reads
theorem m_hallAt (X : Nat → Nat → Int32) {h k : Nat} (hh : h < 6) (hk : k < 4) : f_X6_hallAt X (nI h) (nI k) = some (X 1 (30 + 4 * h + k)) := by
  unfold f_X6_hallAt
  rw [pk_mul, nI_add, nI_add, if_neg (nI_in (by omega) (by decide)), nI_clamp (by omega)]
theorem m_filmAt (X : Nat → Nat → Int32) {h k : Nat} (hh : h < 8) (hk : k < 8) : f_X6_filmAt X (nI h) (nI k) = some (X 1 (54 + 8 * h + k)) := by
  unfold f_X6_filmAt
  rw [pk_mul, nI_add, nI_add, if_neg (nI_in (by omega) (by decide)), nI_clamp (by omega)]
theorem m_trailerAt (X : Nat → Nat → Int32) {h k : Nat} (hh : h < 10) (hk : k < 4) : f_X6_trailerAt X (nI h) (nI k) = some (X 1 (118 + 4 * h + k)) := by
  unfold f_X6_trailerAt
  rw [pk_mul, nI_add, nI_add, if_neg (nI_in (by omega) (by decide)), nI_clamp (by omega)]
theorem m_showAt (X : Nat → Nat → Int32) {h k : Nat} (hh : h < 30) (hk : k < 9) : f_X6_showAt X (nI h) (nI k) = some (X 1 (158 + 9 * h + k)) := by
  unfold f_X6_showAt
  rw [pk_mul, nI_add, nI_add, if_neg (nI_in (by omega) (by decide)), nI_clamp (by omega)]
section MR
variable {X : Nat → Nat → Int32} {a : Nat → Nat}
theorem m_hal (hR : RM (X 1) a) {h k : Nat} (hh : h < 6) (hk : k < 3) : f_X6_hallAt X (nI h) (nI k) = some (nI (hal a h k)) := by rw [m_hallAt X hh (by omega), hR.hal hh hk]
theorem m_clo (hR : RM (X 1) a) {h : Nat} (hh : h < 6) : f_X6_hallAt X (nI h) (nI 3) = some (nI (hal a h 3) - 1) := by rw [m_hallAt X hh (by omega), hR.clo hh]; rfl
theorem m_flm (hR : RM (X 1) a) {h k : Nat} (hh : h < 8) (hk : k < 8) : f_X6_filmAt X (nI h) (nI k) = some (nI (flm a h k)) := by rw [m_filmAt X hh hk, hR.flm hh hk]
theorem m_trl (hR : RM (X 1) a) {h k : Nat} (hh : h < 10) (hk : k < 4) : f_X6_trailerAt X (nI h) (nI k) = some (nI (trl a h k)) := by rw [m_trailerAt X hh hk, hR.trl hh hk]
theorem m_shw (hR : RM (X 1) a) {h k : Nat} (hh : h < 30) (hk : k < 9) : f_X6_showAt X (nI h) (nI k) = some (nI (shw a h k)) := by rw [m_showAt X hh hk, hR.shw hh hk]
theorem m_minutesOf (hR : RM (X 1) a) (hG : Gd a) {s : Nat} (hs : s < a 4) : f_X6_minutesOf X (nI s) = some (nI (mins a s)) := by
  have h30 : s < 30 := by have := hG.1; unfold GdC at this; omega
  have hS := hG.2.2.2.2 s hs
  have hf : shw a s 1 < 8 := by have := hG.1; unfold GdC at this; omega
  unfold f_X6_minutesOf
  rw [m_shw hR h30 (by decide), m_shw hR h30 (by decide)]
  simp only [Option.bind_some]
  rw [m_flm hR hf (by decide)]
  simp only [Option.bind_some, nI_add]
  rfl
theorem m_endOf (hR : RM (X 1) a) (hG : Gd a) {s : Nat} (hs : s < a 4) : f_X6_endOf X (nI s) = some (nI (endA a s)) := by
  have h30 : s < 30 := by have := hG.1; unfold GdC at this; omega
  unfold f_X6_endOf
  rw [m_shw hR h30 (by decide), m_minutesOf hR hG hs]
  simp only [Option.bind_some, nI_add]
  rfl
theorem m_cleanOf (hR : RM (X 1) a) (hG : Gd a) {s : Nat} (hs : s < a 4) : f_X6_cleanOf X (nI s) = some (nI (clnA a s)) := by
  have h30 : s < 30 := by have := hG.1; unfold GdC at this; omega
  have hS := hG.2.2.2.2 s hs
  have hf : shw a s 0 < 6 := by have := hG.1; unfold GdC at this; omega
  unfold f_X6_cleanOf
  rw [m_shw hR h30 (by decide)]
  simp only [Option.bind_some]
  rw [m_hal hR hf (by decide)]
  rfl
end MR
