/-! shares, receipts, parts; sums over shows, on both sides -/
def rcp (a : Nat → Nat) (s : Nat) : Nat := shw a s 7 * shw a s 6
def shrA (a : Nat → Nat) (f d : Nat) : Nat := if flm a f 7 + flm a f 6 * ((d - flm a f 4) / 7) ≤ flm a f 5 then flm a f 5 - flm a f 6 * ((d - flm a f 4) / 7) else flm a f 7
def prt (a : Nat → Nat) (s : Nat) : Nat := rcp a s * shrA a (shw a s 1) (shw a s 2) / 100
def meas (a : Nat → Nat) (m s : Nat) : Nat := match m with
  | 0 => 1
  | 1 => mins a s
  | 2 => shw a s 7
  | 3 => rcp a s
  | 4 => prt a s
  | _ => hal a (shw a s 0) 0
def zsm (f : Nat → Nat) : Nat → Nat → Nat
  | _, 0 => 0
  | s, m + 1 => f s + zsm f (s + 1) m
theorem zsm_cong {f g : Nat → Nat} : ∀ (m s : Nat), (∀ k, s ≤ k → k < s + m → f k = g k) → zsm f s m = zsm g s m
  | 0, _, _ => rfl
  | m + 1, s, h => by
    rw [zsm, zsm, h s (Nat.le_refl s) (by omega), zsm_cong m (s + 1) (fun k h1 h2 => h k (by omega) (by omega))]
theorem pk_sub_lt {x y z : Nat} (hx : x < 2 ^ 30) (hy : y < 2 ^ 30) (hz : z < 2 ^ 30) : nI x - nI y < nI z ↔ x < z + y := by
  rw [Int32.lt_iff_toInt_lt, pk_sub_toInt hx hy, nI_toInt (by omega)]
  omega
theorem pk_le_sub {x y z : Nat} (hx : x < 2 ^ 30) (hy : y < 2 ^ 30) (hz : z < 2 ^ 30) : nI z ≤ nI x - nI y ↔ z + y ≤ x := by
  rw [Int32.le_iff_toInt_le, pk_sub_toInt hx hy, nI_toInt (by omega)]
  omega
theorem sw_lt {a : Nat → Nat} (hG : Gd a) {f : Nat} (hf : f < a 2) (d : Nat) (hd : d < 60) : flm a f 6 * ((d - flm a f 4) / 7) < 2 ^ 30 := by
  have h := hG.2.2.1 f hf
  have h1 : (d - flm a f 4) / 7 ≤ 8 := by omega
  have h2 : flm a f 6 * ((d - flm a f 4) / 7) ≤ 50 * 8 := Nat.mul_le_mul (by omega) h1
  omega
theorem shr_le {a : Nat → Nat} (hG : Gd a) {f : Nat} (hf : f < a 2) (d : Nat) : shrA a f d ≤ 100 := by
  have h := hG.2.2.1 f hf
  unfold shrA
  split <;> omega
section SU
variable {X : Nat → Nat → Int32} {a : Nat → Nat}
theorem n_shareOn (h : zRB X 1 a) (hG : Gd a) {f d : Nat} (hf : f < a 2) (hd : d < 60) (hr : flm a f 4 ≤ d) : f_X3_shareOn X (nI f) (nI d) = nI (shrA a f d) := by
  have hF := hG.2.2.1 f hf
  have hs := sw_lt hG hf d hd
  unfold f_X3_shareOn
  rw [n_flm9 h hG hf, n_flm10 h hG hf, n_flm11 h hG hf, n_flm h hG hf (by decide), pk_sub hr, pk_div (by omega) (by decide) (by decide), pk_mul]
  unfold shrA
  by_cases hc : flm a f 7 + flm a f 6 * ((d - flm a f 4) / 7) ≤ flm a f 5
  · rw [if_neg (fun q => by rw [pk_sub_lt (by omega) hs (by omega)] at q; omega), if_pos hc, pk_sub (by omega)]
  · rw [if_pos ((pk_sub_lt (by omega) hs (by omega)).mpr (by omega)), if_neg hc]
theorem m_shareOn (hR : RM (X 1) a) (hG : Gd a) {f d : Nat} (hf : f < a 2) (hd : d < 60) (hr : flm a f 4 ≤ d) : f_X6_shareOn X (nI f) (nI d) = some (nI (shrA a f d)) := by
  have hF := hG.2.2.1 f hf
  have hs := sw_lt hG hf d hd
  have h8 : f < 8 := by have := hG.c2; omega
  unfold f_X6_shareOn
  rw [m_flm hR h8 (by decide), m_flm hR h8 (by decide), m_flm hR h8 (by decide), m_flm hR h8 (by decide)]
  simp only [Option.bind_some]
  rw [pk_sub hr, pk_div (by omega) (by decide) (by decide), pk_mul]
  unfold shrA
  by_cases hc : flm a f 7 + flm a f 6 * ((d - flm a f 4) / 7) ≤ flm a f 5
  · rw [if_pos ((pk_le_sub (by omega) hs (by omega)).mpr hc), if_pos hc, pk_sub (by omega)]
  · rw [if_neg (fun q => hc ((pk_le_sub (by omega) hs (by omega)).mp q)), if_neg hc]
theorem n_receiptsOf (h : zRB X 1 a) (hG : Gd a) {x : Nat} (hx : x < a 4) : f_X3_receiptsOf X (nI x) = nI (rcp a x) := by
  unfold f_X3_receiptsOf
  rw [n_tic h hG hx, n_pri h hG hx, pk_mul]
  rfl
theorem rcp_le (hG : Gd a) {x : Nat} (hx : x < a 4) : rcp a x ≤ 400 * 99 := by
  have h := hG.2.2.2.2 x hx
  exact Nat.mul_le_mul (by omega) (by omega)
theorem rs_lt (hG : Gd a) {x : Nat} (hx : x < a 4) : rcp a x * shrA a (shw a x 1) (shw a x 2) < 2 ^ 31 := by
  have h := Nat.mul_le_mul (rcp_le hG hx) (shr_le hG (hG.s1 hx) (shw a x 2))
  omega
theorem n_partOf (h : zRB X 1 a) (hG : Gd a) {x : Nat} (hx : x < a 4) : f_X3_partOf X (nI x) = nI (prt a x) := by
  have hS := hG.2.2.2.2 x hx
  unfold f_X3_partOf
  rw [n_receiptsOf h hG hx, n_shw h hG hx (by decide), n_shw h hG hx (by decide), n_shareOn h hG (hG.s1 hx) hS.2.2.1 hS.2.2.2.1, pk_mul, pk_div (rs_lt hG hx) (by decide) (by decide)]
  rfl
theorem n_measureOf (h : zRB X 1 a) (hG : Gd a) {x : Nat} (hx : x < a 4) {m : Nat} (hm : m < 6) : f_X3_measureOf X (nI x) (nI m) = nI (meas a m x) := by
  unfold f_X3_measureOf
  match m, hm with
  | 0, _ => rw [if_pos rfl]; rfl
  | 1, _ => rw [if_neg (by decide), if_pos rfl]; exact n_minutesOf h hG hx
  | 2, _ => rw [if_neg (by decide), if_neg (by decide), if_pos rfl]; exact n_tic h hG hx
  | 3, _ => rw [if_neg (by decide), if_neg (by decide), if_neg (by decide), if_pos rfl]; exact n_receiptsOf h hG hx
  | 4, _ => rw [if_neg (by decide), if_neg (by decide), if_neg (by decide), if_neg (by decide), if_pos rfl]; exact n_partOf h hG hx
  | 5, _ => rw [if_neg (by decide), if_neg (by decide), if_neg (by decide), if_neg (by decide), if_neg (by decide)]; exact n_seatsOf h hG hx
theorem n_isCancelled (h : zRB X 1 a) (hG : Gd a) {x : Nat} (hx : x < a 4) : f_X3_isCancelled X (nI x) = if shw a x 8 = 0 then nI 0 else nI 1 := by
  have hS := hG.2.2.2.2 x hx
  unfold f_X3_isCancelled
  rw [n_can h hG hx]
  by_cases h8 : shw a x 8 = 0
  · rw [if_pos h8, if_pos h8, if_pos nI_0]
  · rw [if_neg h8, if_neg h8, if_neg (by decide)]
/-- the sum of a measure over the shows that stand, of those with P -/
def tot (a : Nat → Nat) (m : Nat) (P : Nat → Bool) : Nat := zsm (fun s => if P s = true ∧ shw a s 8 = 0 then meas a m s else 0) 0 (a 4)
theorem fu_s {m fu : Nat} (h : m < fu) : ∃ f, fu = f + 1 ∧ ∀ k, k + 1 = m → k < f := ⟨fu - 1, by omega, fun k hk => by omega⟩
theorem n_size {X : Nat → Nat → Int32} {r n c : Nat} (h : X r 3 = nI c) : f_X4_size X r n = nI c := h
theorem n_total_all (h : zRB X 1 a) (hG : Gd a) {m : Nat} (hm : m < 6) (v3 : Int32) : f_X3_total X (nI m) (-1) v3 = some (nI (tot a m (fun _ => true))) := by
  have key : ∀ (n s acc fu : Nat), s + n = a 4 → n < fu → f_X3_total_L6 X (nI m) (-1) v3 fu (nI acc) (nI s) = some (nI (acc + zsm (fun s => if (fun _ => true) s = true ∧ shw a s 8 = 0 then meas a m s else 0) s n)) := by
    intro n
    induction n with
    | zero =>
      intro s acc fu hs hf
      obtain ⟨f, rfl, -⟩ := fu_s hf
      rw [f_X3_total_L6, n_size (n_nS h), if_pos (nI_le (by omega) (by have := hG.c4; omega))]
      rfl
    | succ n ih =>
      intro s acc fu hs hf
      obtain ⟨f, rfl, hf2⟩ := fu_s hf
      have hx : s < a 4 := by omega
      have h4 := hG.c4
      rw [f_X3_total_L6, n_size (n_nS h), if_neg (nI_ge hx (by omega)), if_pos rfl, n_isCancelled h hG hx, n_measureOf h hG hx hm, nI_add, nI_1, zsm]
      by_cases h8 : shw a s 8 = 0
      · rw [if_pos h8, if_pos nI_0, ih (s + 1) _ f (by omega) (hf2 n rfl), if_pos ⟨rfl, h8⟩, Nat.add_assoc]
      · rw [if_neg h8, if_neg (by decide), ih (s + 1) _ f (by omega) (hf2 n rfl), if_neg (fun q => h8 q.2), Nat.zero_add]
  have h1 := key (a 4) 0 0 zFuel (Nat.zero_add _) (by have := hG.c4; show a 4 < 5000; omega)
  rw [Nat.zero_add] at h1
  exact h1
theorem n_total_col (h : zRB X 1 a) (hG : Gd a) {m c j : Nat} (hm : m < 6) (hc : c < 4) (hj : j < 2 ^ 31) : f_X3_total X (nI m) (nI c) (nI j) = some (nI (tot a m (fun s => decide (shw a s c = j)))) := by
  have hne : ¬ nI c = -1 := by
    match c, hc with
    | 0, _ => decide
    | 1, _ => decide
    | 2, _ => decide
    | 3, _ => decide
  have key : ∀ (n s acc fu : Nat), s + n = a 4 → n < fu → f_X3_total_L6 X (nI m) (nI c) (nI j) fu (nI acc) (nI s) = some (nI (acc + zsm (fun s => if decide (shw a s c = j) = true ∧ shw a s 8 = 0 then meas a m s else 0) s n)) := by
    intro n
    induction n with
    | zero =>
      intro s acc fu hs hf
      obtain ⟨f, rfl, -⟩ := fu_s hf
      rw [f_X3_total_L6, n_size (n_nS h), if_pos (nI_le (by omega) (by have := hG.c4; omega))]
      rfl
    | succ n ih =>
      intro s acc fu hs hf
      obtain ⟨f, rfl, hf2⟩ := fu_s hf
      have hx : s < a 4 := by omega
      have h4 := hG.c4
      have hS := hG.2.2.2.2 s hx
      have h1 := hG.c1
      have h2 := hG.c2
      have hb : shw a s c < 2 ^ 31 := by
        match c, hc with
        | 0, _ => omega
        | 1, _ => omega
        | 2, _ => omega
        | 3, _ => omega
      rw [f_X3_total_L6, n_size (n_nS h), if_neg (nI_ge hx (by omega)), if_neg hne, n_isCancelled h hG hx, n_measureOf h hG hx hm, n_shw h hG hx hc, nI_add, nI_1, zsm]
      by_cases hcj : shw a s c = j
      · rw [if_pos (by rw [hcj])]
        by_cases h8 : shw a s 8 = 0
        · rw [if_pos h8, if_pos nI_0, ih (s + 1) _ f (by omega) (hf2 n rfl), if_pos ⟨decide_eq_true hcj, h8⟩, Nat.add_assoc]
        · rw [if_neg h8, if_neg (by decide), ih (s + 1) _ f (by omega) (hf2 n rfl), if_neg (fun q => h8 q.2), Nat.zero_add]
      · rw [if_neg (fun q => hcj ((nI_eq hb hj).mp q)), ih (s + 1) _ f (by omega) (hf2 n rfl), if_neg (fun q => hcj (of_decide_eq_true q.1)), Nat.zero_add]
  have h1 := key (a 4) 0 0 zFuel (Nat.zero_add _) (by have := hG.c4; show a 4 < 5000; omega)
  rw [Nat.zero_add] at h1
  exact h1
end SU
