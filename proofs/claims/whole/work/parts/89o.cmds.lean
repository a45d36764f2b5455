/-! perform: the commands of a text, read on both sides -/
def nnN (w : Nat) : Nat := [4, 2, 1, 2, 1].getD w 0
theorem nn_w {w : Nat} (hw : w < 5) : zNum (nI w) = nI (nnN w) ∧ f_X6_numbersOf (nI w) = nI (nnN w) ∧ 1 ≤ nnN w ∧ nnN w ≤ 4 := by
  have : ∀ w, w < 5 → zNum (nI w) = nI (nnN w) ∧ f_X6_numbersOf (nI w) = nI (nnN w) ∧ 1 ≤ nnN w ∧ nnN w ≤ 4 := by decide +kernel
  exact this w hw
/-- a command that was read: word and numbers are the same on both sides -/
def RW (X Y : Nat → Nat → Int32) (i : Nat) : Prop := ∃ w, w < 5 ∧ X 151 (5 * i) = nI w ∧ Y 7 (5 * i) = nI w ∧ ∀ j, j < nnN w → X 151 (5 * i + 1 + j) = Y 7 (5 * i + 1 + j)
theorem n_putr {X : Nat → Nat → Int32} {n c : Nat} (h5 : X 150 1 = nI 5) (hc : c ≤ 4) {row : Int32} (hr : (row = nI n ∧ n < 8) ∨ (row = -1 ∧ n = 8)) (v : Int32) :
    (∀ r, r ≠ 151 → f_X4_put X 150 40 row (nI c) v r = X r) ∧ (∀ j, j ≠ 5 * n + c → f_X4_put X 150 40 row (nI c) v 151 j = X 151 j) ∧ (n < 8 → f_X4_put X 150 40 row (nI c) v 151 (5 * n + c) = v) := by
  rcases hr with ⟨rfl, hn⟩ | ⟨rfl, hn⟩
  · rw [n_put h5 (by decide) (show n * 5 + c < 40 by omega), show n * 5 + c = 5 * n + c by omega]
    exact ⟨fun r hr => zU_r _ _ _ _ hr, fun j hj => zU_k _ _ _ _ hj, fun _ => zU_s _ _ _ _⟩
  · have e : f_X4_put X 150 40 (-1) (nI c) v = X := by
      have : ∀ c, c ≤ 4 → (-1 : Int32) * nI 5 + nI c < 0 := by decide
      unfold f_X4_put
      rw [h5, if_pos (this c hc)]
    rw [e]
    exact ⟨fun _ _ => rfl, fun _ _ => rfl, fun q => by omega⟩
theorem n_addr {X : Nat → Nat → Int32} {n : Nat} (h5 : X 150 1 = nI 5) (h8 : X 150 2 = nI 8) (hn : X 150 3 = nI n) (n8 : n ≤ 8) :
    ∃ row Z, f_X4_addRow X 150 40 = some (row, Z) ∧ ((row = nI n ∧ n < 8) ∨ (row = -1 ∧ n = 8)) ∧ (∀ r, r ≠ 150 → r ≠ 151 → Z r = X r) ∧ (∀ j, j ≠ 3 → Z 150 j = X 150 j) ∧ (∀ j, j < 5 * n → Z 151 j = X 151 j) ∧ (n < 8 → Z 150 3 = nI (n + 1)) := by
  by_cases c : n < 8
  · refine ⟨nI n, _, n_addRow h5 h8 hn c (by decide) (by omega) (by decide), Or.inl ⟨rfl, c⟩, fun r q1 q2 => ?_, fun j hj => ?_, fun j hj => ?_, fun _ => zU_s _ _ _ _⟩
    · rw [zU_r _ _ _ _ q1, zR_n _ _ q2]
    · rw [zU_k _ _ _ _ hj, zR_n _ _ (by decide)]
    · rw [zU_r _ _ _ _ (by decide), zR_s]
      exact if_neg (by omega)
  · have e : n = 8 := by omega
    subst e
    refine ⟨-1, X, ?_, Or.inr ⟨rfl, rfl⟩, fun _ _ _ => rfl, fun _ _ => rfl, fun _ _ => rfl, fun q => absurd q c⟩
    unfold f_X4_addRow
    rw [hn, h8, if_neg (by decide)]
section CM
variable {t : Nat → Nat} {k : Nat} {f : Nat → Int32}
theorem n_sign (hL : sb_Lat t k f) (hk : k ≤ 60) (ht : ∀ j, j < k → t j < 256) {X : Nat → Nat → Int32} {p : Nat} (hp : X 149 1 = nI p) (hp2 : p ≤ 60) (c : Int32) : f_X1_isSignRead k f X c = if chA t k p = c then (nI 1, zU X 149 1 (nI (p + 1))) else (nI 0, X) := by
  unfold f_X1_isSignRead
  rw [hp, n_signAt hL hk ht (by omega), zlet_eq, nI_add]
theorem l28_end {v1 v2 : Int32} {fu : Nat} {Z : Nat → Nat → Int32} {v3 : Int32} (h : Z 0 25 = nI 1) : f_X6_readsCommand_L28 v1 v2 (fu + 1) Z v3 = some Z := by
  rw [f_X6_readsCommand_L28, h, if_neg nI_10]
theorem r_numbers (hL : sb_Lat t k f) {n N w : Nat} (n8 : n ≤ 8) (hN : N ≤ 4) (hnw : f_X6_numbersOf (nI w) = nI N) {row : Int32} (hr : (row = nI n ∧ n < 8) ∨ (row = -1 ∧ n = 8)) :
    ∀ (m c fa fb : Nat) (X Y : Nat → Nat → Int32) (p : Nat), c + m = N → m < fa → m < fb → X 149 1 = nI p → Y 0 24 = nI p → p ≤ k → zTIn t k Y → Y 0 25 = nI 0 → X 150 1 = nI 5 →
    ∃ X' Y' p' b, f_X1_isCommandRead_L57 k f row (nI N) fa X (nI c) = some (nI b, X') ∧ f_X6_readsCommand_L28 (nI (5 * n)) (nI w) fb Y (nI c) = some Y' ∧ X' 149 1 = nI p' ∧ Y' 0 24 = nI p' ∧ p' ≤ k ∧ ((b = 1 ∧ Y' 0 25 = nI 0 ∧ p + 2 * m ≤ p') ∨ (b = 0 ∧ Y' 0 25 = nI 1)) ∧
      (∀ r, r ≠ 149 → r ≠ 151 → X' r = X r) ∧ (∀ r, r ≠ 0 → r ≠ 7 → Y' r = Y r) ∧ (∀ j, j ≠ 24 → j ≠ 25 → Y' 0 j = Y 0 j) ∧ (∀ j, j < 5 * n + 1 + c → X' 151 j = X 151 j) ∧ (∀ j, j < 5 * n + 1 + c → Y' 7 j = Y 7 j) ∧
      (b = 1 → n < 8 → ∀ i, c ≤ i → i < N → X' 151 (5 * n + 1 + i) = Y' 7 (5 * n + 1 + i)) := by
  intro m
  induction m with
  | zero =>
    intro c fa fb X Y p hc hfa hfb hX hY hpk hT h25 h5
    obtain ⟨fa', rfl, -⟩ := fu_s hfa
    obtain ⟨fb', rfl, -⟩ := fu_s hfb
    refine ⟨X, Y, p, 1, ?_, ?_, hX, hY, hpk, Or.inl ⟨rfl, h25, Nat.le_refl _⟩, fun _ _ _ => rfl, fun _ _ _ => rfl, fun _ _ _ => rfl, fun _ _ => rfl, fun _ _ => rfl, fun _ _ i q1 q2 => by omega⟩
    · rw [f_X1_isCommandRead_L57, if_pos (nI_le (by omega) (by omega))]
    · rw [f_X6_readsCommand_L28, h25, if_pos nI_0, hnw, if_pos (nI_le (by omega) (by omega))]
  | succ m ih =>
    intro c fa fb X Y p hc hfa hfb hX hY hpk hT h25 h5
    obtain ⟨fa', rfl, hfa2⟩ := fu_s hfa
    obtain ⟨fb', rfl, hfb2⟩ := fu_s hfb
    have hk := hT.1
    have ht : ∀ j, j < k → t j < 256 := fun j hj => (hT.2.2 j hj).1
    have hcN : c < N := by omega
    have ix : ¬ (nI (5 * n + 1 + c) < 0 ∨ 300 ≤ (nI (5 * n + 1 + c)).toNatClampNeg) := nI_in (by omega) (by decide)
    obtain ⟨fb'', rfl, -⟩ := fu_s (hfb2 m rfl)
    rw [f_X1_isCommandRead_L57, if_neg (nI_ge hcN (by omega)), zlet_eq]
    unfold f_X1_isSignRead
    rw [hX, n_signAt hL hk ht (by omega)]
    by_cases c32 : chN t k p = 32
    · have lt : p < k := by
        unfold chN at c32
        split at c32
        · assumption
        · omega
      have hs : f_X1_isDigit (f_X1_signAt k f (zU X 149 1 (nI (p + 1)) 149 1)) = f_X6_in (chA t k (p + 1)) (nI 48) (nI 57) := by rw [zU_s, n_signAt hL hk ht (by omega), dig_same]
      rw [if_pos ((chA_eq ht (by decide)).mpr c32), zlet_eq, nI_add, if_neg nI_10]
      -- the reference, behind the blank
      have y2 : zTIn t k (zU (zU Y 0 25 (nI 0)) 0 24 (nI (p + 1))) := hT.cg (by rw [zU_k _ _ _ _ (by decide), zU_k _ _ _ _ (by decide)]) (by rw [zU_r _ _ _ _ (by decide), zU_r _ _ _ _ (by decide)])
      have y25 : zU (zU Y 0 25 (nI 0)) 0 24 (nI (p + 1)) 0 25 = nI 0 := by rw [zU_k _ _ _ _ (by decide), zU_s]
      have y0 : ∀ j, j ≠ 24 → j ≠ 25 → zU (zU Y 0 25 (nI 0)) 0 24 (nI (p + 1)) 0 j = Y 0 j := fun j q1 q2 => by rw [zU_k _ _ _ _ q1, zU_k _ _ _ _ q2]
      have yr : ∀ r, r ≠ 0 → zU (zU Y 0 25 (nI 0)) 0 24 (nI (p + 1)) r = Y r := fun r q => by rw [zU_r _ _ _ _ q, zU_r _ _ _ _ q]
      have eR : f_X6_readsCommand_L28 (nI (5 * n)) (nI w) (fb'' + 1 + 1) Y (nI c) = (f_X6_readsNumber (zU (zU Y 0 25 (nI 0)) 0 24 (nI (p + 1)))).bind fun q_1020 => zlet (zU q_1020.2 7 (5 * n + 1 + c) q_1020.1) fun X_1023 => f_X6_readsCommand_L28 (nI (5 * n)) (nI w) (fb'' + 1) X_1023 (nI (c + 1)) := by
        rw [f_X6_readsCommand_L28, h25, if_pos nI_0, hnw, if_neg (nI_ge hcN (by omega)), m_here hT hY (by omega), Option.bind_some, if_pos ((chA_eq ht (by decide)).mpr c32)]
        simp only [zlet_eq]
        rw [zU_s, if_pos nI_0, zU_k Y 0 25 (nI 0) (show 24 ≠ 25 by decide), hY, nI_add, y25, if_pos nI_0, nI_add, nI_add, nI_1]
        have ix2 : ¬ (nI (5 * n + 1 + c) < 0 ∨ 300 ≤ 5 * n + 1 + c) := by rw [nI_clamp (by omega)] at ix; exact ix
        simp only [nI_clamp (show 5 * n + 1 + c < 2 ^ 31 by omega), if_neg ix2, zlet_eq]
      rw [eR]
      obtain ⟨rn, ry⟩ := m_readNumber y2 (zU_s _ _ _ _) (by omega) y25
      rcases dig_cases ht (p + 1) with ⟨e, nd⟩ | ⟨e, d, -, lt1⟩
      · rw [if_pos (hs.trans (e.trans nI_0)), rn nd, Option.bind_some, zlet_eq, l28_end (by dsimp only; rw [zU_r _ _ _ _ (by decide), zU_s])]
        dsimp only
        refine ⟨zU X 149 1 (nI (p + 1)), _, p + 1, 0, rfl, rfl, zU_s _ _ _ _, ?_, lt, Or.inr ⟨rfl, ?_⟩, fun r q1 q2 => zU_r _ _ _ _ q1, fun r q1 q2 => ?_, fun j q1 q2 => ?_, fun j _ => by rw [zU_r _ _ _ _ (by decide)], fun j q => ?_, fun q => by omega⟩
        · rw [zU_r _ _ _ _ (by decide), zU_k _ _ _ _ (by decide), zU_s]
        · rw [zU_r _ _ _ _ (by decide), zU_s]
        · rw [zU_r _ _ _ _ q2, zU_r _ _ _ _ q1, yr r q1]
        · rw [zU_r _ _ _ _ (by decide), zU_k _ _ _ _ q2, y0 j q1 q2]
        · rw [zU_k _ _ _ _ (by omega), zU_r _ _ _ _ (by decide), yr 7 (by decide)]
      · obtain ⟨Y3, s1, s2, s3, s4, s5, s6⟩ := ry d
        obtain ⟨X2, t1, t2, t3⟩ := n_readNumber hL hk ht (X := zU X 149 1 (nI (p + 1))) (p := p + 1) (zU_s _ _ _ _) (by omega) d
        rw [if_neg (fun q => nI_10 (e.symm.trans (hs.symm.trans q))), s1, t1, Option.bind_some, Option.bind_some, zlet_eq, zlet_eq]
        generalize nmN (chN t k (p + 1)) (chN t k (p + 1 + 1)) (chN t k (p + 1 + 2)) = vn at s2 s5 s6 t2 ⊢
        have x5 : X2 150 1 = nI 5 := by rw [t3 150 (by decide), zU_r _ _ _ _ (by decide)]; exact h5
        rw [nI_add]
        obtain ⟨w1, w2, w3⟩ := n_putr x5 (show 1 + c ≤ 4 by omega) hr (nI vn.1)
        generalize f_X4_put X2 150 40 row (nI (1 + c)) (nI vn.1) = X3 at w1 w2 w3 ⊢
        rw [nI_1]
        obtain ⟨X', Y', p', b, r1, r2, r3, r4, r5, r6, r7, r8, r9, r10, r11, r12⟩ := ih (c + 1) fa' (fb'' + 1) X3 (zU Y3 7 (5 * n + 1 + c) (nI vn.1)) (p + 1 + vn.2) (by omega) (hfa2 m rfl) (hfb2 m rfl) (by rw [w1 149 (by decide)]; exact t2) (by rw [zU_r _ _ _ _ (by decide)]; exact s2) s5
          (y2.cg (by rw [zU_r _ _ _ _ (by decide), s3 11 (by decide)]) (by rw [zU_r _ _ _ _ (by decide), s4 5 (by decide)])) (by rw [zU_r _ _ _ _ (by decide), s3 25 (by decide)]; exact y25) (by rw [w1 150 (by decide)]; exact x5)
        refine ⟨X', Y', p', b, r1, r2, r3, r4, r5, ?_, fun r q1 q2 => ?_, fun r q1 q2 => ?_, fun j q1 q2 => ?_, fun j q => ?_, fun j q => ?_, fun q1 q2 i i1 i2 => ?_⟩
        · rcases r6 with ⟨g1, g2, g3⟩ | g
          · exact Or.inl ⟨g1, g2, by omega⟩
          · exact Or.inr g
        · rw [r7 r q1 q2, w1 r q2, t3 r q1, zU_r _ _ _ _ q1]
        · rw [r8 r q1 q2, zU_r _ _ _ _ q2, s4 r q1, yr r q1]
        · rw [r9 j q1 q2, zU_r _ _ _ _ (by decide), s3 j q1, y0 j q1 q2]
        · rw [r10 j (by omega), w2 j (by omega), t3 151 (by decide), zU_r _ _ _ _ (by decide)]
        · rw [r11 j (by omega), zU_k _ _ _ _ (by omega), s4 7 (by decide), yr 7 (by decide)]
        · by_cases ic : i = c
          · subst ic
            rw [r10 _ (by omega), r11 _ (by omega), zU_s, show 5 * n + 1 + i = 5 * n + (1 + i) by omega, w3 q2]
          · exact r12 q1 q2 i (by omega) i2
    · have y25 : zU (zU Y 0 25 (nI 1)) 0 24 (nI (p + 0)) 0 25 = nI 1 := by rw [zU_k _ _ _ _ (by decide), zU_s]
      have eR : f_X6_readsCommand_L28 (nI (5 * n)) (nI w) (fb'' + 1 + 1) Y (nI c) = some (zU (zU (zU Y 0 25 (nI 1)) 0 24 (nI p)) 7 (5 * n + 1 + c) (nI 0)) := by
        rw [f_X6_readsCommand_L28, h25, if_pos nI_0, hnw, if_neg (nI_ge hcN (by omega)), m_here hT hY (by omega), Option.bind_some, if_neg (fun q => c32 ((chA_eq ht (by decide)).mp q))]
        simp only [zlet_eq]
        rw [zU_s, if_neg nI_10, zU_k Y 0 25 (nI 1) (show 24 ≠ 25 by decide), hY, nI_add, y25, if_neg nI_10, nI_add, nI_add, nI_1, if_neg ix, nI_clamp (show 5 * n + 1 + c < 2 ^ 31 by omega)]
        exact l28_end (by rw [zU_r _ _ _ _ (by decide), zU_k _ _ _ _ (by decide), zU_s])
      rw [if_neg (fun q => c32 ((chA_eq ht (by decide)).mp q)), eR]
      dsimp only
      rw [if_pos nI_0]
      refine ⟨X, _, p, 0, rfl, rfl, hX, ?_, hpk, Or.inr ⟨rfl, ?_⟩, fun _ _ _ => rfl, fun r q1 q2 => ?_, fun j q1 q2 => ?_, fun _ _ => rfl, fun j q => ?_, fun q => by omega⟩
      · rw [zU_r _ _ _ _ (by decide), zU_s]
      · rw [zU_r _ _ _ _ (by decide), zU_k _ _ _ _ (by decide), zU_s]
      · rw [zU_r _ _ _ _ q2, zU_r _ _ _ _ q1, zU_r _ _ _ _ q1]
      · rw [zU_r _ _ _ _ (by decide), zU_k _ _ _ _ q1, zU_k _ _ _ _ q2]
      · rw [zU_k _ _ _ _ (by omega), zU_r _ _ _ _ (by decide), zU_r _ _ _ _ (by decide)]
/-- one command -/
theorem r_command (hL : sb_Lat t k f) {n : Nat} (n8 : n ≤ 8) {X Y : Nat → Nat → Int32} {p : Nat} (hX : X 149 1 = nI p) (hY : Y 0 24 = nI p) (hpk : p ≤ k) (hT : zTIn t k Y) (h5 : X 150 1 = nI 5) (h8 : X 150 2 = nI 8) (hn : X 150 3 = nI n) :
    ∃ X' Y' p' b, f_X1_isCommandRead k f X = some (nI b, X') ∧ f_X6_readsCommand Y (nI (5 * n)) = some Y' ∧ X' 149 1 = nI p' ∧ Y' 0 24 = nI p' ∧ p' ≤ k ∧ ((b = 1 ∧ Y' 0 25 = nI 0 ∧ p + 6 ≤ p') ∨ (b = 0 ∧ Y' 0 25 = nI 1)) ∧
      (∀ r, r ≠ 149 → r ≠ 150 → r ≠ 151 → X' r = X r) ∧ (∀ j, j ≠ 3 → X' 150 j = X 150 j) ∧ (∀ r, r ≠ 0 → r ≠ 7 → Y' r = Y r) ∧ (∀ j, j ≠ 24 → j ≠ 25 → Y' 0 j = Y 0 j) ∧ (∀ j, j < 5 * n → X' 151 j = X 151 j) ∧ (∀ j, j < 5 * n → Y' 7 j = Y 7 j) ∧
      (b = 1 → n < 8 → X' 150 3 = nI (n + 1) ∧ RW X' Y' n) := by
  have hk := hT.1
  have ht : ∀ j, j < k → t j < 256 := fun j hj => (hT.2.2 j hj).1
  obtain ⟨Y1, m1, m2, m3, m4, m5⟩ := m_readWord hT hY (by omega) rfl rfl rfl rfl
  have c1 := n_readWord hL hk ht hX (by omega) rfl
  have e1 : f_X1_readWord k f X = some (enW (wdN (chN t k p) (chN t k (p + 1)) (chN t k (p + 2)) (chN t k (p + 3))).1, zU X 149 1 (nI (p + (wdN (chN t k p) (chN t k (p + 1)) (chN t k (p + 2)) (chN t k (p + 3))).2))) := c1
  have wa := wd_adv (chN t k p) (chN t k (p + 1)) (chN t k (p + 2)) (chN t k (p + 3))
  clear c1
  generalize wdN (chN t k p) (chN t k (p + 1)) (chN t k (p + 2)) (chN t k (p + 3)) = wd at m1 m2 m5 e1 wa
  obtain ⟨w, g⟩ := wd
  obtain ⟨w5, g4, -, -, -, -, wg⟩ := wa
  dsimp only at m1 m2 m5 e1 w5 g4 wg
  rw [Nat.max_eq_right hpk] at m5
  have ix : ¬ (nI (5 * n) < 0 ∨ 300 ≤ (nI (5 * n)).toNatClampNeg) := nI_in (by omega) (by decide)
  unfold f_X1_isCommandRead f_X6_readsCommand
  rw [e1, m1, Option.bind_some, Option.bind_some]
  dsimp only
  by_cases cw : w = 5
  · have ew : enW w = -1 := if_pos cw
    rw [ew, if_pos rfl, if_pos rfl]
    simp only [zlet_eq]
    rw [if_neg ix, nI_clamp (show 5 * n < 2 ^ 31 by omega)]
    have el : f_X6_readsCommand_L28 (nI (5 * n)) (-1) zFuel (zU (zU Y1 0 25 (nI 1)) 7 (5 * n) (-1)) (nI 0) = some (zU (zU Y1 0 25 (nI 1)) 7 (5 * n) (-1)) := l28_end (fu := 4999) (by rw [zU_r _ _ _ _ (by decide), zU_s])
    rw [el]
    refine ⟨_, _, p + g, 0, rfl, rfl, zU_s _ _ _ _, ?_, m5, Or.inr ⟨rfl, ?_⟩, fun r q1 q2 q3 => zU_r _ _ _ _ q1, fun j _ => by rw [zU_r _ _ _ _ (by decide)], fun r q1 q2 => ?_, fun j q1 q2 => ?_, fun j _ => by rw [zU_r _ _ _ _ (by decide)], fun j q => ?_, fun q => by omega⟩
    · rw [zU_r _ _ _ _ (by decide), zU_k _ _ _ _ (by decide)]; exact m2
    · rw [zU_r _ _ _ _ (by decide), zU_s]
    · rw [zU_r _ _ _ _ q2, zU_r _ _ _ _ q1, m4 r q1]
    · rw [zU_r _ _ _ _ (by decide), zU_k _ _ _ _ q2, m3 j q1]
    · rw [zU_k _ _ _ _ (by omega), zU_r _ _ _ _ (by decide), m4 7 (by decide)]
  · have hw : w < 5 := by omega
    have hg : g = 4 := wg cw
    subst hg
    have ew : enW w = nI w := if_neg cw
    obtain ⟨nn1, nn2, nn3, nn4⟩ := nn_w hw
    rw [ew, if_neg (z_m1 (by omega)), if_neg (z_m1 (by omega))]
    simp only [zlet_eq]
    obtain ⟨row, Z, a1, a2, a3, a4, a5, a6⟩ := n_addr (X := zU X 149 1 (nI (p + 4))) (n := n) (by rw [zU_r _ _ _ _ (by decide)]; exact h5) (by rw [zU_r _ _ _ _ (by decide)]; exact h8) (by rw [zU_r _ _ _ _ (by decide)]; exact hn) n8
    rw [a1, Option.bind_some, if_neg ix, nI_clamp (show 5 * n < 2 ^ 31 by omega), if_neg (nI_pos (by omega)), if_neg (nI_ge hw (by omega)), nn1]
    dsimp only
    have z5 : Z 150 1 = nI 5 := by rw [a4 1 (by decide), zU_r _ _ _ _ (by decide)]; exact h5
    obtain ⟨p1, p2, p3⟩ := n_putr z5 (Nat.zero_le 4) a2 (nI w)
    generalize f_X4_put Z 150 40 row (nI 0) (nI w) = X3 at p1 p2 p3 ⊢
    rw [Nat.add_zero] at p2 p3
    have x31 : X3 150 1 = nI 5 := by rw [p1 150 (by decide)]; exact z5
    obtain ⟨X', Y', p', b, r1, r2, r3, r4, r5, r6, r7, r8, r9, r10, r11, r12⟩ := r_numbers hL n8 nn4 nn2 a2 (nnN w) 0 zFuel zFuel X3 (zU (zU Y1 0 25 (nI 0)) 7 (5 * n) (nI w)) (p + 4) (Nat.zero_add _) (by show _ < 5000; omega) (by show _ < 5000; omega) (by rw [p1 149 (by decide), a3 149 (by decide) (by decide), zU_s]) (by rw [zU_r _ _ _ _ (by decide), zU_k _ _ _ _ (by decide)]; exact m2) m5
      (hT.cg (by rw [zU_r _ _ _ _ (by decide), zU_k _ _ _ _ (by decide), m3 11 (by decide)]) (by rw [zU_r _ _ _ _ (by decide), zU_r _ _ _ _ (by decide), m4 5 (by decide)])) (by rw [zU_r _ _ _ _ (by decide), zU_s]) x31
    refine ⟨X', Y', p', b, r1, r2, r3, r4, r5, ?_, fun r q1 q2 q3 => ?_, fun j q => ?_, fun r q1 q2 => ?_, fun j q1 q2 => ?_, fun j q => ?_, fun j q => ?_, fun q1 q2 => ?_⟩
    · rcases r6 with ⟨g1, g2, g3⟩ | g
      · exact Or.inl ⟨g1, g2, by omega⟩
      · exact Or.inr g
    · rw [r7 r q1 q3, p1 r q3, a3 r q2 q3, zU_r _ _ _ _ q1]
    · rw [r7 150 (by decide) (by decide), p1 150 (by decide), a4 j q, zU_r _ _ _ _ (by decide)]
    · rw [r8 r q1 q2, zU_r _ _ _ _ q2, zU_r _ _ _ _ q1, m4 r q1]
    · rw [r9 j q1 q2, zU_r _ _ _ _ (by decide), zU_k _ _ _ _ q2, m3 j q1]
    · rw [r10 j (by omega), p2 j (by omega), a5 j q, zU_r _ _ _ _ (by decide)]
    · rw [r11 j (by omega), zU_k _ _ _ _ (by omega), zU_r _ _ _ _ (by decide), m4 7 (by decide)]
    · refine ⟨by rw [r7 150 (by decide) (by decide), p1 150 (by decide), a6 q2], w, hw, ?_, ?_, fun j hj => r12 q1 q2 j (Nat.zero_le _) hj⟩
      · rw [r10 _ (by omega)]; exact p3 q2
      · rw [r11 _ (by omega), zU_s]
/-! a whole text -/
theorem r_text (hL : sb_Lat t k f) (kk : (Nat → Nat → Int32) → Int32 → Option (Int32 × (Nat → Nat → Int32))) :
    ∀ (d n fa fb : Nat) (X Y : Nat → Nat → Int32) (p : Nat), n + d = 9 → 7 * n ≤ p → d < fa → d < fb → X 149 1 = nI p → Y 0 24 = nI p → p ≤ k → zTIn t k Y → X 150 1 = nI 5 → X 150 2 = nI 8 → X 150 3 = nI n → (∀ i, i < n → RW X Y i) →
    ∃ X' Y' p' n' b, f_X1_isText_L14 k f fa X (nI n) = some (nI b, X') ∧ ((f_X6_readsCommand Y (nI (5 * n))).bind fun q => f_X6_perform_L12 kk fb q (nI (n + 1))) = kk Y' (nI n') ∧ n' ≤ 9 ∧ X' 149 1 = nI p' ∧ Y' 0 24 = nI p' ∧ p' ≤ k ∧
      ((b = 1 ∧ Y' 0 25 = nI 0 ∧ p' = k ∧ n' ≤ 8 ∧ X' 150 3 = nI n' ∧ ∀ i, i < n' → RW X' Y' i) ∨ (b = 0 ∧ (Y' 0 25 = nI 1 ∨ (Y' 0 25 = nI 0 ∧ p' < k)))) ∧
      (∀ r, r ≠ 149 → r ≠ 150 → r ≠ 151 → X' r = X r) ∧ (∀ j, j ≠ 3 → X' 150 j = X 150 j) ∧ (∀ r, r ≠ 0 → r ≠ 7 → Y' r = Y r) ∧ (∀ j, j ≠ 24 → j ≠ 25 → Y' 0 j = Y 0 j) := by
  intro d
  induction d with
  | zero =>
    intro n fa fb X Y p hn hp _ _ _ _ hpk hT
    have := hT.1
    omega
  | succ d ih =>
    intro n fa fb X Y p hn hp hfa hfb hX hY hpk hT h5 h8 h3 hrows
    have hk := hT.1
    have ht : ∀ j, j < k → t j < 256 := fun j hj => (hT.2.2 j hj).1
    obtain ⟨fa', rfl, hfa2⟩ := fu_s hfa
    obtain ⟨fb', rfl, hfb2⟩ := fu_s hfb
    obtain ⟨X1, Y1, p1, b, r1, r2, r3, r4, r5, r6, r7, r8, r9, r10, r11, r12, r13⟩ := r_command hL (show n ≤ 8 by omega) hX hY hpk hT h5 h8 h3
    have hT1 : zTIn t k Y1 := hT.cg (r10 11 (by decide) (by decide)) (r9 5 (by decide) (by decide))
    rw [f_X1_isText_L14, if_neg (nI_nlt (by omega) (by omega)), r1, r2, Option.bind_some, Option.bind_some]
    rcases r6 with ⟨rfl, g2, g3⟩ | ⟨rfl, g2⟩
    · have n8 : n < 8 := by omega
      obtain ⟨q3, qR⟩ := r13 rfl n8
      have rows : ∀ i, i < n + 1 → RW X1 Y1 i := by
        intro i hi
        by_cases c : i = n
        · subst c; exact qR
        · obtain ⟨w, w1, w2, w3, w4⟩ := hrows i (by omega)
          have := (nn_w w1).2.2.2
          exact ⟨w, w1, by rw [r11 _ (by omega)]; exact w2, by rw [r12 _ (by omega)]; exact w3, fun j hj => by rw [r11 _ (by omega), r12 _ (by omega)]; exact w4 j hj⟩
      rw [if_neg nI_10, f_X6_perform_L12, if_pos (g2.trans nI_0), m_here hT1 r4 (by omega), Option.bind_some]
      by_cases ck : p1 = k
      · have c59 : ¬ chA t k p1 = nI 59 := fun q => by
          have := (chA_eq ht (by decide)).mp q
          unfold chN at this
          rw [if_neg (by omega)] at this
          omega
        rw [if_pos (show X1 149 1 = nI k by rw [r3, ck]), if_neg c59]
        exact ⟨X1, Y1, p1, n + 1, 1, rfl, rfl, by omega, r3, r4, r5, Or.inl ⟨rfl, g2, ck, by omega, q3, rows⟩, r7, r8, r9, r10⟩
      · rw [if_neg (show ¬ X1 149 1 = nI k from fun q => ck ((nI_eq (by omega) (by omega)).mp (r3.symm.trans q))), n_sign hL hk ht r3 (by omega)]
        by_cases c59 : chA t k p1 = nI 59
        · rw [if_pos c59, if_pos c59, zlet_eq, if_neg nI_10, zlet_eq, r4, nI_add, pk_mul, nI_1, nI_1]
          obtain ⟨X', Y', p', n', b, s1, s2, s3, s4, s5, s6, s7, s8, s9, s10, s11⟩ := ih (n + 1) fa' fb' (zU X1 149 1 (nI (p1 + 1))) (zU Y1 0 24 (nI (p1 + 1))) (p1 + 1) (by omega) (by omega) (hfa2 d rfl) (hfb2 d rfl) (zU_s _ _ _ _) (zU_s _ _ _ _) (by omega) (hT1.cg (zU_k _ _ _ _ (by decide)) (zU_r _ _ _ _ (by decide))) (by rw [zU_r _ _ _ _ (by decide), r8 1 (by decide)]; exact h5) (by rw [zU_r _ _ _ _ (by decide), r8 2 (by decide)]; exact h8) (by rw [zU_r _ _ _ _ (by decide)]; exact q3)
            (fun i hi => by
              obtain ⟨w, w1, w2, w3, w4⟩ := rows i hi
              exact ⟨w, w1, by rw [zU_r _ _ _ _ (by decide)]; exact w2, by rw [zU_r _ _ _ _ (by decide)]; exact w3, fun j hj => by rw [zU_r _ _ _ _ (by decide), zU_r _ _ _ _ (by decide)]; exact w4 j hj⟩)
          refine ⟨X', Y', p', n', b, s1, s2, s3, s4, s5, s6, s7, fun r q1 q2 q4 => ?_, fun j q => ?_, fun r q1 q2 => ?_, fun j q1 q2 => ?_⟩
          · rw [s8 r q1 q2 q4, zU_r _ _ _ _ q1, r7 r q1 q2 q4]
          · rw [s9 j q, zU_r _ _ _ _ (by decide), r8 j q]
          · rw [s10 r q1 q2, zU_r _ _ _ _ q1, r9 r q1 q2]
          · rw [s11 j q1 q2, zU_k _ _ _ _ q1, r10 j q1 q2]
        · rw [if_neg c59, if_neg c59, zlet_eq, if_pos nI_0]
          exact ⟨X1, Y1, p1, n + 1, 0, rfl, rfl, by omega, r3, r4, r5, Or.inr ⟨rfl, Or.inr ⟨g2, by omega⟩⟩, r7, r8, r9, r10⟩
    · rw [if_pos nI_0, f_X6_perform_L12, if_neg (fun q => nI_10 (g2.symm.trans q))]
      exact ⟨X1, Y1, p1, n + 1, 0, rfl, rfl, by omega, r3, r4, r5, Or.inr ⟨rfl, Or.inl g2⟩, r7, r8, r9, r10⟩
end CM
