section R3
variable {X Y : Nat → Nat → Int32} {a : Nat → Nat}
theorem sp_lin {i k : Nat} (hk : k < 5) : sp (428 + 5 * i + k) = (decide (i < 30) && (k == 2 || k == 3)) := by
  have e : (428 + 5 * i + k - 428) % 5 = k := by omega
  have e1 : decide (428 + 5 * i + k < 54) = false := decide_eq_false (by omega)
  have e2 : decide (428 ≤ 428 + 5 * i + k) = true := decide_eq_true (by omega)
  have e3 : decide (428 + 5 * i + k < 578) = decide (i < 30) := decide_eq_decide.mpr (by omega)
  unfold sp
  rw [e, e1, e2, e3, Bool.and_false, Bool.false_and, Bool.false_or, Bool.true_and]
theorem sim_line (h : zInv 0 X Y a) (v1 v2 : Int32) : zSim X Y K61 (some (f_X5_line X v1 v2)) (f_X6_line Y v1 v2) := by
  have hB := h.1
  have hR := h.2.1
  have hG := h.2.2.1
  have c6 := hG.1.c6
  have c7 : a 7 ≤ 1 := hG.1.1.2.2.2.2.2.2.1
  obtain ⟨bH, bF, bT, bS, bL, bC, b1, b0⟩ := zRB_iff.mp hB
  unfold f_X5_line f_X6_line
  rw [show Y 1 (nI 7).toNatClampNeg = nI (a 7) from hR.lo (k := 7) (by decide), show Y 1 (nI 6).toNatClampNeg = nI (a 6) from hR.lo (k := 6) (by decide)]
  rcases row_cases (n := 150) bL.1.2.2 (by omega) v1 with ⟨e1, e2, -⟩ | ⟨e1, e2, i, hi, rfl⟩
  · rw [e1, if_pos nI_0, e2, if_pos nI_0]
    by_cases c : a 7 = 0
    · rw [c, if_pos nI_0]
      exact .no h (zTxt.rf Y) (by decide) rfl
    · rw [if_neg (nI_ne0 (by omega) (by omega))]
      exact .no h (zTxt.rf Y) (by decide) rfl
  have c7' : ¬ a 7 = 0 := fun q => by have := b0 q; omega
  rw [e1, e2, if_neg nI_10, if_neg (nI_ne0 (by omega) (by omega)), if_neg nI_10]
  rcases in_cases v2 (lo := 0) (hi := 4) (by decide) (by decide) with ⟨e1, e2, -⟩ | ⟨e1, e2, k, l1, u1, rfl⟩
  · rw [e1, e2, if_pos nI_0, if_pos nI_0]
    exact .no h (zTxt.rf Y) (by decide) rfl
  rw [e1, e2, if_neg nI_10, if_neg nI_10, c_get_in (c := 5) bL.1.1 (by decide) (show i * 5 + k < 150 by omega)]
  simp only [pk_mul, nI_add, zlet_eq]
  have i0 := nI_ix (n := 428 + 5 * i + k) (by omega)
  simp only [i0, if_false]
  rw [nI_clamp (n := 428 + 5 * i + k) (by omega)]
  refine .ok h (zTxt.rf Y) rfl ?_
  have hL := bL.2 i hi
  have hs := sp_lin (i := i) (k := k) (by omega)
  rw [hR _ (by omega)]
  unfold en
  rw [hs, show decide (i < 30) = true by simp; omega]
  match k, u1 with
  | 0, _ => exact hL.1
  | 1, _ => exact hL.2.1
  | 2, _ => exact hL.2.2.1
  | 3, _ => exact hL.2.2.2.1
  | 4, _ => exact hL.2.2.2.2
theorem sim_refusal (h : zInv 0 X Y a) (v1 : Int32) : zSim X Y K61 (some (f_X5_refusal X v1)) (some (f_X6_refusal Y v1)) := by
  unfold f_X5_refusal f_X6_refusal
  rcases h.2.2.2.1.2.2.2.1 with ⟨e1, e2⟩ | ⟨r, r1, r2, e1, e2, e3⟩
  · rw [e1, e2, if_pos rfl, if_pos nI_0]
    exact .no h (zTxt.rf Y) (by decide) rfl
  · rw [e1, e2, if_neg (z_m1 (by omega)), if_neg (nI_ne0 (by omega) (by omega)), e3]
    by_cases c : v1 = 0
    · rw [if_pos c, if_pos c]
      exact .ok h (zTxt.rf Y) rfl rfl
    · rw [if_neg c, if_neg c]
      exact .ok h (zTxt.rf Y) rfl rfl
theorem sim_errorPosition (h : zInv 0 X Y a) : zSim X Y K61 (some (f_X5_errorPosition X)) (some (f_X6_errorPosition Y)) := by
  unfold f_X5_errorPosition f_X6_errorPosition
  have he : X 0 10 = Y 0 12 := h.2.2.2.1.2.2.2.2.1
  rw [he]
  by_cases c : Y 0 12 = -1
  · rw [if_pos c, if_pos c]
    exact .no h (zTxt.rf Y) (by decide) rfl
  · rw [if_neg c, if_neg c]
    exact .ok h (zTxt.rf Y) rfl rfl
theorem m_film6 (hR : RM (Y 1) a) (hG : Gd a) {f : Nat} (hf : f < a 2) : f_X6_film Y (nI f) (nI 6) = some (nI (tot a 2 (fun s => decide (shw a s 1 = f))), zU Y 0 0 (nI 0)) := by
  have c2 := hG.c2
  have e : f_X6_isFilm Y (nI f) = nI 1 := by
    unfold f_X6_isFilm
    rw [show Y 1 (nI 2).toNatClampNeg = nI (a 2) from hR.lo (k := 2) (by decide), z_inm (by omega) (by decide) (by omega), if_pos ⟨Nat.zero_le f, hf⟩]
  unfold f_X6_film
  rw [e, if_neg nI_10, show f_X6_in (nI 6) (nI 0) (nI 11) = nI 1 by decide, if_neg nI_10, if_neg (by decide), if_pos (by decide), m_film_L hR hG (by omega) (Or.inr (Or.inl rfl))]
  rfl
theorem sim_bestFilm (h : zInv 0 X Y a) : zSim X Y K61 (f_X5_bestFilm X) (f_X6_bestFilm Y) := by
  have hB := h.1
  have hR := h.2.1
  have hG := h.2.2.1.1
  have c2 := hG.c2
  have htot : ∀ f, tot a 2 (fun s => decide (shw a s 1 = f)) < 2 ^ 31 := fun f => by
    have := zsm_le (f := fun s => if (decide (shw a s 1 = f)) = true ∧ shw a s 8 = 0 then meas a 2 s else 0) (c := 400) (a 4) 0 (fun k _ hk => by
      have hS := hG.2.2.2.2 k (by omega)
      show (if _ then shw a k 7 else 0) ≤ 400
      split <;> omega)
    have h4 := hG.c4
    exact Nat.lt_of_le_of_lt (show tot a 2 (fun s => decide (shw a s 1 = f)) ≤ a 4 * 400 from this) (by omega)
  have e2 : ∀ Z : Nat → Nat → Int32, RM (Z 1) a → Z 1 (nI 2).toNatClampNeg = nI (a 2) := fun Z hZ => hZ.lo (k := 2) (by decide)
  unfold f_X5_bestFilm f_X6_bestFilm
  rw [n_size (n_nF hB)]
  by_cases c : a 2 = 0
  · rw [show zFuel = 4999 + 1 from rfl, f_X6_bestFilm_L6, e2 Y hR, c, if_pos nI_0, if_pos (show nI 0 ≤ nI 0 from nI_le (Nat.le_refl 0) (by decide)), if_pos rfl]
    exact .no h (zTxt.rf Y) (by decide) rfl
  rw [if_neg (nI_ne0 (by omega) (by omega)), n_total_col hB hG (by decide) (by decide) (by decide), Option.bind_some]
  have key : ∀ (n f fu fu2 b m : Nat) (Y2 : Nat → Nat → Int32), f + n = a 2 → n < fu → n < fu2 → b < 2 ^ 31 → m < 2 ^ 31 → RM (Y2 1) a → FY Y Y2 → zInv 0 X Y2 a →
      zSim X Y K61 (f_X5_bestFilm_L39 X fu (nI b) (nI m) (nI f)) (f_X6_bestFilm_L6 (fun X_1007 v1_1006 => (if v1_1006 = (-1 : Int32) then (zlet (f_X6_fails X_1007 (nI 1)) fun q_1011 => some (q_1011.1, q_1011.2)) else (zlet (f_X6_done X_1007 v1_1006) fun q_1009 => some (q_1009.1, q_1009.2)))) fu2 Y2 (nI b) (nI m) (nI f)) := by
    intro n
    induction n with
    | zero =>
      intro f fu fu2 b m Y2 hf hfu hfu2 hb hm hR2 hY hI
      obtain ⟨fu', rfl, -⟩ := fu_s hfu
      obtain ⟨fu2', rfl, -⟩ := fu_s hfu2
      rw [f_X5_bestFilm_L39, f_X6_bestFilm_L6, n_size (n_nF hB), e2 Y2 hR2, if_pos (nI_le (by omega) (by omega)), if_pos (nI_le (by omega) (by omega)), if_neg (z_m1 hb)]
      exact .ok hI hY.txt rfl rfl
    | succ n ih =>
      intro f fu fu2 b m Y2 hf hfu hfu2 hb hm hR2 hY hI
      obtain ⟨fu', rfl, hf2⟩ := fu_s hfu
      obtain ⟨fu2', rfl, hf3⟩ := fu_s hfu2
      rw [f_X5_bestFilm_L39, f_X6_bestFilm_L6, n_size (n_nF hB), e2 Y2 hR2, if_neg (nI_ge (by omega) (by omega)), if_neg (nI_ge (by omega) (by omega)), n_total_col hB hG (by decide) (by decide) (by omega), Option.bind_some, m_film6 hR2 hG (by omega), Option.bind_some, if_neg (z_m1 hb), nI_1]
      dsimp only
      by_cases q : tot a 2 (fun s => decide (shw a s 1 = f)) ≤ m
      · rw [if_pos (nI_le q hm), if_pos (nI_le q hm)]
        exact ih (f + 1) fu' fu2' b m _ (by omega) (hf2 n rfl) (hf3 n rfl) hb hm (hR2.u0 0 _) (hY.tr (FY.u0 _ _)) (hI.u0 _)
      · rw [if_neg (nI_ge (by omega) (htot f)), if_neg (nI_ge (by omega) (htot f))]
        exact ih (f + 1) fu' fu2' f _ _ (by omega) (hf2 n rfl) (hf3 n rfl) (by omega) (htot f) (hR2.u0 0 _) (hY.tr (FY.u0 _ _)) (hI.u0 _)
  rw [show f_X6_bestFilm_L6 (fun X_1007 v1_1006 => (if v1_1006 = (-1 : Int32) then (zlet (f_X6_fails X_1007 (nI 1)) fun q_1011 => some (q_1011.1, q_1011.2)) else (zlet (f_X6_done X_1007 v1_1006) fun q_1009 => some (q_1009.1, q_1009.2)))) zFuel Y (-1) (nI 0) (nI 0) = f_X6_bestFilm_L6 (fun X_1007 v1_1006 => (if v1_1006 = (-1 : Int32) then (zlet (f_X6_fails X_1007 (nI 1)) fun q_1011 => some (q_1011.1, q_1011.2)) else (zlet (f_X6_done X_1007 v1_1006) fun q_1009 => some (q_1009.1, q_1009.2)))) 4999 (zU Y 0 0 (nI 0)) (nI 0) (nI (tot a 2 (fun s => decide (shw a s 1 = 0)))) (nI 1) by
    rw [show zFuel = 4999 + 1 from rfl, f_X6_bestFilm_L6, e2 Y hR, if_neg (nI_ge (by omega) (by omega)), m_film6 hR hG (by omega), Option.bind_some, if_pos rfl, nI_1]]
  exact key (a 2 - 1) 1 zFuel 4999 0 _ _ (by omega) (by show a 2 - 1 < 5000; omega) (by omega) (by decide) (htot 0) (hR.u0 0 _) (FY.u0 Y _) (h.u0 _)
end R3
