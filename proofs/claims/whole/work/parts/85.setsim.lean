/-! set: both sides agree (laid by wip/whole/mkset.py) -/
section SET
variable {X Y : Nat → Nat → Int32} {a : Nat → Nat}
theorem set_gd0 {n : Nat} (h : GdC a) (h1 : 0 ≤ n) (h2 : n ≤ 30) : GdC (up a 8 n) := by
  unfold GdC at h ⊢
  obtain ⟨q0, q1, q2, q3, q4, q6, q7, q8, q9, q10, q11, q12, q13, q14⟩ := h
  have t : ∀ j, j ≠ 8 → up a 8 n j = a j := fun j hj => up_n _ hj
  have t2 : up a 8 n 8 = n := up_s _ _ _
  refine ⟨by rw [t 0 (by decide)]; exact q0, by rw [t 1 (by decide)]; exact q1, by rw [t 2 (by decide)]; exact q2, by rw [t 3 (by decide)]; exact q3, by rw [t 4 (by decide)]; exact q4, by rw [t 6 (by decide)]; exact q6, by rw [t 7 (by decide)]; exact q7, by rw [t2]; omega, by rw [t 9 (by decide)]; exact q9, by rw [t 10 (by decide)]; exact q10, by rw [t 11 (by decide)]; exact q11, by rw [t 12 (by decide)]; exact q12, by rw [t 13 (by decide)]; exact q13, fun k hk => by rw [t (14 + k) (by omega)]; exact q14 k hk⟩
theorem set_gd1 {n : Nat} (h : GdC a) (h1 : 1 ≤ n) (h2 : n ≤ 3) : GdC (up a 9 n) := by
  unfold GdC at h ⊢
  obtain ⟨q0, q1, q2, q3, q4, q6, q7, q8, q9, q10, q11, q12, q13, q14⟩ := h
  have t : ∀ j, j ≠ 9 → up a 9 n j = a j := fun j hj => up_n _ hj
  have t2 : up a 9 n 9 = n := up_s _ _ _
  refine ⟨by rw [t 0 (by decide)]; exact q0, by rw [t 1 (by decide)]; exact q1, by rw [t 2 (by decide)]; exact q2, by rw [t 3 (by decide)]; exact q3, by rw [t 4 (by decide)]; exact q4, by rw [t 6 (by decide)]; exact q6, by rw [t 7 (by decide)]; exact q7, by rw [t 8 (by decide)]; exact q8, by rw [t2]; omega, by rw [t 10 (by decide)]; exact q10, by rw [t 11 (by decide)]; exact q11, by rw [t 12 (by decide)]; exact q12, by rw [t 13 (by decide)]; exact q13, fun k hk => by rw [t (14 + k) (by omega)]; exact q14 k hk⟩
theorem set_gd2 {n : Nat} (h : GdC a) (h1 : 0 ≤ n) (h2 : n ≤ 60) : GdC (up a 10 n) := by
  unfold GdC at h ⊢
  obtain ⟨q0, q1, q2, q3, q4, q6, q7, q8, q9, q10, q11, q12, q13, q14⟩ := h
  have t : ∀ j, j ≠ 10 → up a 10 n j = a j := fun j hj => up_n _ hj
  have t2 : up a 10 n 10 = n := up_s _ _ _
  refine ⟨by rw [t 0 (by decide)]; exact q0, by rw [t 1 (by decide)]; exact q1, by rw [t 2 (by decide)]; exact q2, by rw [t 3 (by decide)]; exact q3, by rw [t 4 (by decide)]; exact q4, by rw [t 6 (by decide)]; exact q6, by rw [t 7 (by decide)]; exact q7, by rw [t 8 (by decide)]; exact q8, by rw [t 9 (by decide)]; exact q9, by rw [t2]; omega, by rw [t 11 (by decide)]; exact q11, by rw [t 12 (by decide)]; exact q12, by rw [t 13 (by decide)]; exact q13, fun k hk => by rw [t (14 + k) (by omega)]; exact q14 k hk⟩
theorem set_gd3 {n : Nat} (h : GdC a) (h1 : 0 ≤ n) (h2 : n ≤ 20) : GdC (up a 11 n) := by
  unfold GdC at h ⊢
  obtain ⟨q0, q1, q2, q3, q4, q6, q7, q8, q9, q10, q11, q12, q13, q14⟩ := h
  have t : ∀ j, j ≠ 11 → up a 11 n j = a j := fun j hj => up_n _ hj
  have t2 : up a 11 n 11 = n := up_s _ _ _
  refine ⟨by rw [t 0 (by decide)]; exact q0, by rw [t 1 (by decide)]; exact q1, by rw [t 2 (by decide)]; exact q2, by rw [t 3 (by decide)]; exact q3, by rw [t 4 (by decide)]; exact q4, by rw [t 6 (by decide)]; exact q6, by rw [t 7 (by decide)]; exact q7, by rw [t 8 (by decide)]; exact q8, by rw [t 9 (by decide)]; exact q9, by rw [t 10 (by decide)]; exact q10, by rw [t2]; omega, by rw [t 12 (by decide)]; exact q12, by rw [t 13 (by decide)]; exact q13, fun k hk => by rw [t (14 + k) (by omega)]; exact q14 k hk⟩
theorem set_gd4 {n : Nat} (h : GdC a) (h1 : 0 ≤ n) (h2 : n ≤ 120) : GdC (up a 12 n) := by
  unfold GdC at h ⊢
  obtain ⟨q0, q1, q2, q3, q4, q6, q7, q8, q9, q10, q11, q12, q13, q14⟩ := h
  have t : ∀ j, j ≠ 12 → up a 12 n j = a j := fun j hj => up_n _ hj
  have t2 : up a 12 n 12 = n := up_s _ _ _
  refine ⟨by rw [t 0 (by decide)]; exact q0, by rw [t 1 (by decide)]; exact q1, by rw [t 2 (by decide)]; exact q2, by rw [t 3 (by decide)]; exact q3, by rw [t 4 (by decide)]; exact q4, by rw [t 6 (by decide)]; exact q6, by rw [t 7 (by decide)]; exact q7, by rw [t 8 (by decide)]; exact q8, by rw [t 9 (by decide)]; exact q9, by rw [t 10 (by decide)]; exact q10, by rw [t 11 (by decide)]; exact q11, by rw [t2]; omega, by rw [t 13 (by decide)]; exact q13, fun k hk => by rw [t (14 + k) (by omega)]; exact q14 k hk⟩
theorem set_gd5 {n : Nat} (h : GdC a) (h1 : 1 ≤ n) (h2 : n ≤ 99) : GdC (up a 13 n) := by
  unfold GdC at h ⊢
  obtain ⟨q0, q1, q2, q3, q4, q6, q7, q8, q9, q10, q11, q12, q13, q14⟩ := h
  have t : ∀ j, j ≠ 13 → up a 13 n j = a j := fun j hj => up_n _ hj
  have t2 : up a 13 n 13 = n := up_s _ _ _
  refine ⟨by rw [t 0 (by decide)]; exact q0, by rw [t 1 (by decide)]; exact q1, by rw [t 2 (by decide)]; exact q2, by rw [t 3 (by decide)]; exact q3, by rw [t 4 (by decide)]; exact q4, by rw [t 6 (by decide)]; exact q6, by rw [t 7 (by decide)]; exact q7, by rw [t 8 (by decide)]; exact q8, by rw [t 9 (by decide)]; exact q9, by rw [t 10 (by decide)]; exact q10, by rw [t 11 (by decide)]; exact q11, by rw [t 12 (by decide)]; exact q12, by rw [t2]; omega, fun k hk => by rw [t (14 + k) (by omega)]; exact q14 k hk⟩
theorem set_lim {w : Nat} (hw : w < 6) : ∃ lo hi, lo < 2 ^ 30 ∧ hi < 2 ^ 30 ∧ zlo (nI w) = nI lo ∧ zhi (nI w) = nI hi ∧ (∀ v, f_X6_isValue (nI w) v = f_X6_in v (nI lo) (nI hi)) ∧ ∀ n, GdC a → lo ≤ n → n ≤ hi → GdC (up a (8 + w) n) := by
  match w, hw with
  | 0, _ => exact ⟨0, 30, by decide, by decide, by decide, by decide, fun v => by unfold f_X6_isValue; rw [if_pos rfl], fun n h h1 h2 => set_gd0 h h1 h2⟩
  | 1, _ => exact ⟨1, 3, by decide, by decide, by decide, by decide, fun v => by unfold f_X6_isValue; rw [if_neg (by decide), if_pos rfl], fun n h h1 h2 => set_gd1 h h1 h2⟩
  | 2, _ => exact ⟨0, 60, by decide, by decide, by decide, by decide, fun v => by unfold f_X6_isValue; rw [if_neg (by decide), if_neg (by decide), if_pos rfl], fun n h h1 h2 => set_gd2 h h1 h2⟩
  | 3, _ => exact ⟨0, 20, by decide, by decide, by decide, by decide, fun v => by unfold f_X6_isValue; rw [if_neg (by decide), if_neg (by decide), if_neg (by decide), if_pos rfl], fun n h h1 h2 => set_gd3 h h1 h2⟩
  | 4, _ => exact ⟨0, 120, by decide, by decide, by decide, by decide, fun v => by unfold f_X6_isValue; rw [if_neg (by decide), if_neg (by decide), if_neg (by decide), if_neg (by decide), if_pos rfl], fun n h h1 h2 => set_gd4 h h1 h2⟩
  | 5, _ => exact ⟨1, 99, by decide, by decide, by decide, by decide, fun v => by unfold f_X6_isValue; rw [if_neg (by decide), if_neg (by decide), if_neg (by decide), if_neg (by decide), if_neg (by decide)], fun n h h1 h2 => set_gd5 h h1 h2⟩
theorem sim_set (h : zInv 0 X Y a) (v1 v2 : Int32) : zSim X Y K31 (some (f_X5_set X v1 v2)) (f_X6_set Y v1 v2) := by
  unfold f_X5_set f_X6_set
  rcases in_cases v1 (lo := 0) (hi := 5) (by decide) (by decide) with ⟨e1, -, ne⟩ | ⟨e1, -, w, l1, u1, rfl⟩
  · rw [e1, if_pos nI_0]
    have e2 : (if v1 < 0 then ((3, 0, X) : Nat × Int32 × (Nat → Nat → Int32)) else if nI 6 ≤ v1 then (3, 0, X) else if f_X5_isWithin v2 (zlo v1) (zhi v1) = 0 then (1, 0, X) else (0, f_X3_exchangeSetting (f_X0_keep X) v1 v2)) = (3, 0, X) := by
      rcases pk_ix v1 (show 6 < 2 ^ 31 by decide) with c | c | ⟨i, hi, rfl⟩
      · rw [if_pos c]
      · by_cases c2 : v1 < 0
        · rw [if_pos c2]
        · rw [if_neg c2, if_pos c]
      · exact absurd ⟨i, by omega, by omega, rfl⟩ ne
    rw [e2]
    exact .no h (zTxt.rf Y) (by decide) rfl
  rw [e1, if_neg nI_10, if_neg (nI_pos (by omega)), if_neg (fun q => by rw [nI_leI (by omega) (by omega)] at q; omega)]
  obtain ⟨lo, hi, h1, h2, z1, z2, hv, hg⟩ := set_lim (a := a) (w := w) (by omega)
  rw [z1, z2, hv]
  rcases in_cases v2 (lo := lo) (hi := hi) (by omega) (by omega) with ⟨e1, e2, -⟩ | ⟨e1, e2, n2, l2, u2, rfl⟩
  · rw [e1, e2, if_pos nI_0, if_pos nI_0]
    exact .no h (zTxt.rf Y) (by decide) rfl
  rw [e1, e2, if_neg nI_10, if_neg nI_10]
  obtain ⟨Yr, er, hk, hT, -⟩ := z_keep h
  rw [er, Option.bind_some]
  generalize f_X0_keep X = Xk at hk ⊢
  have hG := hk.2.2.1
  obtain ⟨bH, bF, bT, bS, bL, bC, b1, b0⟩ := zRB_iff.mp hk.1
  unfold f_X3_exchangeSetting
  simp only [zlet_eq]
  have i0 := nI_ix (n := 8 + w) (by omega)
  rw [nI_add, n_set hk.1 (by omega), n_put (r := 12) (n := 26) (c := 26) (x := 0) (k := w) bC.1 (by decide) (by omega)]
  simp only [i0, if_false]
  rw [nI_clamp (n := 8 + w) (by omega), show Yr 1 (8 + w) = nI (a (8 + w)) from hk.2.1.lo (by omega)]
  have e10 : 0 * 26 + w = w := by omega
  rw [e10]
  have hR5 := hk.2.1.put (k := 8 + w) (n := n2) (en_n (sp_lo (by omega))).symm
  have to : ∀ j, j ≠ 8 + w → up a (8 + w) n2 j = a j := fun j hj => up_n _ hj
  have hBG : zRB (zU Xk (12 + 1) w (nI n2)) 1 (up a (8 + w) n2) ∧ Gd2 (up a (8 + w) n2) := by
    refine fr_C hk.1 hG ⟨by rw [zU_r _ _ _ _ (by decide)]; exact bC.1, fun k hk2 => ?_, fun k hk2 => ?_⟩ (b1.cg (zU_r _ _ _ _ (by decide)) (to 0 (by omega)) (to 5 (by omega))) (hg n2 hG.1.1 l2 u2) (fun r q1 q2 q3 => zU_r _ _ _ _ q3) (fun j q1 q2 q3 => to j (by omega))
    · by_cases e : k = w
      · subst e; rw [up_s, zU_s]
      · rw [to _ (by omega), zU_k _ _ _ _ (by omega)]; exact bC.2.1 k hk2
    · rw [to _ (by omega), zU_k _ _ _ _ (by omega)]; exact bC.2.2 k hk2
  have hFY := FY.put Yr (8 + w) (nI n2)
  exact .ok (hk.fr hBG.1 hR5 hBG.2 (FX.of (fun r k1 => zU_r _ _ _ _ (by omega))) (hk.con.fr (zU_r _ _ _ _ (by decide))) hFY) (hT.tr hFY.txt) rfl rfl
end SET
