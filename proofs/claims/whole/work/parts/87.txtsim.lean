/-! append, written: both sides agree; what holds of the texts -/
def zTIn (t : Nat → Nat) (k : Nat) (Y : Nat → Nat → Int32) : Prop := k ≤ 60 ∧ Y 0 11 = nI k ∧ ∀ j, j < k → t j < 256 ∧ Y 5 j = nI (t j)
def zTOut (t : Nat → Nat) (k : Nat) (Y : Nat → Nat → Int32) : Prop := k ≤ 800 ∧ Y 0 14 = nI k ∧ ∀ j, j < k → t j < 256 ∧ Y 6 j = nI (t j)
section TXS
variable {X Y Y' : Nat → Nat → Int32} {a : Nat → Nat}
theorem zInv.yx {q : Nat} (h : zInv q X Y a) (h1 : Y' 1 = Y 1) (h2 : Y' 2 = Y 2) (h3 : Y' 3 = Y 3) (h0 : ∀ k, k = 3 ∨ k = 5 ∨ k = 7 ∨ k = 8 ∨ k = 9 ∨ k = 12 → Y' 0 k = Y 0 k) : zInv q X Y' a := by
  obtain ⟨q1, q2, q3, ⟨p1, p2, p3, p4, p5, p6⟩, q5⟩ := h
  refine ⟨q1, by rw [h1]; exact q2, q3, ⟨?_, p2, ?_, ?_, ?_, p6⟩, by rw [h0 7 (by omega)]; exact q5⟩
  · obtain ⟨n, s, r1, r2, r3, r4, r5, r6⟩ := p1
    exact ⟨n, s, r1, r2, by rw [h0 3 (by omega)]; exact r3, r4, r5, fun i hi => by rw [h2]; exact r6 i hi⟩
  · unfold zSav at p3 ⊢
    rw [h0 5 (by omega), h3]
    exact p3
  · unfold zRsn at p4 ⊢
    rw [h0 8 (by omega), h0 9 (by omega)]
    exact p4
  · unfold zErr at p5 ⊢
    rw [h0 12 (by omega)]
    exact p5
theorem sim_append {t : Nat → Nat} {k c0 : Nat} (h : zInv 0 X Y a) (hT : zTIn t k Y) (hc : c0 < 65536) : ∃ (b : Int32) (Y' : Nat → Nat → Int32), f_X6_append Y (nI c0) = some (b, Y') ∧
    ((f_X5_isWithin (nI c0) (nI 32) (nI 126) = 0 ∧ Y' = zU Y 0 0 (nI 1)) ∨ (¬ f_X5_isWithin (nI c0) (nI 32) (nI 126) = 0 ∧ 60 ≤ k ∧ Y' = zU Y 0 0 (nI 2)) ∨
     (¬ f_X5_isWithin (nI c0) (nI 32) (nI 126) = 0 ∧ k < 60 ∧ b = nI (k + 1) ∧ Y' 0 0 = nI 0 ∧ zInv 0 X Y' a ∧ zTIn (sb_cat t k (fun _ => c0)) (k + 1) Y' ∧ Y' 6 = Y 6 ∧ Y' 0 14 = Y 0 14)) := by
  unfold f_X6_append f_X6_fails f_X6_done
  simp only [zlet_eq]
  rcases in_cases (nI c0) (lo := 32) (hi := 126) (by decide) (by decide) with ⟨e1, e2, -⟩ | ⟨e1, e2, n, l1, u1, hn⟩
  · rw [e1, e2, if_pos nI_0]
    exact ⟨_, _, rfl, Or.inl ⟨rfl, rfl⟩⟩
  have hcn : c0 = n := (nI_eq (by omega) (by omega)).mp hn
  rw [e1, e2, if_neg nI_10, hT.2.1]
  by_cases hk : k = 60
  · subst hk
    rw [if_pos rfl]
    exact ⟨_, _, rfl, Or.inr (Or.inl ⟨nI_10, Nat.le_refl _, rfl⟩)⟩
  · have hk6 : k < 60 := by have := hT.1; omega
    rw [if_neg (fun q => hk ((nI_eq (by omega) (by decide)).mp q)), if_neg (nI_in hk6 (by decide)), nI_clamp (by omega)]
    have hv : vp_nar .char (nI c0) = nI c0 := (sb_byte c0 (by omega)).2.1
    have e5 : zU Y 5 k (nI c0) 0 11 = nI k := by rw [zU_r _ _ _ _ (by decide)]; exact hT.2.1
    rw [hv, e5, nI_add, zU_s]
    refine ⟨_, _, rfl, Or.inr (Or.inr ⟨nI_10, hk6, rfl, zU_s _ _ _ _, ?_, ⟨by omega, ?_, fun j hj => ?_⟩, ?_, ?_⟩)⟩
    · refine h.yx ?_ ?_ ?_ (fun j hj => ?_)
      · rw [zU_r _ _ _ _ (by decide), zU_r _ _ _ _ (by decide), zU_r _ _ _ _ (by decide)]
      · rw [zU_r _ _ _ _ (by decide), zU_r _ _ _ _ (by decide), zU_r _ _ _ _ (by decide)]
      · rw [zU_r _ _ _ _ (by decide), zU_r _ _ _ _ (by decide), zU_r _ _ _ _ (by decide)]
      · rw [zU_k _ _ _ _ (by omega), zU_k _ _ _ _ (by omega), zU_r _ _ _ _ (by decide)]
    · show zU _ 0 0 (nI 0) 0 11 = _
      rw [zU_k _ _ _ _ (by decide), zU_s]
    · show _ ∧ zU _ 0 0 (nI 0) 5 j = _
      rw [zU_r _ _ _ _ (by decide), zU_r _ _ _ _ (by decide)]
      by_cases e : j = k
      · subst e
        rw [zU_s, show sb_cat t j (fun _ => c0) j = c0 from if_neg (Nat.lt_irrefl _)]
        exact ⟨by omega, rfl⟩
      · rw [zU_k _ _ _ _ e, sb_cat_lo (by omega)]
        exact hT.2.2 j (by omega)
    · rw [zU_r _ _ _ _ (by decide), zU_r _ _ _ _ (by decide), zU_r _ _ _ _ (by decide)]
    · rw [zU_k _ _ _ _ (by decide), zU_k _ _ _ _ (by decide), zU_r _ _ _ _ (by decide)]
theorem sim_written {t : Nat → Nat} {k : Nat} {f : Nat → Int32} (hT : zTOut t k Y) (hL : sb_Lat t k f) (v1 : Int32) : ∃ (b : Int32), f_X6_written Y v1 = some (b, zU Y 0 0 (nI (Ku (f_X5_written k f v1).1))) ∧ ((f_X5_written k f v1).1 = 0 → (f_X5_written k f v1).2 = b) := by
  unfold f_X6_written f_X5_written f_X6_fails
  simp only [zlet_eq]
  have hk := hT.1
  rcases pk_ix v1 (show k < 2 ^ 31 by omega) with c | c | ⟨i, hi, rfl⟩
  · rw [if_pos c]
    have e : f_X6_in v1 (nI 0) (Y 0 14 - nI 1) = nI 0 := if_pos c
    rw [e, if_pos nI_0]
    exact ⟨_, rfl, fun q => absurd q (by decide)⟩
  · by_cases c2 : v1 < 0
    · rw [if_pos c2]
      have e : f_X6_in v1 (nI 0) (Y 0 14 - nI 1) = nI 0 := if_pos c2
      rw [e, if_pos nI_0]
      exact ⟨_, rfl, fun q => absurd q (by decide)⟩
    · rw [if_neg c2, if_pos c]
      have e : f_X6_in v1 (nI 0) (Y 0 14 - nI 1) = nI 0 := by
        unfold f_X6_in
        rw [if_neg (show ¬ v1 < nI 0 from c2), hT.2.1]
        refine if_pos ?_
        rw [Int32.le_iff_toInt_le] at c
        rw [Int32.lt_iff_toInt_lt, pk_sub_toInt (by omega) (by decide)]
        rw [nI_toInt (by omega)] at c
        omega
      rw [e, if_pos nI_0]
      exact ⟨_, rfl, fun q => absurd q (by decide)⟩
  · rw [if_neg (nI_pos (by omega)), if_neg (nI_ge hi (by omega))]
    have e : f_X6_in (nI i) (nI 0) (Y 0 14 - nI 1) = nI 1 := by
      unfold f_X6_in
      rw [hT.2.1, pk_sub (by omega), if_neg (show ¬ nI i < nI 0 from nI_pos (by omega)), if_neg (nI_nlt (by omega) (by omega))]
    obtain ⟨q1, q2⟩ := hT.2.2 i hi
    have qb := sb_byte (t i) q1
    rw [e, if_neg nI_10, if_neg (nI_in (show i < 1200 by omega) (by decide)), nI_clamp (by omega), zU_r _ _ _ _ (by decide), q2, if_neg (fun q => q qb.2.1), (hL i hi).2, show sb_b (t i) &&& nI 255 = nI (t i) from qb.1, qb.2.1]
    exact ⟨_, rfl, fun _ => rfl⟩
end TXS
