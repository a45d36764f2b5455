/-! A FAILURE: the search, 2 -/
section SR2
variable {X X2 Y Y2 : Nat → Nat → Int32} {b c : Nat → Nat}
theorem minute_nI {st : Nat} (hst : st < 960) : f_X5_isMinute (nI st) = nI 1 ∧ f_X6_in (nI st) (nI 0) (nI 959) = nI 1 := by
  rcases in_cases (nI st) (lo := 0) (hi := 959) (by decide) (by decide) with ⟨-, -, ne⟩ | ⟨g1, g2, -⟩
  · exact absurd ⟨st, Nat.zero_le _, by omega, rfl⟩ ne
  · exact ⟨g2, g1⟩
theorem m_findH {s x : Nat} (H : SH0 X Y b c s x) {st : Nat} (hst : st < 960) (k : (Nat → Nat → Int32) → Int32 → Option (Int32 × (Nat → Nat → Int32))) : ∀ (n i fu : Nat) (Y2 : Nat → Nat → Int32), i + n = c 1 → n < fu → SIy Y Y2 →
    ∃ Y3, SIy Y Y3 ∧ f_X6_findsAt_L2 k (nI s) (nI st) fu Y2 (nI i) = (match fndH c s x st i n with | none => some (nI 0, Y3) | some h => k Y3 (nI h)) := by
  obtain ⟨hB, hGb, hR, hG, hV, hs, hx, h0⟩ := H
  have g1 := hG.c1
  have g4 := hG.c4
  have hS := hG.2.2.2.2 s hs
  have g2 := hG.c2
  have hm : 0 < mins c s ∧ mins c s < 2 ^ 20 := by
    have hF := hG.2.2.1 _ hS.2.1
    unfold mins
    omega
  have e1 : ∀ Z : Nat → Nat → Int32, RM (Z 1) c → Z 1 (nI 1).toNatClampNeg = nI (c 1) := fun Z hZ => hZ.lo (by decide)
  intro n
  induction n with
  | zero =>
    intro i fu Y2 hi hf hY
    obtain ⟨f, rfl, -⟩ := fu_s hf
    have hR2 : RM (Y2 1) c := by rw [hY.2]; exact hR
    refine ⟨Y2, hY, ?_⟩
    rw [f_X6_findsAt_L2, e1 Y2 hR2, if_pos (nI_le (by omega) (by omega))]
    rfl
  | succ n ih =>
    intro i fu Y2 hi hf hY
    obtain ⟨f, rfl, hf2⟩ := fu_s hf
    have hf2 := hf2 n rfl
    have hR2 : RM (Y2 1) c := by rw [hY.2]; exact hR
    have hi4 : i < c 1 := by omega
    have hh := hal_lt hG hi4
    rw [f_X6_findsAt_L2, e1 Y2 hR2, if_neg (nI_ge hi4 (by omega)), (minute_nI hst).2, if_neg nI_10, m_shw hR2 (by omega) (by decide), h0, Option.bind_some, fndH, nI_1]
    by_cases c1 : i = x
    · rw [if_pos (show nI i = nI x by rw [c1]), if_neg (fun q => q.1 c1)]
      exact ih (i + 1) f Y2 (by omega) hf2 hY
    · rw [if_neg (fun q => c1 ((nI_eq (by omega) (by omega)).mp q)), m_hal hR2 (by omega) (by decide), Option.bind_some, m_shw hR2 (by omega) (by decide), Option.bind_some]
      by_cases c2 : shw c s 7 ≤ hal c i 0
      · rw [if_neg (fun q => by rw [nI_ltI (by omega) (by omega)] at q; omega), m_shw hR2 (by omega) (by decide), Option.bind_some, m_shw hR2 (by omega) (by decide), Option.bind_some, m_minutesOf hR2 hG hs, Option.bind_some, m_breaks hR2 hG (nI s) hS.2.1 (by omega) hi4 hst hm.1 hm.2, Option.bind_some]
        dsimp only
        have hY3 : SIy Y (zU (mPut Y2 (nI s) i (shw c s 1) (shw c s 2) st (st + mins c s)) 0 21 (brk c (nI s) (shw c s 1) (shw c s 2) i st (st + mins c s)).2) := hY.tr ⟨FY.look Y2 _ _ _ _ _ _ _, by rw [zU_r _ _ _ _ (by decide), mPut_r _ _ _ _ _ _ _ (by decide)]⟩
        by_cases c3 : (brk c (nI s) (shw c s 1) (shw c s 2) i st (st + mins c s)).1 = 0
        · rw [if_pos (show nI (brk c (nI s) (shw c s 1) (shw c s 2) i st (st + mins c s)).1 = 0 by rw [c3]; rfl), if_pos ⟨c1, c2, c3⟩]
          exact ⟨_, hY3, rfl⟩
        · rw [if_neg (fun (q : nI (brk c (nI s) (shw c s 1) (shw c s 2) i st (st + mins c s)).1 = 0) => c3 ((nI_eq (by have := brk_9 c (nI s) (shw c s 1) (shw c s 2) i st (st + mins c s); omega) (by decide)).mp q)), if_neg (fun q => c3 q.2.2)]
          exact ih (i + 1) f _ (by omega) hf2 hY3
      · rw [if_pos ((nI_ltI (by omega) (by omega)).mpr (by omega)), if_neg (fun q => c2 q.2.1)]
        exact ih (i + 1) f Y2 (by omega) hf2 hY
/-- one start, on both sides -/
theorem n_cand {s x : Nat} (H : SH0 X Y b c s x) (v : Int32) (kk : (Nat → Nat → Int32) → Int32 → Option (Int32 × (Nat → Nat → Int32))) (k1 : (Nat → Nat → Int32) → Option (Int32 × (Nat → Nat → Int32))) (v1 v4 v7 v8 : Int32) (hX : SIx X X2 b s (shw c s 1) (shw c s 2)) :
    ∃ X3, SIx X X3 b s (shw c s 1) (shw c s 2) ∧ f_X5_isPlacedAgain_L142 kk k1 v1 (nI x) v4 (nI (shw c s 7)) (nI (mins c s)) v7 v8 v zFuel X2 (nI 0) = (match fndV c s x v with | none => k1 X3 | some h => kk X3 (nI h)) := by
  have g1 := H.hG.c1
  rcases minute_cases v with ⟨q, -⟩ | ⟨q, -, st, hst, rfl⟩
  · refine ⟨X2, hX, ?_⟩
    unfold fndV
    rw [if_pos (by rw [q]; rfl)]
    show f_X5_isPlacedAgain_L142 kk k1 v1 (nI x) v4 (nI (shw c s 7)) (nI (mins c s)) v7 v8 v (4999 + 1) X2 (nI 0) = _
    rw [f_X5_isPlacedAgain_L142, q, if_pos nI_0]
    split <;> rfl
  · unfold fndV
    rw [q, if_neg nI_10, nI_clamp (by omega)]
    exact n_findH H hst kk k1 v1 v4 v7 v8 (c 1) 0 zFuel X2 (Nat.zero_add _) (by show c 1 < 5000; omega) hX
theorem m_cand {s x : Nat} (H : SH0 X Y b c s x) (v : Int32) (hY : SIy Y Y2) :
    ∃ Y3, SIy Y Y3 ∧ f_X6_findsAt Y2 (nI s) v = (match fndV c s x v with | none => some (nI 0, Y3) | some h => some (nI 1, zU (zU Y3 0 22 (nI h)) 0 23 v)) := by
  have g1 := H.hG.c1
  rcases minute_cases v with ⟨q, q2⟩ | ⟨q, -, st, hst, rfl⟩
  · refine ⟨Y2, hY, ?_⟩
    unfold fndV f_X6_findsAt
    rw [if_pos (by rw [q]; rfl)]
    show f_X6_findsAt_L2 _ (nI s) v (4999 + 1) Y2 (nI 0) = _
    rw [f_X6_findsAt_L2, q2, if_pos nI_0]
    split <;> rfl
  · unfold fndV f_X6_findsAt
    rw [q, if_neg nI_10, nI_clamp (by omega)]
    exact m_findH H hst _ (c 1) 0 zFuel Y2 (Nat.zero_add _) (by show c 1 < 5000; omega) hY
/-- the place that is found: the hall and the start, from the distance d on -/
def srch (c : Nat → Nat) (s x : Nat) : Nat → Nat → Option (Nat × Int32)
  | _, 0 => none
  | d, n + 1 => match fndV c s x (nI (shw c s 3) - nI d) with
    | some h => some (h, nI (shw c s 3) - nI d)
    | none => match fndV c s x (nI (shw c s 3) + nI d) with
      | some h => some (h, nI (shw c s 3) + nI d)
      | none => srch c s x (d + 1) n
theorem m_srch {s x : Nat} (H : SH0 X Y b c s x) : ∀ (n d fu : Nat) (Y2 : Nat → Nat → Int32), d + n = c 12 + 1 → n + 1 < fu → SIy Y Y2 → ∃ Y3, SIy Y Y3 ∧ f_X6_findsPlace_L12 (nI s) (nI (shw c s 3)) fu Y2 (nI 0) (nI d) = (match srch c s x d n with | none => some (nI 0, Y3) | some (h, v) => some (nI 1, zU (zU Y3 0 22 (nI h)) 0 23 v)) := by
  have g12 : c 12 ≤ 120 := H.hG.1.2.2.2.2.2.2.2.2.2.2.2.1
  have e12 : ∀ Z : Nat → Nat → Int32, Z 1 = Y 1 → Z 1 (nI 12).toNatClampNeg = nI (c 12) := fun Z hZ => by rw [hZ]; exact H.hR.lo (by decide)
  have fin : ∀ (fu d h : Nat) (Y3 : Nat → Nat → Int32) (v : Int32), SIy Y Y3 → d ≤ c 12 → f_X6_findsPlace_L12 (nI s) (nI (shw c s 3)) (fu + 1) (zU (zU Y3 0 22 (nI h)) 0 23 v) (nI 1) (nI (d + 1)) = some (nI 1, zU (zU Y3 0 22 (nI h)) 0 23 v) := by
    intro fu d h Y3 v hY hd
    rw [f_X6_findsPlace_L12, e12 (zU (zU Y3 0 22 (nI h)) 0 23 v) (by rw [zU_r _ _ _ _ (by decide), zU_r _ _ _ _ (by decide)]; exact hY.2)]
    by_cases q : nI (c 12) < nI (d + 1)
    · rw [if_pos q, if_neg (by decide)]
    · rw [if_neg q, if_neg (by decide), if_neg (by decide)]
  intro n
  induction n with
  | zero =>
    intro d fu Y2 hd hf hY
    obtain ⟨f, rfl, -⟩ := fu_s hf
    refine ⟨Y2, hY, ?_⟩
    rw [f_X6_findsPlace_L12, e12 Y2 hY.2, if_pos ((nI_ltI (by omega) (by omega)).mpr (by omega)), if_neg (by decide)]
    rfl
  | succ n ih =>
    intro d fu Y2 hd hf hY
    obtain ⟨f, rfl, hf2⟩ := fu_s hf
    have hf2 := hf2 (n + 1) rfl
    obtain ⟨f', rfl, -⟩ := fu_s (m := 0) (fu := f) (by omega)
    rw [f_X6_findsPlace_L12, e12 Y2 hY.2, if_neg (fun q => by rw [nI_ltI (by omega) (by omega)] at q; omega), if_pos nI_0, srch, nI_1]
    obtain ⟨Y3, r1, r2⟩ := m_cand H (nI (shw c s 3) - nI d) hY
    rw [r2]
    cases e : fndV c s x (nI (shw c s 3) - nI d) with
    | some h =>
      refine ⟨Y3, r1, ?_⟩
      simp only [Option.bind_some]
      rw [if_neg nI_10]
      exact fin f' d h Y3 _ r1 (by omega)
    | none =>
      obtain ⟨Y4, t1, t2⟩ := m_cand H (nI (shw c s 3) + nI d) r1
      simp only [Option.bind_some]
      rw [if_pos nI_0, t2]
      cases e2 : fndV c s x (nI (shw c s 3) + nI d) with
      | some h =>
        refine ⟨Y4, t1, ?_⟩
        simp only [Option.bind_some]
        rw [if_neg nI_10]
        exact fin f' d h Y4 _ t1 (by omega)
      | none =>
        simp only [Option.bind_some]
        rw [if_pos nI_0]
        exact ih (d + 1) (f' + 1) Y4 (by omega) (by omega) t1
theorem n_srch {s x : Nat} (H : SH0 X Y b c s x) (k : (Nat → Nat → Int32) → Int32 → Int32 → Option (Int32 × (Nat → Nat → Int32))) (v1 : Int32) : ∀ (n d fu : Nat) (X2 : Nat → Nat → Int32), d + n = c 12 + 1 → 1 ≤ d → 2 * n + 1 < fu → SIx X X2 b s (shw c s 1) (shw c s 2) →
    ∃ X3, SIx X X3 b s (shw c s 1) (shw c s 2) ∧ f_X5_isPlacedAgain_L100 k v1 (nI x) (nI (shw c s 3)) (nI (shw c s 7)) (nI (mins c s)) (nI (c 12)) fu X2 (nI (2 * d - 1)) = (match srch c s x d n with | none => some (nI 0, X3) | some (h, v) => k X3 v (nI h)) := by
  have g12 : c 12 ≤ 120 := H.hG.1.2.2.2.2.2.2.2.2.2.2.2.1
  intro n
  induction n with
  | zero =>
    intro d fu X2 hd hd1 hf hX
    obtain ⟨f, rfl, -⟩ := fu_s hf
    refine ⟨X2, hX, ?_⟩
    rw [f_X5_isPlacedAgain_L100, pk_mul, if_pos ((nI_ltI (by omega) (by omega)).mpr (by omega))]
    rfl
  | succ n ih =>
    intro d fu X2 hd hd1 hf hX
    obtain ⟨f, rfl, -⟩ := fu_s hf
    obtain ⟨f', rfl, -⟩ := fu_s (m := 0) (fu := f) (by omega)
    rw [f_X5_isPlacedAgain_L100, pk_mul, if_neg (fun q => by rw [nI_ltI (by omega) (by omega)] at q; omega), pk_rem (by omega) (by decide) (by decide), show (2 * d - 1) % 2 = 1 by omega, if_neg nI_10, nI_1, nI_add, pk_div (by omega) (by decide) (by decide), show (2 * d - 1 + 1) / 2 = d by omega, srch]
    obtain ⟨X3, r1, r2⟩ := n_cand H (nI (shw c s 3) - nI d) (fun X_2013 v11_2012 => k X_2013 (nI (shw c s 3) - nI d) v11_2012) (fun X_2014 => f_X5_isPlacedAgain_L100 k v1 (nI x) (nI (shw c s 3)) (nI (shw c s 7)) (nI (mins c s)) (nI (c 12)) (f' + 1) X_2014 (nI (2 * d - 1 + 1))) v1 (nI (shw c s 3)) (nI (c 12)) (nI (2 * d - 1)) hX
    rw [r2]
    cases e : fndV c s x (nI (shw c s 3) - nI d) with
    | some h => exact ⟨X3, r1, rfl⟩
    | none =>
      show ∃ X3_1, SIx X X3_1 b s (shw c s 1) (shw c s 2) ∧ f_X5_isPlacedAgain_L100 k v1 (nI x) (nI (shw c s 3)) (nI (shw c s 7)) (nI (mins c s)) (nI (c 12)) (f' + 1) X3 (nI (2 * d - 1 + 1)) = _
      rw [f_X5_isPlacedAgain_L100, pk_mul, if_neg (fun q => by rw [nI_ltI (by omega) (by omega)] at q; omega), pk_rem (by omega) (by decide) (by decide), show (2 * d - 1 + 1) % 2 = 0 by omega, if_pos nI_0, nI_1, nI_add, pk_div (by omega) (by decide) (by decide), show (2 * d - 1 + 1 + 1) / 2 = d by omega]
      obtain ⟨X4, t1, t2⟩ := n_cand H (nI (shw c s 3) + nI d) (fun X_2016 v11_2015 => k X_2016 (nI (shw c s 3) + nI d) v11_2015) (fun X_2017 => f_X5_isPlacedAgain_L100 k v1 (nI x) (nI (shw c s 3)) (nI (shw c s 7)) (nI (mins c s)) (nI (c 12)) f' X_2017 (nI (2 * d - 1 + 1 + 1))) v1 (nI (shw c s 3)) (nI (c 12)) (nI (2 * d - 1 + 1)) r1
      rw [t2]
      cases e2 : fndV c s x (nI (shw c s 3) + nI d) with
      | some h => exact ⟨X4, t1, rfl⟩
      | none =>
        have h9 := ih (d + 1) f' X4 (by omega) (by omega) (by omega) t1
        rw [show 2 * (d + 1) - 1 = 2 * d - 1 + 1 + 1 by omega] at h9
        exact h9
/-- the whole search -/
def found (c : Nat → Nat) (s x : Nat) : Option (Nat × Int32) := srch c s x 0 (c 12 + 1)
theorem m_found {s x : Nat} (H : SH0 X Y b c s x) : ∃ Y3, SIy Y Y3 ∧ f_X6_findsPlace Y (nI s) = (match found c s x with | none => some (nI 0, Y3) | some (h, v) => some (nI 1, zU (zU Y3 0 22 (nI h)) 0 23 v)) := by
  have g4 := H.hG.c4
  have hs := H.hs
  have g12 : c 12 ≤ 120 := H.hG.1.2.2.2.2.2.2.2.2.2.2.2.1
  unfold f_X6_findsPlace
  rw [m_shw H.hR (by omega) (by decide), Option.bind_some]
  exact m_srch H (c 12 + 1) 0 zFuel Y (Nat.zero_add _) (by show _ < 5000; omega) ⟨FY.rf Y, rfl⟩
theorem n_found {s x : Nat} (H : SH0 X Y b c s x) (k : (Nat → Nat → Int32) → Int32 → Int32 → Option (Int32 × (Nat → Nat → Int32))) (v1 : Int32) (hX : SIx X X2 b s (shw c s 1) (shw c s 2)) : ∃ X3, SIx X X3 b s (shw c s 1) (shw c s 2) ∧ f_X5_isPlacedAgain_L100 k v1 (nI x) (nI (shw c s 3)) (nI (shw c s 7)) (nI (mins c s)) (nI (c 12)) zFuel X2 (nI 0) = (match found c s x with | none => some (nI 0, X3) | some (h, v) => k X3 v (nI h)) := by
  have g12 : c 12 ≤ 120 := H.hG.1.2.2.2.2.2.2.2.2.2.2.2.1
  unfold found
  rw [srch]
  show ∃ X3, _ ∧ f_X5_isPlacedAgain_L100 k v1 (nI x) (nI (shw c s 3)) (nI (shw c s 7)) (nI (mins c s)) (nI (c 12)) (4999 + 1) X2 (nI 0) = _
  rw [f_X5_isPlacedAgain_L100, pk_mul, if_neg (fun q => by rw [nI_ltI (by omega) (by omega)] at q; omega), pk_rem (by decide) (by decide) (by decide), if_pos (by decide), nI_1, nI_add, pk_div (by decide) (by decide) (by decide)]
  have e0 : nI (shw c s 3) - nI 0 = nI (shw c s 3) + nI ((0 + 1) / 2) := by rw [nI_add, pk_sub (Nat.zero_le _)]; rfl
  have e1 : nI (shw c s 3) + nI 0 = nI (shw c s 3) + nI ((0 + 1) / 2) := rfl
  rw [e0, e1]
  obtain ⟨X3, r1, r2⟩ := n_cand H (nI (shw c s 3) + nI ((0 + 1) / 2)) (fun X_2016 v11_2015 => k X_2016 (nI (shw c s 3) + nI ((0 + 1) / 2)) v11_2015) (fun X_2017 => f_X5_isPlacedAgain_L100 k v1 (nI x) (nI (shw c s 3)) (nI (shw c s 7)) (nI (mins c s)) (nI (c 12)) 4999 X_2017 (nI (0 + 1))) v1 (nI (shw c s 3)) (nI (c 12)) (nI 0) hX
  rw [r2]
  cases e : fndV c s x (nI (shw c s 3) + nI ((0 + 1) / 2)) with
  | some h => exact ⟨X3, r1, rfl⟩
  | none => exact n_srch H k v1 (c 12) 1 4999 X3 (by omega) (Nat.le_refl _) (by omega) r1
end SR2
