section BE
variable {X Y : Nat → Nat → Int32} {a : Nat → Nat}
theorem n_mask (h : zRB X 1 a) (hG : Gd a) {f d : Nat} (hf : f < a 2) (hd : d < 2 ^ 31) (k : Int32 → Option Int32) (v3 : Int32) : f_X3_bestReel_L16 k X (nI f) (nI d) v3 zFuel (nI 0) (nI 0) = k (nI (maskA a f d)) := by
  have h3 := hG.c3
  have key : ∀ (n s acc fu : Nat), s + n = a 3 → n < fu → f_X3_bestReel_L16 k X (nI f) (nI d) v3 fu (nI acc) (nI s) = k (nI (fmk (fun t => zfb a t f d) s n acc)) := by
    intro n
    induction n with
    | zero =>
      intro s acc fu hs hf
      obtain ⟨fu', rfl, -⟩ := fu_s hf
      rw [f_X3_bestReel_L16, n_size (n_nT h), if_pos (nI_le (by omega) (by omega))]
      rfl
    | succ n ih =>
      intro s acc fu hs hfu
      obtain ⟨fu', rfl, hf2⟩ := fu_s hfu
      have hx : s < a 3 := by omega
      rw [f_X3_bestReel_L16, n_size (n_nT h), if_neg (nI_ge hx (by omega)), nI_1, fmk]
      rcases n_isFitting h hG hx hf hd with ⟨e, q⟩ | ⟨e, q⟩
      · rw [e, if_neg nI_10, z_sh1 (by omega), z_or, if_pos (zfb_iff.mpr q), ih (s + 1) _ fu' (by omega) (hf2 n rfl)]
      · rw [e, if_pos nI_0, if_neg (fun z => q (zfb_iff.mp z)), ih (s + 1) _ fu' (by omega) (hf2 n rfl)]
  exact key (a 3) 0 0 zFuel (Nat.zero_add _) (by show a 3 < 5000; omega)
theorem m_mask (hR : RM (Y 1) a) (hG : Gd a) {f d : Nat} (hf : f < a 2) (hd : d < 2 ^ 31) (k : Int32 → Option Int32) : f_X6_bestReel_L5 k Y (nI f) (nI d) zFuel (nI 0) (nI 0) = k (nI (maskA a f d)) := by
  have h3 := hG.c3
  have key : ∀ (n s acc fu : Nat), s + n = a 3 → n < fu → f_X6_bestReel_L5 k Y (nI f) (nI d) fu (nI acc) (nI s) = k (nI (fmk (fun t => zfb a t f d) s n acc)) := by
    intro n
    induction n with
    | zero =>
      intro s acc fu hs hf
      obtain ⟨fu', rfl, -⟩ := fu_s hf
      rw [f_X6_bestReel_L5, m_nT hR, if_pos (nI_le (by omega) (by omega))]
      rfl
    | succ n ih =>
      intro s acc fu hs hfu
      obtain ⟨fu', rfl, hf2⟩ := fu_s hfu
      have hx : s < a 3 := by omega
      rw [f_X6_bestReel_L5, m_nT hR, if_neg (nI_ge hx (by omega)), nI_1, fmk]
      rcases m_doesFit hR hG hx hf hd with ⟨e, q⟩ | ⟨e, q⟩
      · rw [e, Option.bind_some, if_neg nI_10, z_sh1 (by omega), z_or, if_pos (zfb_iff.mpr q), ih (s + 1) _ fu' (by omega) (hf2 n rfl)]
      · rw [e, Option.bind_some, if_pos nI_0, z_or0, if_neg (fun z => q (zfb_iff.mp z)), ih (s + 1) _ fu' (by omega) (hf2 n rfl)]
  exact key (a 3) 0 0 zFuel (Nat.zero_add _) (by show a 3 < 5000; omega)
theorem n_bestReel (h : zRB X 1 a) (hG : Gd a) {f d : Nat} (hf : f < a 2) (hd : d < 2 ^ 31) : f_X3_bestReel X (nI f) (nI d) = some (nI (bestR a f d)) := by
  unfold f_X3_bestReel
  rw [n_mask h hG hf hd, show f_X4_get X 12 26 (nI 0) (nI 3) = nI (a 11) from n_set h (by decide)]
  have hb : a 11 ≤ 20 := hG.1.2.2.2.2.2.2.2.2.2.2.1
  have key : ∀ (n r b fu : Nat), r + n = 1024 → n < fu → f_X3_bestReel_L63 X (nI (a 11)) (nI (maskA a f d)) fu (nI b) (nI (lenR a (nI b))) (nI r) = some (nI (rFold a (maskA a f d) r n b)) := by
    intro n
    induction n with
    | zero =>
      intro r b fu hs hfu
      obtain ⟨fu', rfl, -⟩ := fu_s hfu
      rw [f_X3_bestReel_L63, if_pos (nI_le (by omega) (by omega))]
      rfl
    | succ n ih =>
      intro r b fu hs hfu
      obtain ⟨fu', rfl, hf2⟩ := fu_s hfu
      have l1 := lenR_le hG (nI r)
      have l2 := lenR_le hG (nI b)
      have hno : ∀ (_ : ¬ rTake a (maskA a f d) b r), f_X3_bestReel_L63 X (nI (a 11)) (nI (maskA a f d)) fu' (nI b) (nI (lenR a (nI b))) (nI (r + 1)) = some (nI (rFold a (maskA a f d) r (n + 1) b)) := fun q => by
        rw [rFold_f q]
        exact ih (r + 1) b fu' (by omega) (hf2 n rfl)
      have hyes : ∀ (_ : rTake a (maskA a f d) b r), f_X3_bestReel_L63 X (nI (a 11)) (nI (maskA a f d)) fu' (nI r) (nI (lenR a (nI r))) (nI (r + 1)) = some (nI (rFold a (maskA a f d) r (n + 1) b)) := fun q => by
        rw [rFold_t q]
        exact ih (r + 1) r fu' (by omega) (hf2 n rfl)
      rw [f_X3_bestReel_L63, if_neg (nI_ge (by omega) (by omega)), nI_1]
      by_cases c1 : (nI r &&& (nI (maskA a f d) ^^^ (-1 : Int32))) = 0
      · rw [if_pos c1]
        by_cases c2 : nI 4 < f_J6_bitCount_0f7a4 (nI r)
        · rw [if_pos c2]
          exact hno (fun q => q.2.1 c2)
        · rw [if_neg c2, n_reelMinutes h hG, Option.bind_some]
          by_cases c3 : lenR a (nI b) < lenR a (nI r)
          · rw [if_pos (nI_lt c3 (by omega))]
            by_cases c4 : a 11 < lenR a (nI r)
            · rw [if_pos (nI_lt c4 (by omega))]
              exact hno (fun q => by have := q.2.2.1; omega)
            · rw [if_neg (nI_nlt (by omega) (by omega))]
              exact hyes ⟨c1, c2, by omega, Or.inl c3⟩
          · rw [if_neg (nI_nlt (by omega) (by omega))]
            by_cases c5 : lenR a (nI r) = lenR a (nI b)
            · rw [if_pos (by rw [c5])]
              by_cases c6 : f_X3_isAhead (nI r) (nI b) = 0
              · rw [if_pos c6, ite_self]
                exact hno (fun q => q.2.2.2.elim c3 (fun z => z.2 c6))
              · rw [if_neg c6]
                by_cases c4 : a 11 < lenR a (nI r)
                · rw [if_pos (nI_lt c4 (by omega))]
                  exact hno (fun q => by have := q.2.2.1; omega)
                · rw [if_neg (nI_nlt (by omega) (by omega))]
                  exact hyes ⟨c1, c2, by omega, Or.inr ⟨c5, c6⟩⟩
            · rw [if_neg (fun q => c5 ((nI_eq (by omega) (by omega)).mp q)), ite_self]
              exact hno (fun q => q.2.2.2.elim c3 (fun z => c5 z.1))
      · rw [if_neg c1]
        exact hno (fun q => c1 q.1)
  have h1 := key 1023 1 0 zFuel (by decide) (by decide)
  rw [lenR_0] at h1
  exact h1
theorem m_isBetter (hR : RM (Y 1) a) (hG : Gd a) (r b : Int32) : f_X6_isBetter Y r b = some (if lenR a r = lenR a b then f_X3_isAhead r b else if lenR a r ≤ lenR a b then nI 0 else nI 1) := by
  have l1 := lenR_le hG r
  have l2 := lenR_le hG b
  unfold f_X6_isBetter f_X3_isAhead
  rw [m_lengthOf hR hG, m_lengthOf hR hG, Option.bind_some, Option.bind_some]
  by_cases c : lenR a r = lenR a b
  · rw [if_pos (by rw [c]), if_pos c]
    by_cases d1 : f_J6_bitCount_0f7a4 r = f_J6_bitCount_0f7a4 b
    · rw [if_pos d1, if_pos d1]
      by_cases d2 : r &&& (r ^^^ b) &&& -(r ^^^ b) = 0
      · rw [if_pos d2, if_pos d2]
      · rw [if_neg d2, if_neg d2]
    · rw [if_neg d1, if_neg d1]
      by_cases d2 : f_J6_bitCount_0f7a4 b ≤ f_J6_bitCount_0f7a4 r
      · rw [if_pos d2, if_pos d2]
      · rw [if_neg d2, if_neg d2]
  · rw [if_neg (fun q => c ((nI_eq (by omega) (by omega)).mp q)), if_neg c, Option.bind_some, Option.bind_some]
    by_cases c2 : lenR a r ≤ lenR a b
    · rw [if_pos (nI_le c2 (by omega)), if_pos c2]
    · rw [if_neg (nI_ge (by omega) (by omega)), if_neg c2]
theorem m_bestReel (hR : RM (Y 1) a) (hG : Gd a) {f d : Nat} (hf : f < a 2) (hd : d < 2 ^ 31) : f_X6_bestReel Y (nI f) (nI d) = some (nI (bestR a f d)) := by
  unfold f_X6_bestReel
  rw [m_mask hR hG hf hd]
  have hb : a 11 ≤ 20 := hG.1.2.2.2.2.2.2.2.2.2.2.1
  have h3 := hG.c3
  have hlim : nI 1 <<< (Y 1 (nI 3).toNatClampNeg &&& 31) = nI (2 ^ a 3) := by rw [m_nT hR, z_sh1 (by omega)]
  have h2 : (2 : Nat) ^ a 3 ≤ 2 ^ 10 := Nat.pow_le_pow_right (by decide) h3
  have h21 : 1 ≤ (2 : Nat) ^ a 3 := Nat.one_le_two_pow
  have hblk : Y 1 (nI 11).toNatClampNeg = nI (a 11) := hR.lo (by decide)
  have key : ∀ (n r b fu : Nat), r + n = 2 ^ a 3 → n < fu → f_X6_bestReel_L50 Y (nI (maskA a f d)) fu (nI b) (nI r) = some (nI (rFold a (maskA a f d) r n b)) := by
    intro n
    induction n with
    | zero =>
      intro r b fu hs hfu
      obtain ⟨fu', rfl, -⟩ := fu_s hfu
      rw [f_X6_bestReel_L50, hlim, if_pos (nI_le (by omega) (by omega))]
      rfl
    | succ n ih =>
      intro r b fu hs hfu
      obtain ⟨fu', rfl, hf2⟩ := fu_s hfu
      have l1 := lenR_le hG (nI r)
      have l2 := lenR_le hG (nI b)
      have hno : ∀ (_ : ¬ rTake a (maskA a f d) b r), f_X6_bestReel_L50 Y (nI (maskA a f d)) fu' (nI b) (nI (r + 1)) = some (nI (rFold a (maskA a f d) r (n + 1) b)) := fun q => by
        rw [rFold_f q]
        exact ih (r + 1) b fu' (by omega) (hf2 n rfl)
      have hyes : ∀ (_ : rTake a (maskA a f d) b r), f_X6_bestReel_L50 Y (nI (maskA a f d)) fu' (nI r) (nI (r + 1)) = some (nI (rFold a (maskA a f d) r (n + 1) b)) := fun q => by
        rw [rFold_t q]
        exact ih (r + 1) r fu' (by omega) (hf2 n rfl)
      rw [f_X6_bestReel_L50, hlim, if_neg (nI_ge (by omega) (by omega)), nI_1, hblk]
      by_cases c1 : (nI r &&& (nI (maskA a f d) ^^^ (-1 : Int32))) = 0
      · rw [if_pos c1]
        by_cases c2 : nI 4 < f_J6_bitCount_0f7a4 (nI r)
        · rw [if_pos c2]
          exact hno (fun q => q.2.1 c2)
        · rw [if_neg c2, m_lengthOf hR hG, Option.bind_some]
          by_cases c4 : a 11 < lenR a (nI r)
          · rw [if_pos (nI_lt c4 (by omega))]
            exact hno (fun q => by have := q.2.2.1; omega)
          · rw [if_neg (nI_nlt (by omega) (by omega)), m_isBetter hR hG, Option.bind_some]
            by_cases c5 : lenR a (nI r) = lenR a (nI b)
            · rw [if_pos c5]
              by_cases c6 : f_X3_isAhead (nI r) (nI b) = 0
              · rw [if_pos c6]
                exact hno (fun q => q.2.2.2.elim (by omega) (fun z => z.2 c6))
              · rw [if_neg c6]
                exact hyes ⟨c1, c2, by omega, Or.inr ⟨c5, c6⟩⟩
            · rw [if_neg c5]
              by_cases c7 : lenR a (nI r) ≤ lenR a (nI b)
              · rw [if_pos c7, if_pos nI_0]
                exact hno (fun q => q.2.2.2.elim (by omega) (fun z => c5 z.1))
              · rw [if_neg c7, if_neg nI_10]
                exact hyes ⟨c1, c2, by omega, Or.inl (by omega)⟩
      · rw [if_neg c1]
        exact hno (fun q => c1 q.1)
  have h1 := key (2 ^ a 3 - 1) 1 0 zFuel (by omega) (by show 2 ^ a 3 - 1 < 5000; omega)
  have h5 := rFold_add (a := a) (mk := maskA a f d) (2 ^ a 3 - 1) (1024 - 2 ^ a 3) 1 0
  rw [show 2 ^ a 3 - 1 + (1024 - 2 ^ a 3) = 1023 by omega, show 1 + (2 ^ a 3 - 1) = 2 ^ a 3 by omega, rFold_off (maskA_lt a f d) _ _ _ (Nat.le_refl _) (by omega)] at h5
  unfold bestR
  rw [h5]
  exact h1
theorem sim_reel (h : zRB X 1 a) (hR : RM (Y 1) a) (hG : Gd a) (v1 v2 v3 : Int32) : zSimR X Y K31 (f_X5_reel X v1 v2 v3) (f_X6_reel Y v1 v2 v3) := by
  unfold f_X5_reel f_X6_reel
  rcases film_cases h hR hG v1 with ⟨e1, e2⟩ | ⟨e1, e2, x, hx, rfl⟩
  · rw [e1, e2, if_pos nI_0, if_pos nI_0]
    exact .mk 3 0 (nI 0) rfl rfl (by decide)
  · rw [e1, e2, if_neg nI_10, if_neg nI_10]
    rcases day_cases v2 with ⟨e3, e4⟩ | ⟨e3, e4, d, hd, rfl⟩
    · rw [e3, e4, if_pos nI_0, if_pos nI_0]
      exact .mk 1 0 (nI 0) rfl rfl (by decide)
    · rw [e3, e4, if_neg nI_10, if_neg nI_10, n_bestReel h hG hx (by omega), m_bestReel hR hG hx (by omega), Option.bind_some, Option.bind_some]
      by_cases c : v3 = 0
      · rw [if_pos c, if_pos c]
        exact .mk 0 _ _ rfl rfl (fun _ => rfl)
      · rw [if_neg c, if_neg c, n_reelMinutes h hG, m_lengthOf hR hG]
        exact .mk 0 _ _ rfl rfl (fun _ => rfl)
end BE
