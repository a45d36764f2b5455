/-! perform: both sides agree -/
section PF0
variable {X Y X' Y' : Nat → Nat → Int32} {a : Nat → Nat}
theorem zInv.xr {q : Nat} (h : zInv q X Y a) (hx : ∀ r, r ≤ 148 → X' r = X r) (h1 : X' 150 1 = X 150 1) (h2 : X' 150 2 = X 150 2) : zInv q X' Y a := by
  obtain ⟨hB, hR, hG, ⟨⟨n, s, n8, s8, y3, x2, x1, hh⟩, ⟨hc1, hc2⟩, hs, hr, he, hO, r1, r2⟩, h7⟩ := h
  refine ⟨zRB_cong (fun r q1 q2 => hx r (by omega)) hB, hR, hG, ⟨⟨n, s, n8, s8, y3, by rw [hx 27 (by decide)]; exact x2, by rw [hx 27 (by decide)]; exact x1, fun i hi => ?_⟩, ⟨zCon_cong (fun r q1 q2 => hx r (by omega)) hc1, fun i hi => zCon_cong (fun r q1 q2 => hx r (by omega)) (hc2 i hi)⟩, ?_, ?_, ?_, ?_, by rw [h1]; exact r1, by rw [h2]; exact r2⟩, h7⟩
  · obtain ⟨b, b1, b2, b3⟩ := hh i hi
    have hl := sl_lt s n i
    exact ⟨b, b1, b2, zRB_cong (fun r q1 q2 => hx r (by omega)) b3⟩
  · unfold zSav at hs ⊢
    rw [hx 0 (by decide)]
    rcases hs with hs | ⟨s1, s2, b, b1, b2, b3⟩
    · exact Or.inl hs
    · exact Or.inr ⟨s1, s2, b, b1, b2, zRB_cong (fun r q1 q2 => hx r (by omega)) b3⟩
  · unfold zRsn at hr ⊢
    rw [hx 0 (by decide)]
    exact hr
  · unfold zErr at he ⊢
    rw [hx 0 (by decide)]
    exact he
  · unfold oCon at hO ⊢
    rw [hx 147 (by decide)]
    exact hO
theorem zInv.err {q : Nat} (h : zInv q X Y a) (v : Int32) : zInv q (zU X 0 10 v) (zU Y 0 12 v) a := by
  obtain ⟨hB, hR, hG, ⟨⟨n, s, n8, s8, y3, x2, x1, hh⟩, ⟨hc1, hc2⟩, hs, hr, he, hO, r1, r2⟩, h7⟩ := h
  have hx : ∀ r, r ≠ 0 → zU X 0 10 v r = X r := fun r q => zU_r _ _ _ _ q
  refine ⟨zRB_cong (fun r q1 q2 => hx r (by omega)) hB, by rw [zU_r _ _ _ _ (by decide)]; exact hR, hG, ⟨⟨n, s, n8, s8, by rw [zU_k _ _ _ _ (by decide)]; exact y3, by rw [hx 27 (by decide)]; exact x2, by rw [hx 27 (by decide)]; exact x1, fun i hi => ?_⟩, ⟨zCon_cong (fun r q1 q2 => hx r (by omega)) hc1, fun i hi => zCon_cong (fun r q1 q2 => hx r (by omega)) (hc2 i hi)⟩, ?_, ?_, ?_, ?_, by rw [hx 150 (by decide)]; exact r1, by rw [hx 150 (by decide)]; exact r2⟩, by rw [zU_k _ _ _ _ (by decide)]; exact h7⟩
  · obtain ⟨b, b1, b2, b3⟩ := hh i hi
    have hl := sl_lt s n i
    exact ⟨b, b1, by rw [zU_r _ _ _ _ (by decide)]; exact b2, zRB_cong (fun r q1 q2 => hx r (by omega)) b3⟩
  · unfold zSav at hs ⊢
    rw [zU_k _ _ _ _ (by decide), zU_k _ _ _ _ (by decide), zU_r _ _ _ _ (by decide)]
    rcases hs with hs | ⟨s1, s2, b, b1, b2, b3⟩
    · exact Or.inl hs
    · exact Or.inr ⟨s1, s2, b, b1, b2, zRB_cong (fun r q1 q2 => hx r (by omega)) b3⟩
  · unfold zRsn at hr ⊢
    rw [zU_k _ _ _ _ (by decide), zU_k _ _ _ _ (by decide), zU_k _ _ _ _ (by decide), zU_k _ _ _ _ (by decide)]
    exact hr
  · unfold zErr
    rw [zU_s, zU_s]
  · unfold oCon at hO ⊢
    rw [hx 147 (by decide)]
    exact hO
theorem zInv.quiet {q : Nat} (h : zInv q X Y a) (q2 : Nat) : zInv q2 X (zU Y 0 7 (nI q2)) a := by
  obtain ⟨p1, p2, p3, p4, -⟩ := h
  refine ⟨p1, by rw [zU_r _ _ _ _ (by decide)]; exact p2, p3, ?_, zU_s _ _ _ _⟩
  obtain ⟨⟨n, s, n8, s8, y3, x2, x1, hh⟩, hc, hs, hr, he, hrest⟩ := p4
  refine ⟨⟨n, s, n8, s8, by rw [zU_k _ _ _ _ (by decide)]; exact y3, x2, x1, fun i hi => by rw [zU_r _ _ _ _ (by decide)]; exact hh i hi⟩, hc, ?_, ?_, ?_, hrest⟩
  · unfold zSav at hs ⊢
    rw [zU_k _ _ _ _ (by decide), zU_r _ _ _ _ (by decide)]
    exact hs
  · unfold zRsn at hr ⊢
    rw [zU_k _ _ _ _ (by decide), zU_k _ _ _ _ (by decide)]
    exact hr
  · unfold zErr at he ⊢
    rw [zU_k _ _ _ _ (by decide)]
    exact he
/-- the spare slot takes the state up -/
theorem zInv.spare {q : Nat} (h : zInv q X Y a) : zInv q (f_X0_keepSpare X) Y a ∧ (∃ s, s ≤ 8 ∧ X 27 1 = nI s ∧ zRB (f_X0_keepSpare X) (29 + 13 * s) a) ∧ ∀ r, r < 29 ∨ 146 ≤ r → f_X0_keepSpare X r = X r := by
  have h0 := h
  obtain ⟨hB, hR, hG, ⟨⟨n, s, n8, s8, y3, x2, x1, hh⟩, ⟨hc1, hc2⟩, hs, hr, he, hO, r1, r2⟩, h7⟩ := h
  obtain ⟨kB, kr⟩ := n_keepSpare h0 x2 x1 n8 s8
  have out : ∀ r, r < 29 ∨ 146 ≤ r → f_X0_keepSpare X r = X r := fun r hr => kr r (by omega)
  refine ⟨⟨zRB_cong (fun r q1 q2 => out r (by omega)) hB, hR, hG, ⟨⟨n, s, n8, s8, y3, by rw [out 27 (by decide)]; exact x2, by rw [out 27 (by decide)]; exact x1, fun i hi => ?_⟩, ⟨zCon_cong (fun r q1 q2 => out r (by omega)) hc1, fun i hi => ?_⟩, ?_, ?_, ?_, ?_, by rw [out 150 (by decide)]; exact r1, by rw [out 150 (by decide)]; exact r2⟩, h7⟩, ⟨s, s8, x1, kB⟩, out⟩
  · obtain ⟨b, b1, b2, b3⟩ := hh i hi
    have hl := sl_ne n8 s8 hi
    exact ⟨b, b1, b2, zRB_cong (fun r q1 q2 => kr r (by omega)) b3⟩
  · by_cases c : i = s
    · subst c; exact kB.con
    · exact zCon_cong (fun r q1 q2 => kr r (by omega)) (hc2 i hi)
  · unfold zSav at hs ⊢
    rw [out 0 (by decide)]
    rcases hs with hs | ⟨s1, s2, b, b1, b2, b3⟩
    · exact Or.inl hs
    · exact Or.inr ⟨s1, s2, b, b1, b2, zRB_cong (fun r q1 q2 => out r (by omega)) b3⟩
  · unfold zRsn at hr ⊢
    rw [out 0 (by decide)]
    exact hr
  · unfold zErr at he ⊢
    rw [out 0 (by decide)]
    exact he
  · unfold oCon at hO ⊢
    rw [out 147 (by decide)]
    exact hO
/-- a command while the reference is quiet -/
theorem zCore.go {flt : Int32} {X1 : Nat → Nat → Int32} {chg : (Nat → Nat → Int32) → Option (Int32 × (Nat → Nat → Int32))} {g : Option (Int32 × (Nat → Nat → Int32))} {Kf : Nat → Nat} (hc : zCore 1 X Y a flt X1 chg g Kf) (hK : ∀ n, 1 ≤ n → n ≤ 4 → Kf n ≠ 0 ∧ Kf n < 100) :
    (¬ flt = 0 ∧ ∃ Y1 b, g = some (b, Y1) ∧ ¬ Y1 0 0 = 0 ∧ zInv 1 X1 Y1 a ∧ FXr X X1 ∧ FYr Y Y1) ∨
    (flt = 0 ∧ ∃ v X' Y' a', chg X1 = some (v, X') ∧ g = some (v, Y') ∧ Y' 0 0 = 0 ∧ zInv 1 X' Y' a' ∧ FXr X X' ∧ FYr Y Y') := by
  rcases hc with ⟨n, Y1, b, e1, l1, l2, e2, e3, hI, hx, hy⟩ | ⟨e1, Z1, hI, hx, hy, hgo⟩
  · obtain ⟨k1, k2⟩ := hK n l1 l2
    exact Or.inl ⟨by rw [e1]; exact nI_ne0 (by omega) (by omega), Y1, b, e2, by rw [e3]; exact nI_ne0 (by omega) (by omega), hI, hx, hy⟩
  · have er : f_X6_remembers Z1 = some Z1 := by
      unfold f_X6_remembers
      rw [hI.2.2.2.2, if_neg nI_10]
    obtain ⟨v, X', Y', a', c1, c2, c3, c4, c5, c6⟩ := hgo X1 Z1 er hI
    exact Or.inr ⟨by rw [e1]; rfl, v, X', Y', a', c1, c2, by rw [c3]; rfl, c4, hx.tr c5, hy.tr c6⟩
theorem r_does (h : zInv 1 X Y a) {i : Nat} (hi : i < 8) (hW : RW X Y i) :
    ∃ X' Y' a' b, f_X5_isCarriedOut X (nI i) = some (nI b, X') ∧ f_X6_does Y (nI (5 * i)) = some (nI b, Y') ∧ b ≤ 1 ∧ zInv 1 X' Y' a' ∧ FXr X X' ∧ FYr Y Y' := by
  have h5 : X 150 1 = nI 5 := h.2.2.2.1.2.2.2.2.2.2.1
  have gt : ∀ c, c < 5 → f_X4_get X 150 40 (nI i) (nI c) = X 151 (5 * i + c) := fun c hc => by rw [c_get_in (c := 5) h5 (by decide) (by omega), Nat.mul_comm]
  have ix : ∀ c, c < 5 → ¬ (nI (5 * i + c) < 0 ∨ 300 ≤ (nI (5 * i + c)).toNatClampNeg) := fun c hc => nI_in (by omega) (by decide)
  have cp : ∀ c, c < 5 → (nI (5 * i + c)).toNatClampNeg = 5 * i + c := fun c hc => nI_clamp (by omega)
  have ix0 : ¬ (nI (5 * i) < 0 ∨ 300 ≤ (nI (5 * i)).toNatClampNeg) := ix 0 (by decide)
  have cp0 : (nI (5 * i)).toNatClampNeg = 5 * i := cp 0 (by decide)
  obtain ⟨w, w5, w1, w2, w3⟩ := hW
  have g0 : f_X4_get X 150 40 (nI i) (nI 0) = nI w := (gt 0 (by decide)).trans w1
  have hK3 : ∀ n : Nat, 1 ≤ n → n ≤ 4 → n ≠ 0 ∧ n < 100 := fun n q1 q2 => ⟨by omega, by omega⟩
  unfold f_X5_isCarriedOut f_X6_does
  rw [g0, gt 1 (by decide), gt 2 (by decide), gt 3 (by decide), gt 4 (by decide)]
  simp only [nI_add]
  rw [if_neg (ix 1 (by decide)), if_neg (ix 2 (by decide)), if_neg ix0, cp0, cp 1 (by decide), cp 2 (by decide), w2]
  match w, w5 with
  | 0, _ =>
    rw [if_pos rfl, if_pos rfl, if_neg (ix 3 (by decide)), if_neg (ix 4 (by decide)), cp 3 (by decide), cp 4 (by decide), show X 151 (5 * i + 1) = Y 7 (5 * i + 1) from w3 0 (by decide), show X 151 (5 * i + 2) = Y 7 (5 * i + 2) from w3 1 (by decide), show X 151 (5 * i + 3) = Y 7 (5 * i + 3) from w3 2 (by decide), show X 151 (5 * i + 4) = Y 7 (5 * i + 4) from w3 3 (by decide)]
    obtain ⟨flt, X1, ef, hc⟩ := plan_core h (Y 7 (5 * i + 1)) (Y 7 (5 * i + 2)) (Y 7 (5 * i + 3)) (Y 7 (5 * i + 4))
    rw [ef, Option.bind_some]
    rcases hc.go (fun n q1 q2 => by unfold Kp; split <;> (try split) <;> omega) with ⟨nf, Y1, b, e2, e3, hI, hx, hy⟩ | ⟨e1, v, X', Y', a', c1, c2, c3, c4, c5, c6⟩
    · rw [e2, Option.bind_some]
      dsimp only
      rw [if_neg nf, if_neg e3]
      exact ⟨X1, Y1, a, 0, rfl, rfl, by decide, hI, hx, hy⟩
    · have c1' : f_X3_addShow X1 (Y 7 (5 * i + 1)) (Y 7 (5 * i + 2)) (Y 7 (5 * i + 3)) (Y 7 (5 * i + 4)) = some (v, X') := c1
      rw [c2, Option.bind_some]
      dsimp only
      rw [if_pos e1, c1', Option.bind_some, if_pos c3]
      exact ⟨X', Y', a', 1, rfl, rfl, by decide, c4, c5, c6⟩
  | 1, _ =>
    rw [if_neg (show ¬ nI 1 = nI 0 by decide), if_neg (show ¬ nI 1 = nI 0 by decide), if_pos rfl, if_pos rfl, show X 151 (5 * i + 1) = Y 7 (5 * i + 1) from w3 0 (by decide), show X 151 (5 * i + 2) = Y 7 (5 * i + 2) from w3 1 (by decide)]
    have hc := sell_core h (Y 7 (5 * i + 1)) (Y 7 (5 * i + 2))
    rw [zlet_eq]
    rcases hc.go hK3 with ⟨nf, Y1, b, e2, e3, hI, hx, hy⟩ | ⟨e1, v, X', Y', a', c1, c2, c3, c4, c5, c6⟩
    · rw [e2, Option.bind_some]
      dsimp only
      rw [if_neg nf, if_neg e3]
      exact ⟨_, Y1, a, 0, rfl, rfl, by decide, hI, hx, hy⟩
    · have c1' := Option.some.inj c1
      rw [c2, Option.bind_some]
      dsimp only at c1' ⊢
      rw [if_pos e1, zlet_eq, c1', if_pos c3]
      exact ⟨X', Y', a', 1, rfl, rfl, by decide, c4, c5, c6⟩
  | 2, _ =>
    rw [if_neg (show ¬ nI 2 = nI 0 by decide), if_neg (show ¬ nI 2 = nI 0 by decide), if_neg (show ¬ nI 2 = nI 1 by decide), if_neg (show ¬ nI 2 = nI 1 by decide), if_pos rfl, if_pos rfl, show X 151 (5 * i + 1) = Y 7 (5 * i + 1) from w3 0 (by decide)]
    have hc := cancel_core h (Y 7 (5 * i + 1))
    rcases hc.go (fun n q1 q2 => by unfold Kc; split <;> omega) with ⟨nf, Y1, b, e2, e3, hI, hx, hy⟩ | ⟨e1, v, X', Y', a', c1, c2, c3, c4, c5, c6⟩
    · rw [e2, Option.bind_some, if_neg nf]
      dsimp only
      rw [if_neg e3]
      exact ⟨X, Y1, a, 0, rfl, rfl, by decide, hI, hx, hy⟩
    · have c1' := Option.some.inj c1
      rw [c2, Option.bind_some, if_pos e1, zlet_eq]
      dsimp only at c1' ⊢
      rw [c1', if_pos c3]
      exact ⟨X', Y', a', 1, rfl, rfl, by decide, c4, c5, c6⟩
  | 3, _ =>
    rw [if_neg (show ¬ nI 3 = nI 0 by decide), if_neg (show ¬ nI 3 = nI 0 by decide), if_neg (show ¬ nI 3 = nI 1 by decide), if_neg (show ¬ nI 3 = nI 1 by decide), if_neg (show ¬ nI 3 = nI 2 by decide), if_neg (show ¬ nI 3 = nI 2 by decide), if_pos rfl, if_pos rfl, show X 151 (5 * i + 1) = Y 7 (5 * i + 1) from w3 0 (by decide), show X 151 (5 * i + 2) = Y 7 (5 * i + 2) from w3 1 (by decide)]
    have hc := fail_core h (Y 7 (5 * i + 1)) (Y 7 (5 * i + 2))
    rcases hc.go hK3 with ⟨nf, Y1, b, e2, e3, hI, hx, hy⟩ | ⟨e1, v, X', Y', a', c1, c2, c3, c4, c5, c6⟩
    · rw [e2, Option.bind_some, if_neg nf]
      dsimp only
      rw [if_neg e3]
      exact ⟨X, Y1, a, 0, rfl, rfl, by decide, hI, hx, hy⟩
    · have c1' : f_X5_closeHall X (Y 7 (5 * i + 1)) (Y 7 (5 * i + 2)) = some (v, X') := c1
      rw [c2, Option.bind_some, if_pos e1, c1', Option.bind_some]
      dsimp only
      rw [if_pos c3]
      exact ⟨X', Y', a', 1, rfl, rfl, by decide, c4, c5, c6⟩
  | 4, _ =>
    rw [if_neg (show ¬ nI 4 = nI 0 by decide), if_neg (show ¬ nI 4 = nI 0 by decide), if_neg (show ¬ nI 4 = nI 1 by decide), if_neg (show ¬ nI 4 = nI 1 by decide), if_neg (show ¬ nI 4 = nI 2 by decide), if_neg (show ¬ nI 4 = nI 2 by decide), if_neg (show ¬ nI 4 = nI 3 by decide), if_neg (show ¬ nI 4 = nI 3 by decide), if_pos rfl, show X 151 (5 * i + 1) = Y 7 (5 * i + 1) from w3 0 (by decide)]
    have hc := adv_core h (Y 7 (5 * i + 1))
    rcases hc.go (fun n q1 q2 => by omega) with ⟨nf, Y1, b, e2, e3, hI, hx, hy⟩ | ⟨e1, v, X', Y', a', c1, c2, c3, c4, c5, c6⟩
    · rw [e2, Option.bind_some, if_neg nf]
      dsimp only
      rw [if_neg e3]
      exact ⟨X, Y1, a, 0, rfl, rfl, by decide, hI, hx, hy⟩
    · have c1' := (Prod.mk.inj (Option.some.inj c1)).2
      rw [c2, Option.bind_some, if_pos e1, zlet_eq]
      dsimp only at c1' ⊢
      rw [c1', if_pos c3]
      exact ⟨X', Y', a', 1, rfl, rfl, by decide, c4, c5, c6⟩
theorem r_loop (kk : (Nat → Nat → Int32) → Int32 → Option (Int32 × (Nat → Nat → Int32))) {n : Nat} (n8 : n ≤ 8) : ∀ (m i fa fb : Nat) (X Y : Nat → Nat → Int32) (a : Nat → Nat), i + m = n → m < fa → m + 1 < fb → zInv 1 X Y a → X 150 3 = nI n → (∀ i, i < n → RW X Y i) →
    ∃ X' Y' a' b, f_X5_perform_L59 fa X (nI i) = (if b = 0 then some (5, 0, f_X0_bringSpareBack X') else some (0, f_X4_size (f_X0_countSpare X') 150 40, f_X0_countSpare X')) ∧ f_X6_perform_L124 kk (nI n) fb Y (nI 1) (nI i) = kk Y' (nI b) ∧ b ≤ 1 ∧ zInv 1 X' Y' a' ∧ FXr X X' ∧ FYr Y Y' := by
  intro m
  induction m with
  | zero =>
    intro i fa fb X Y a hi hfa hfb hI h3 _
    obtain ⟨fa', rfl, -⟩ := fu_s hfa
    obtain ⟨fb', rfl, -⟩ := fu_s hfb
    refine ⟨X, Y, a, 1, ?_, ?_, by decide, hI, (FX.rf X).r, (FY.rf Y).r⟩
    · rw [f_X5_perform_L59, show f_X4_size X 150 40 = nI n from h3, if_pos (nI_le (by omega) (by omega)), if_neg (by decide)]
    · rw [f_X6_perform_L124, if_pos (nI_le (by omega) (by omega))]
  | succ m ih =>
    intro i fa fb X Y a hi hfa hfb hI h3 hW
    obtain ⟨fa', rfl, hfa2⟩ := fu_s hfa
    obtain ⟨fb', rfl, hfb2⟩ := fu_s hfb
    obtain ⟨X1, Y1, a1, b, e1, e2, b1, hI1, hx, hy⟩ := r_does hI (show i < 8 by omega) (hW i (by omega))
    rw [f_X5_perform_L59, show f_X4_size X 150 40 = nI n from h3, if_neg (nI_ge (by omega) (by omega)), e1, Option.bind_some, f_X6_perform_L124, if_neg (nI_ge (by omega) (by omega)), if_neg nI_10, pk_mul, e2, Option.bind_some, nI_1]
    dsimp only
    match b, b1 with
    | 0, _ =>
      obtain ⟨fb'', rfl, -⟩ := fu_s (hfb2 (m + 1) rfl)
      rw [if_pos nI_0]
      refine ⟨X1, Y1, a1, 0, by rw [if_pos rfl], ?_, by decide, hI1, hx, hy⟩
      rw [f_X6_perform_L124]
      split
      · rfl
      · rw [if_pos nI_0]
    | 1, _ =>
      rw [if_neg nI_10]
      obtain ⟨X', Y', a', b', r1, r2, r3, r4, r5, r6⟩ := ih (i + 1) fa' fb' X1 Y1 a1 (by omega) (hfa2 m rfl) (hfb2 (m + 1) rfl) hI1 (by rw [hx.2 150 (by decide) (by decide) (by decide) (by decide)]; exact h3) (fun j hj => by
        obtain ⟨w, w1, w2, w3, w4⟩ := hW j hj
        have x1 : X1 151 = X 151 := hx.2 151 (by decide) (by decide) (by decide) (by decide)
        have y1 : Y1 7 = Y 7 := hy.1 7 (by decide)
        exact ⟨w, w1, by rw [x1]; exact w2, by rw [y1]; exact w3, fun z hz => by rw [x1, y1]; exact w4 z hz⟩)
      exact ⟨X', Y', a', b', r1, r2, r3, r4, hx.tr r5, hy.tr r6⟩
def K15 (c : Nat) : Nat := match c with
  | 0 => 0
  | 1 => 1
  | _ => 2
theorem sim_perform {t : Nat → Nat} {k : Nat} {f : Nat → Int32} (h : zInv 0 X Y a) (hT : zTIn t k Y) (hL : sb_Lat t k f) :
    ∃ (c : Nat) (v b : Int32) (X' Y' : Nat → Nat → Int32) (a' : Nat → Nat), f_X5_perform k f X = some (c, v, X') ∧ f_X6_perform Y = some (b, Y') ∧ Y' 0 0 = nI (K15 c) ∧ (c = 0 → v = b) ∧ zInv 0 X' Y' a' ∧ Y' 0 11 = nI 0 ∧ Y' 6 = Y 6 ∧ Y' 0 14 = Y 0 14 := by
  have hk := hT.1
  have h5 : X 150 1 = nI 5 := h.2.2.2.1.2.2.2.2.2.2.1
  have h8 : X 150 2 = nI 8 := h.2.2.2.1.2.2.2.2.2.2.2
  unfold f_X5_perform f_X1_isText f_X6_perform
  rw [zlet_eq, zlet_eq, zlet_eq]
  have eC : ∀ Z : Nat → Nat → Int32, f_X4_clear Z 150 40 = zU Z 150 3 (nI 0) := fun Z => rfl
  rw [eC]
  -- reading
  obtain ⟨X1, Y1, p, n, b, r1, r2, r3, r4, r5, r6, r7, r8, r9, r10, r11⟩ := r_text hL (fun X_1014 v1_1013 => (if (X_1014 0 11) ≤ (X_1014 0 24) then (if ¬ (((X_1014 0 25) ||| (nI 0)) = 0 ∨ ((X_1014 0 25) ||| (nI 0)) = 1) then none else (zlet (zU X_1014 0 25 ((X_1014 0 25) ||| (nI 0))) fun X_1017 => (zlet (zU X_1017 0 11 (nI 0)) fun X_1019 => (if (X_1019 0 25) = 0 then ((f_X6_copy X_1019 1 580 4 580 (nI 0) (nI 0)).bind fun q_1022 => (zlet (zU q_1022 0 7 (nI 1)) fun X_1024 => f_X6_perform_L124 (fun X_2031 v2_2030 => (zlet (zU X_2031 0 7 (nI 0)) fun X_2032 => (if v2_2030 = 0 then ((f_X6_copy X_2032 4 580 1 580 (nI 0) (nI 0)).bind fun q_2039 => (zlet (f_X6_fails q_2039 (nI 2)) fun q_2041 => some (q_2041.1, q_2041.2))) else ((f_X6_remembersRow X_2032 4 580).bind fun q_2035 => (zlet (f_X6_done q_2035 v1_1013) fun q_2037 => some (q_2037.1, q_2037.2)))))) v1_1013 zFuel X_1024 (nI 1) (nI 0))) else (zlet (zU X_1019 0 12 (X_1019 0 24)) fun X_2043 => (zlet (f_X6_fails X_2043 (nI 1)) fun q_2045 => some (q_2045.1, q_2045.2))))))) else (if ¬ (((X_1014 0 25) ||| (nI 1)) = 0 ∨ ((X_1014 0 25) ||| (nI 1)) = 1) then none else (zlet (zU X_1014 0 25 ((X_1014 0 25) ||| (nI 1))) fun X_2048 => (zlet (zU X_2048 0 11 (nI 0)) fun X_2050 => (if (X_2050 0 25) = 0 then ((f_X6_copy X_2050 1 580 4 580 (nI 0) (nI 0)).bind fun q_2053 => (zlet (zU q_2053 0 7 (nI 1)) fun X_2055 => f_X6_perform_L124 (fun X_2058 v2_2057 => (zlet (zU X_2058 0 7 (nI 0)) fun X_2059 => (if v2_2057 = 0 then ((f_X6_copy X_2059 4 580 1 580 (nI 0) (nI 0)).bind fun q_2066 => (zlet (f_X6_fails q_2066 (nI 2)) fun q_2068 => some (q_2068.1, q_2068.2))) else ((f_X6_remembersRow X_2059 4 580).bind fun q_2062 => (zlet (f_X6_done q_2062 v1_1013) fun q_2064 => some (q_2064.1, q_2064.2)))))) v1_1013 zFuel X_2055 (nI 1) (nI 0))) else (zlet (zU X_2050 0 12 (X_2050 0 24)) fun X_2070 => (zlet (f_X6_fails X_2070 (nI 1)) fun q_2072 => some (q_2072.1, q_2072.2)))))))))
    9 0 zFuel zFuel (zU (zU X 149 1 (nI 0)) 150 3 (nI 0)) (zU Y 0 24 (nI 0)) 0 rfl (Nat.zero_le _) (by decide) (by decide) (by rw [zU_r _ _ _ _ (by decide), zU_s]) (zU_s _ _ _ _) (Nat.zero_le _) (hT.cg (zU_k _ _ _ _ (by decide)) (zU_r _ _ _ _ (by decide))) (by rw [zU_k _ _ _ _ (by decide), zU_r _ _ _ _ (by decide)]; exact h5) (by rw [zU_k _ _ _ _ (by decide), zU_r _ _ _ _ (by decide)]; exact h8) (zU_s _ _ _ _) (fun i hi => absurd hi (Nat.not_lt_zero i))
  rw [r1, Option.bind_some]
  have r2' := r2
  rw [show nI (5 * 0) = nI 0 from rfl, show nI (0 + 1) = nI 1 from rfl] at r2'
  rw [r2']
  clear r1 r2 r2'
  dsimp only
  have hx1 : ∀ r, r ≤ 148 → X1 r = X r := fun r hr => by rw [r8 r (by omega) (by omega) (by omega), zU_r _ _ _ _ (by omega), zU_r _ _ _ _ (by omega)]
  have hx5 : ∀ j, j ≠ 3 → X1 150 j = X 150 j := fun j hj => by rw [r9 j hj, zU_k _ _ _ _ hj, zU_r _ _ _ _ (by decide)]
  have hy1 : ∀ r, r ≠ 0 → r ≠ 7 → Y1 r = Y r := fun r q1 q2 => by rw [r10 r q1 q2, zU_r _ _ _ _ q1]
  have hy0 : ∀ j, j ≠ 24 → j ≠ 25 → Y1 0 j = Y 0 j := fun j q1 q2 => by rw [r11 j q1 q2, zU_k _ _ _ _ q1]
  have hI1 : zInv 0 X1 Y1 a := (h.xr hx1 (hx5 1 (by decide)) (hx5 2 (by decide))).yx (hy1 1 (by decide) (by decide)) (hy1 2 (by decide) (by decide)) (hy1 3 (by decide) (by decide)) (fun j hj => hy0 j (by omega) (by omega))
  have o00 : nI 0 ||| nI 0 = nI 0 := by decide
  have o10 : nI 1 ||| nI 0 = nI 1 := by decide
  have o01 : nI 0 ||| nI 1 = nI 1 := by decide
  have o11 : nI 1 ||| nI 1 = nI 1 := by decide
  have b1 : ¬ ¬ (nI 1 = 0 ∨ nI 1 = 1) := by decide
  have b0 : ¬ ¬ (nI 0 = 0 ∨ nI 0 = 1) := by decide
  have e11 : Y1 0 11 = nI k := by rw [hy0 11 (by decide) (by decide)]; exact hT.2.1
  rw [e11, r5]
  rcases r7 with ⟨rfl, g1, g2, g3, g4, g5⟩ | ⟨rfl, g1⟩
  · -- the text is right
    rw [if_neg nI_10, g2, if_pos (nI_le (Nat.le_refl k) (by omega)), g1, o00, if_neg b0, zlet_eq, zlet_eq, zU_k _ _ _ _ (by decide), zU_s, if_pos nI_0]
    obtain ⟨hI2, ⟨s, s8, xs, kB⟩, out⟩ := hI1.spare
    obtain ⟨Y2, c1, c2, c3, -⟩ := m_copy (Y := zU (zU Y1 0 25 (nI 0)) 0 11 (nI 0)) (r0 := 1) (n0 := 580) (r1 := 4) (n1 := 580) (o1 := 0) (o3 := 0) (by decide) (by decide) (by decide) (by decide) (by decide)
    have c1' : f_X6_copy (zU (zU Y1 0 25 (nI 0)) 0 11 (nI 0)) 1 580 4 580 (nI 0) (nI 0) = some Y2 := c1
    rw [c1', Option.bind_some, zlet_eq]
    have y2r : ∀ r, r ≠ 0 → r ≠ 4 → Y2 r = Y1 r := fun r q1 q2 => by rw [c2 r q2, zU_r _ _ _ _ q1, zU_r _ _ _ _ q1]
    have y20 : ∀ j, j ≠ 25 → j ≠ 11 → Y2 0 j = Y1 0 j := fun j q1 q2 => by rw [c2 0 (by decide), zU_k _ _ _ _ q2, zU_k _ _ _ _ q1]
    have y24 : RM (Y2 4) a := fun j hj => by
      have := c3 j hj
      rw [Nat.zero_add, zU_r _ _ _ _ (by decide), zU_r _ _ _ _ (by decide)] at this
      exact this.trans (hI1.2.1 j hj)
    have hI3 : zInv 1 (f_X0_keepSpare X1) (zU Y2 0 7 (nI 1)) a := (hI2.yx (y2r 1 (by decide) (by decide)) (y2r 2 (by decide) (by decide)) (y2r 3 (by decide) (by decide)) (fun j hj => y20 j (by omega) (by omega))).quiet 1
    obtain ⟨X3, Y3, a', b, l1, l2, l3, l4, l5, l6⟩ := r_loop (fun X_2031 v2_2030 => (zlet (zU X_2031 0 7 (nI 0)) fun X_2032 => (if v2_2030 = 0 then ((f_X6_copy X_2032 4 580 1 580 (nI 0) (nI 0)).bind fun q_2039 => (zlet (f_X6_fails q_2039 (nI 2)) fun q_2041 => some (q_2041.1, q_2041.2))) else ((f_X6_remembersRow X_2032 4 580).bind fun q_2035 => (zlet (f_X6_done q_2035 (nI n)) fun q_2037 => some (q_2037.1, q_2037.2)))))) g3 n 0 zFuel zFuel (f_X0_keepSpare X1) (zU Y2 0 7 (nI 1)) a (Nat.zero_add _) (by show _ < 5000; omega) (by show _ < 5000; omega) hI3 (by rw [out 150 (by decide)]; exact g4)
      (fun i hi => by
        obtain ⟨w, w1, w2, w3, w4⟩ := g5 i hi
        have x1 : f_X0_keepSpare X1 151 = X1 151 := out 151 (by decide)
        have y1 : zU Y2 0 7 (nI 1) 7 = Y1 7 := by rw [zU_r _ _ _ _ (by decide), y2r 7 (by decide) (by decide)]
        exact ⟨w, w1, by rw [x1]; exact w2, by rw [y1]; exact w3, fun z hz => by rw [x1, y1]; exact w4 z hz⟩)
    rw [l1, l2]
    rw [zlet_eq]
    -- what stood at the start stands still
    have y3r : ∀ r, 2 ≤ r → r ≠ 4 → Y3 r = Y1 r := fun r q1 q2 => by rw [l6.1 r q1, zU_r _ _ _ _ (by omega), y2r r (by omega) q2]
    have y34 : RM (Y3 4) a := by rw [l6.1 4 (by decide), zU_r _ _ _ _ (by decide)]; exact y24
    have t11 : Y3 0 11 = nI 0 := by rw [l6.2 11 (by decide) (by decide) (by decide) (by decide), zU_k _ _ _ _ (by decide), c2 0 (by decide), zU_s]
    have t14 : Y3 0 14 = Y 0 14 := by rw [l6.2 14 (by decide) (by decide) (by decide) (by decide), zU_k _ _ _ _ (by decide), y20 14 (by decide) (by decide), hy0 14 (by decide) (by decide)]
    have t6 : Y3 6 = Y 6 := by rw [y3r 6 (by decide) (by decide), hy1 6 (by decide) (by decide)]
    have x3 : ∀ r, 14 ≤ r → r ≠ 146 → r ≠ 147 → r ≠ 148 → X3 r = f_X0_keepSpare X1 r := l5.2
    have xs3 : X3 27 1 = nI s := by rw [x3 27 (by decide) (by decide) (by decide) (by decide), out 27 (by decide)]; exact xs
    have kB3 : zRB X3 (29 + 13 * s) a := zRB_cong (fun r q1 q2 => x3 r (by omega) (by omega) (by omega) (by omega)) kB
    have hIq := l4.quiet 0
    clear l1 l2
    have hb : b = 0 ∨ b = 1 := by omega
    rcases hb with rfl | rfl
    · rw [if_pos rfl, if_pos nI_0]
      obtain ⟨nB, nr⟩ := n_bring s8 xs3 kB3 hI1.2.2.1.1 l4.1.con
      obtain ⟨Y4, d1, d2, d3, -⟩ := m_copy (Y := zU Y3 0 7 (nI 0)) (r0 := 4) (n0 := 580) (r1 := 1) (n1 := 580) (o1 := 0) (o3 := 0) (by decide) (by decide) (by decide) (by decide) (by decide)
      have d1' : f_X6_copy (zU Y3 0 7 (nI 0)) 4 580 1 580 (nI 0) (nI 0) = some Y4 := d1
      rw [d1', Option.bind_some, zlet_eq]
      have hFY : FY (zU Y3 0 7 (nI 0)) Y4 := ⟨fun r hr => d2 r (by omega), fun j _ _ => by rw [d2 0 (by decide)]⟩
      have hF : zInv 0 (f_X0_bringSpareBack X3) Y4 a := hIq.fr nB (fun j hj => by
        have := d3 j hj
        rw [Nat.zero_add, zU_r _ _ _ _ (by decide)] at this
        exact this.trans (y34 j hj)) hI1.2.2.1 ⟨nr 0 (by omega), fun r q1 _ _ _ => nr r (by omega)⟩ (hIq.con.fr (nr 147 (by omega))) hFY
      refine ⟨5, 0, nI 0, f_X0_bringSpareBack X3, zU Y4 0 0 (nI 2), a, rfl, rfl, zU_s _ _ _ _, fun q => absurd q (by decide), hF.u0 _, ?_, ?_, ?_⟩
      · rw [zU_k _ _ _ _ (by decide), d2 0 (by decide), zU_k _ _ _ _ (by decide)]; exact t11
      · rw [zU_r _ _ _ _ (by decide), d2 6 (by decide), zU_r _ _ _ _ (by decide)]; exact t6
      · rw [zU_k _ _ _ _ (by decide), d2 0 (by decide), zU_k _ _ _ _ (by decide)]; exact t14
    · rw [if_neg (by decide), if_neg nI_10]
      have hq := hIq
      obtain ⟨qB, qR, qG, ⟨⟨m, s', m8, s8', y3, x2, x1, hh⟩, ⟨hc1, hc2⟩, hs, hr, he, hO, e1, e2⟩, h7⟩ := hq
      have es : s' = s := (nI_eq (by omega) (by omega)).mp (x1.symm.trans xs3)
      subst es
      obtain ⟨Yr, f1, f2, f3, f4, f5⟩ := z_count (X := X3) (Y := zU Y3 0 7 (nI 0)) (r0 := 4) (b := a) (by decide) (by decide) m8 s8' y3 x2 x1 hh hI1.2.2.1 (by rw [zU_r _ _ _ _ (by decide)]; exact y34) kB3
      rw [f1, Option.bind_some, zlet_eq]
      have esz : f_X4_size (f_X0_countSpare X3) 150 40 = nI n := by
        show f_X0_countSpare X3 150 3 = nI n
        rw [f5 150 (by decide), x3 150 (by decide) (by decide) (by decide) (by decide), out 150 (by decide)]
        exact g4
      have hF : zInv 0 (f_X0_countSpare X3) Yr a' := by
        refine ⟨zRB_cong (fun r q1 q2 => f5 r (by omega)) qB, by rw [f2 1 (by decide) (by decide)]; exact qR, qG, ⟨f4, ⟨zCon_cong (fun r q1 q2 => f5 r (by omega)) hc1, fun i hi => zCon_cong (fun r q1 q2 => f5 r (by omega)) (hc2 i hi)⟩, ?_, ?_, ?_, ?_, by rw [f5 150 (by decide)]; exact e1, by rw [f5 150 (by decide)]; exact e2⟩, by rw [f3 7 (by decide)]; exact h7⟩
        · unfold zSav at hs ⊢
          rw [f5 0 (by decide), f3 5 (by decide), f2 3 (by decide) (by decide)]
          rcases hs with hs | ⟨s1, s2, b, d1, d2, d3⟩
          · exact Or.inl hs
          · exact Or.inr ⟨s1, s2, b, d1, d2, zRB_cong (fun r q1 q2 => f5 r (by omega)) d3⟩
        · unfold zRsn at hr ⊢
          rw [f5 0 (by decide), f3 8 (by decide), f3 9 (by decide)]
          exact hr
        · unfold zErr at he ⊢
          rw [f5 0 (by decide), f3 12 (by decide)]
          exact he
        · unfold oCon at hO ⊢
          rw [f5 147 (by decide)]
          exact hO
      refine ⟨0, _, nI n, f_X0_countSpare X3, zU Yr 0 0 (nI 0), a', rfl, rfl, zU_s _ _ _ _, fun _ => esz, hF.u0 _, ?_, ?_, ?_⟩
      · rw [zU_k _ _ _ _ (by decide), f3 11 (by decide), zU_k _ _ _ _ (by decide)]; exact t11
      · rw [zU_r _ _ _ _ (by decide), f2 6 (by decide) (by decide), zU_r _ _ _ _ (by decide)]; exact t6
      · rw [zU_k _ _ _ _ (by decide), f3 14 (by decide), zU_k _ _ _ _ (by decide)]; exact t14
  · -- it is wrong
    rw [if_pos nI_0]
    have fin : ∀ (Z : Nat → Nat → Int32), (∀ r, r ≠ 0 → Z r = Y1 r) → (∀ j, j ≠ 25 → j ≠ 11 → Z 0 j = Y1 0 j) → Z 0 11 = nI 0 → Z 0 24 = nI p →
        ∃ (c : Nat) (v b : Int32) (X' Y' : Nat → Nat → Int32) (a' : Nat → Nat), some (1, 0, zU X1 0 10 (X1 149 1)) = some (c, v, X') ∧ (zlet (zU Z 0 12 (Z 0 24)) fun X_2043 => (zlet (f_X6_fails X_2043 (nI 1)) fun q_2045 => some (q_2045.1, q_2045.2))) = some (b, Y') ∧ Y' 0 0 = nI (K15 c) ∧ (c = 0 → v = b) ∧ zInv 0 X' Y' a' ∧ Y' 0 11 = nI 0 ∧ Y' 6 = Y 6 ∧ Y' 0 14 = Y 0 14 := by
      intro Z zr z0 z11 z24
      rw [z24, r4]
      refine ⟨1, 0, nI 0, zU X1 0 10 (nI p), zU (zU Z 0 12 (nI p)) 0 0 (nI 1), a, rfl, rfl, zU_s _ _ _ _, fun q => absurd q (by decide), (((hI1.yx (zr 1 (by decide)) (zr 2 (by decide)) (zr 3 (by decide)) (fun j hj => z0 j (by omega) (by omega))).err (nI p)).u0 _), ?_, ?_, ?_⟩
      · rw [zU_k _ _ _ _ (by decide), zU_k _ _ _ _ (by decide)]; exact z11
      · rw [zU_r _ _ _ _ (by decide), zU_r _ _ _ _ (by decide), zr 6 (by decide), hy1 6 (by decide) (by decide)]
      · rw [zU_k _ _ _ _ (by decide), zU_k _ _ _ _ (by decide), z0 14 (by decide) (by decide), hy0 14 (by decide) (by decide)]
    have go : ∀ v : Int32, ∃ (c : Nat) (v' b : Int32) (X' Y' : Nat → Nat → Int32) (a' : Nat → Nat), some (1, 0, zU X1 0 10 (X1 149 1)) = some (c, v', X') ∧ (zlet (zU (zU (zU Y1 0 25 v) 0 11 (nI 0)) 0 12 (zU (zU Y1 0 25 v) 0 11 (nI 0) 0 24)) fun X_2043 => (zlet (f_X6_fails X_2043 (nI 1)) fun q_2045 => some (q_2045.1, q_2045.2))) = some (b, Y') ∧ Y' 0 0 = nI (K15 c) ∧ (c = 0 → v' = b) ∧ zInv 0 X' Y' a' ∧ Y' 0 11 = nI 0 ∧ Y' 6 = Y 6 ∧ Y' 0 14 = Y 0 14 :=
      fun v => fin _ (fun r q => by rw [zU_r _ _ _ _ q, zU_r _ _ _ _ q]) (fun j q1 q2 => by rw [zU_k _ _ _ _ q2, zU_k _ _ _ _ q1]) (zU_s _ _ _ _) (by rw [zU_k _ _ _ _ (by decide), zU_k _ _ _ _ (by decide)]; exact r5)
    have v25 : ∀ v, zU (zU Y1 0 25 v) 0 11 (nI 0) 0 25 = v := fun v => by rw [zU_k _ _ _ _ (by decide), zU_s]
    by_cases lt : p < k
    · rw [if_neg (nI_ge lt (by omega))]
      rcases g1 with g1 | ⟨g1, -⟩
      · rw [g1, o11, if_neg b1, zlet_eq, zlet_eq, v25, if_neg nI_10]
        exact go (nI 1)
      · rw [g1, o01, if_neg b1, zlet_eq, zlet_eq, v25, if_neg nI_10]
        exact go (nI 1)
    · rw [if_pos (nI_le (by omega) (by omega))]
      rcases g1 with g1 | ⟨-, g1⟩
      · rw [g1, o10, if_neg b1, zlet_eq, zlet_eq, v25, if_neg nI_10]
        exact go (nI 1)
      · exact absurd g1 lt
end PF0
