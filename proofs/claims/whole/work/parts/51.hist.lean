theorem m_remRow {Y : Nat → Nat → Int32} {r0 n : Nat} (h2 : r0 ≠ 2) (h0 : r0 ≠ 0) (hn : n ≤ 8) (h3 : Y 0 3 = nI n) :
    ∃ Y' m, f_X6_remembersRow Y r0 580 = some Y' ∧ m = (if n = 8 then 7 else n) ∧ (∀ r, r ≠ 0 → r ≠ 2 → Y' r = Y r) ∧ (∀ k, k ≠ 3 → Y' 0 k = Y 0 k) ∧ Y' 0 3 = nI (m + 1) ∧ (∀ i k, i < m → k < 580 → Y' 2 (i * 580 + k) = Y 2 ((i + (if n = 8 then 1 else 0)) * 580 + k)) ∧ ∀ k, k < 580 → Y' 2 (m * 580 + k) = Y r0 k := by
  by_cases c : n = 8
  · subst c
    have key : ∀ (q k fu : Nat) (Z : Nat → Nat → Int32) (kk : (Nat → Nat → Int32) → Option (Nat → Nat → Int32)), k + q = 4060 → q < fu → (∀ r, r ≠ 2 → Z r = Y r) → (∀ j, j < k → Z 2 j = Y 2 (j + 580)) → (∀ j, k ≤ j → Z 2 j = Y 2 j) →
        ∃ Z', f_X6_remembersRow_L11 kk r0 580 fu Z (nI k) = kk Z' ∧ (∀ r, r ≠ 2 → Z' r = Y r) ∧ ∀ j, j < 4060 → Z' 2 j = Y 2 (j + 580) := by
      intro q
      induction q with
      | zero =>
        intro k fu Z kk hk hfu hZ hlo hhi
        obtain ⟨fu', rfl, -⟩ := fu_s hfu
        refine ⟨Z, ?_, hZ, fun j hj => hlo j (by omega)⟩
        rw [f_X6_remembersRow_L11, if_pos (nI_le (by omega) (by omega))]
      | succ q ih =>
        intro k fu Z kk hk hfu hZ hlo hhi
        obtain ⟨fu', rfl, hf2⟩ := fu_s hfu
        rw [f_X6_remembersRow_L11, if_neg (nI_ge (by omega) (by omega)), nI_add, if_neg (nI_in (by omega) (by omega)), if_neg (nI_in (by omega) (by omega)), nI_clamp (by omega), nI_clamp (by omega), nI_1]
        unfold zlet
        refine ih (k + 1) fu' (zU Z 2 k (Z 2 (k + 580))) kk (by omega) (hf2 q rfl) (fun r hr => by rw [zU_r _ _ _ _ hr, hZ r hr]) (fun j hj => ?_) (fun j hj => by rw [zU_k _ _ _ _ (by omega), hhi j (by omega)])
        by_cases e : j = k
        · subst e; rw [zU_s, hhi _ (by omega)]
        · rw [zU_k _ _ _ _ e, hlo j (by omega)]
    obtain ⟨Z, e, hZ, hj⟩ := key 4060 0 zFuel Y (fun X_1011 => (zlet (zU X_1011 0 3 ((X_1011 0 3) - (nI 1))) fun X_1012 => ((f_X6_copy X_1012 r0 580 2 4640 (nI 0) ((X_1012 0 3) * (nI 580))).bind fun q_1014 => (zlet (zU q_1014 0 3 ((q_1014 0 3) + (nI 1))) fun X_1016 => some X_1016)))) rfl (by decide) (fun _ _ => rfl) (fun j hj => by omega) (fun _ _ => rfl)
    unfold f_X6_remembersRow
    rw [h3, if_pos rfl, e]
    unfold zlet
    dsimp only
    rw [hZ 0 (by decide), h3, zU_s, pk_sub (by decide), pk_mul]
    obtain ⟨Y', e2, q1, q2, q3⟩ := m_copy (Y := zU Z 0 3 (nI (8 - 1))) (r0 := r0) (n0 := 580) (r1 := 2) (n1 := 4640) (o1 := 0) (o3 := (8 - 1) * 580) h2 (by decide) (by decide) (by decide) (by decide)
    rw [e2, Option.bind_some]
    refine ⟨_, 7, rfl, rfl, fun r k1 k2 => ?_, fun k hk => ?_, ?_, fun i k hi hk => ?_, fun k hk => ?_⟩
    · rw [zU_r _ _ _ _ k1, q1 r k2, zU_r _ _ _ _ k1, hZ r k2]
    · rw [zU_k _ _ _ _ hk, q1 0 (by decide), zU_k _ _ _ _ hk, hZ 0 (by decide)]
    · rw [zU_s, q1 0 (by decide), zU_s, nI_add]
    · rw [zU_r _ _ _ _ (by decide), q3 _ (by omega), zU_r _ _ _ _ (by decide), hj _ (by omega), if_pos rfl, show i * 580 + k + 580 = (i + 1) * 580 + k by omega]
    · rw [zU_r _ _ _ _ (by decide)]
      have := q2 k hk
      rw [zU_r _ _ _ _ h0, hZ r0 h2, Nat.zero_add] at this
      exact this
  · unfold f_X6_remembersRow
    rw [h3, if_neg (fun q => c ((nI_eq (by omega) (by decide)).mp q)), pk_mul]
    unfold zlet
    obtain ⟨Y', e2, q1, q2, q3⟩ := m_copy (Y := Y) (r0 := r0) (n0 := 580) (r1 := 2) (n1 := 4640) (o1 := 0) (o3 := n * 580) h2 (by decide) (by omega) (by decide) (by decide)
    rw [e2, Option.bind_some, if_neg c, if_neg c]
    refine ⟨_, n, rfl, rfl, fun r k1 k2 => ?_, fun k hk => ?_, ?_, fun i k hi hk => ?_, fun k hk => ?_⟩
    · rw [zU_r _ _ _ _ k1, q1 r k2]
    · rw [zU_k _ _ _ _ hk, q1 0 (by decide)]
    · rw [zU_s, q1 0 (by decide), h3, nI_add]
    · rw [zU_r _ _ _ _ (by decide), Nat.add_zero, q3 _ (Or.inl ?_)]
      have : (i + 1) * 580 ≤ n * 580 := Nat.mul_le_mul_right _ hi
      omega
    · rw [zU_r _ _ _ _ (by decide)]
      have := q2 k hk
      rw [Nat.zero_add] at this
      exact this
/-! what holds between the class's memory and the reference's -/
def Ds (a : Nat → Nat) : Prop := ∀ s t, s < a 4 → t < a 4 → s ≠ t → shw a s 8 = 0 → shw a t 8 = 0 → shw a s 0 = shw a t 0 → shw a s 2 = shw a t 2 → shw a s 3 ≠ shw a t 3
def Gd2 (a : Nat → Nat) : Prop := Gd a ∧ (∀ s, s < a 4 → shw a s 8 ≤ 1) ∧ Ds a
def sl (s n i : Nat) : Nat := 29 + 13 * ((s + 9 - n + i) % 9)
def zHist (X Y : Nat → Nat → Int32) : Prop := ∃ n s, n ≤ 8 ∧ s ≤ 8 ∧ Y 0 3 = nI n ∧ X 27 2 = nI n ∧ X 27 1 = nI s ∧ ∀ i, i < n → ∃ b, Gd2 b ∧ RM (fun k => Y 2 (i * 580 + k)) b ∧ zRB X (sl s n i) b
def zCons (X : Nat → Nat → Int32) : Prop := zCon X 14 ∧ ∀ i, i < 9 → zCon X (29 + 13 * i)
def zSav (X Y : Nat → Nat → Int32) : Prop := (X 0 7 = nI 0 ∧ Y 0 5 = nI 0) ∨ (X 0 7 = nI 1 ∧ Y 0 5 = nI 1 ∧ ∃ b, Gd2 b ∧ RM (Y 3) b ∧ zRB X 14 b)
def zRsn (X Y : Nat → Nat → Int32) : Prop := (X 0 8 = -1 ∧ Y 0 8 = nI 0) ∨ (∃ r, 1 ≤ r ∧ r ≤ 12 ∧ X 0 8 = nI r ∧ Y 0 8 = nI r ∧ X 0 9 = Y 0 9)
def zErr (X Y : Nat → Nat → Int32) : Prop := X 0 10 = Y 0 12
def zRest (X Y : Nat → Nat → Int32) : Prop := zHist X Y ∧ zCons X ∧ zSav X Y ∧ zRsn X Y ∧ zErr X Y ∧ oCon X ∧ X 150 1 = nI 5 ∧ X 150 2 = nI 8
/-- the class's memory X and the reference's Y agree, on the state a; q: whether the reference is quiet -/
def zInv (q : Nat) (X Y : Nat → Nat → Int32) (a : Nat → Nat) : Prop := zRB X 1 a ∧ RM (Y 1) a ∧ Gd2 a ∧ zRest X Y ∧ Y 0 7 = nI q
/-- the texts stand as they stood -/
def zTxt (Y Y' : Nat → Nat → Int32) : Prop := Y' 5 = Y 5 ∧ Y' 6 = Y 6 ∧ Y' 0 11 = Y 0 11 ∧ Y' 0 14 = Y 0 14
theorem zTxt.rf (Y : Nat → Nat → Int32) : zTxt Y Y := ⟨rfl, rfl, rfl, rfl⟩
theorem zTxt.tr {Y1 Y2 Y3 : Nat → Nat → Int32} (h : zTxt Y1 Y2) (h2 : zTxt Y2 Y3) : zTxt Y1 Y3 := ⟨h2.1.trans h.1, h2.2.1.trans h.2.1, h2.2.2.1.trans h.2.2.1, h2.2.2.2.trans h.2.2.2⟩
theorem sl_lt (s n i : Nat) : 29 ≤ sl s n i ∧ sl s n i + 12 ≤ 145 := by
  have : (s + 9 - n + i) % 9 < 9 := Nat.mod_lt _ (by decide)
  unfold sl
  omega
/-- a change of the state alone, and of what stands for a while -/
def FX (X X' : Nat → Nat → Int32) : Prop := X' 0 = X 0 ∧ (∀ r, 14 ≤ r → r ≠ 146 → r ≠ 147 → r ≠ 148 → X' r = X r)
def FY (Y Y' : Nat → Nat → Int32) : Prop := (∀ r, 2 ≤ r → Y' r = Y r) ∧ (∀ k, 1 ≤ k → k < 15 → Y' 0 k = Y 0 k)
theorem FX.rf (X : Nat → Nat → Int32) : FX X X := ⟨rfl, fun _ _ _ _ _ => rfl⟩
theorem FY.rf (Y : Nat → Nat → Int32) : FY Y Y := ⟨fun _ _ => rfl, fun _ _ _ => rfl⟩
theorem FX.tr {X Y Z : Nat → Nat → Int32} (h : FX X Y) (h2 : FX Y Z) : FX X Z := ⟨h2.1.trans h.1, fun r q1 q2 q3 q4 => (h2.2 r q1 q2 q3 q4).trans (h.2 r q1 q2 q3 q4)⟩
theorem FY.tr {X Y Z : Nat → Nat → Int32} (h : FY X Y) (h2 : FY Y Z) : FY X Z := ⟨fun r q => (h2.1 r q).trans (h.1 r q), fun k q1 q2 => (h2.2 k q1 q2).trans (h.2 k q1 q2)⟩
theorem FY.txt {Y Y' : Nat → Nat → Int32} (h : FY Y Y') : zTxt Y Y' := ⟨h.1 5 (by decide), h.1 6 (by decide), h.2 11 (by decide) (by decide), h.2 14 (by decide) (by decide)⟩
theorem zRest.fr {X Y X' Y' : Nat → Nat → Int32} (h : zRest X Y) (hX : FX X X') (hO : oCon X') (hY : FY Y Y') : zRest X' Y' := by
  obtain ⟨⟨n, s, q1, q2, q3, q4, q5, q6⟩, ⟨c1, c2⟩, hs, hr, he, -, r1, r2⟩ := h
  have eX : ∀ r, 14 ≤ r → r ≤ 145 → X' r = X r := fun r k1 k2 => hX.2 r k1 (by omega) (by omega) (by omega)
  refine ⟨⟨n, s, q1, q2, by rw [hY.2 3 (by decide) (by decide)]; exact q3, by rw [eX 27 (by decide) (by decide)]; exact q4, by rw [eX 27 (by decide) (by decide)]; exact q5, fun i hi => ?_⟩, ⟨zCon_cong (fun r k1 k2 => eX r (by omega) (by omega)) c1, fun i hi => zCon_cong (fun r k1 k2 => eX r (by omega) (by omega)) (c2 i hi)⟩, ?_, ?_, ?_, hO, by rw [hX.2 150 (by decide) (by decide) (by decide) (by decide)]; exact r1, by rw [hX.2 150 (by decide) (by decide) (by decide) (by decide)]; exact r2⟩
  · obtain ⟨b, b1, b2, b3⟩ := q6 i hi
    have := sl_lt s n i
    exact ⟨b, b1, by rw [hY.1 2 (by decide)]; exact b2, zRB_cong (fun r k1 k2 => eX r (by omega) (by omega)) b3⟩
  · unfold zSav at hs ⊢
    rw [hX.1, hY.2 5 (by decide) (by decide), hY.1 3 (by decide)]
    rcases hs with hs | ⟨s1, s2, b, b1, b2, b3⟩
    · exact Or.inl hs
    · exact Or.inr ⟨s1, s2, b, b1, b2, zRB_cong (fun r k1 k2 => eX r (by omega) (by omega)) b3⟩
  · unfold zRsn at hr ⊢
    rw [hX.1, hY.2 8 (by decide) (by decide), hY.2 9 (by decide) (by decide)]
    exact hr
  · unfold zErr at he ⊢
    rw [hX.1, hY.2 12 (by decide) (by decide)]
    exact he
theorem zInv.fr {q : Nat} {X Y X' Y' : Nat → Nat → Int32} {a a' : Nat → Nat} (h : zInv q X Y a) (hB : zRB X' 1 a') (hR : RM (Y' 1) a') (hG : Gd2 a') (hX : FX X X') (hO : oCon X') (hY : FY Y Y') : zInv q X' Y' a' :=
  ⟨hB, hR, hG, h.2.2.2.1.fr hX hO hY, by rw [hY.2 7 (by decide) (by decide)]; exact h.2.2.2.2⟩
theorem zInv.con {q : Nat} {X Y : Nat → Nat → Int32} {a : Nat → Nat} (h : zInv q X Y a) : oCon X := h.2.2.2.1.2.2.2.2.2.1
/-- the class's spare slot takes the state up -/
theorem n_keepSpare {q : Nat} {X Y : Nat → Nat → Int32} {a : Nat → Nat} (h : zInv q X Y a) {n s : Nat} (hn : X 27 2 = nI n) (hs : X 27 1 = nI s) (hn8 : n ≤ 8) (hs8 : s ≤ 8) :
    zRB (f_X0_keepSpare X) (29 + 13 * s) a ∧ (∀ r, r < 29 + 13 * s ∨ 29 + 13 * s + 12 < r → f_X0_keepSpare X r = X r) := by
  have hc := h.2.2.2.1.2.1.2 s (by omega)
  have := n_copyFrom (b := 29 + 13 * s) (b2 := 1) h.1 h.2.2.1.1 hc (by omega)
  unfold f_X0_keepSpare
  rw [hs, if_neg (nI_pos (by omega)), if_neg (nI_ge (by omega) (by omega)), nI_clamp (by omega)]
  unfold zlet
  exact ⟨this.1, this.2.1⟩
