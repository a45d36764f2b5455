/-! A FAILURE: the class takes all the shows out -/
section TKA
variable {X X' : Nat → Nat → Int32} {a b : Nat → Nat}
def tkA (b : Nat → Nat) (s : Nat) : Nat → Nat := up (lnA b s) (158 + 9 * s + 8) 1
theorem tkA_lo {s j : Nat} (h1 : j ≠ 6) (h2 : j < 428) (h3 : j ≠ 158 + 9 * s + 8) : tkA b s j = b j := by
  unfold tkA
  rw [up_n _ h3]
  exact lnA_lo h1 h2
theorem n_take1 (hB : zRB X 1 b) (hG : Gd2 b) {s : Nat} (hs : s < b 4) (hk : b 6 < 30) (h7 : b 7 = 1) : ∃ X1 X5 X6, f_X4_addRow X 10 150 = some (nI (b 6), X1) ∧
    X5 = f_X4_put (f_X4_put (f_X4_put (f_X4_put X1 10 150 (nI (b 6)) (nI 0) (nI s)) 10 150 (nI (b 6)) (nI 1) (f_X4_get X 8 360 (nI s) (nI 3))) 10 150 (nI (b 6)) (nI 2) (-1 : Int32)) 10 150 (nI (b 6)) (nI 3) (-1 : Int32) ∧
    X6 = f_X4_put (f_X4_put X5 10 150 (nI (b 6)) (nI 4) (f_X4_get X5 8 360 (nI s) (nI 5))) 8 360 (nI s) (nI 8) (nI 1) ∧ zRB X6 1 (tkA b s) ∧ Gd2 (tkA b s) ∧ ∀ r, r ≠ 9 → r ≠ 10 → r ≠ 11 → X6 r = X r := by
  obtain ⟨X1, X5, e1, e2, q1, q2, q3⟩ := n_line hB hG hs hk h7
  refine ⟨X1, X5, _, e1, e2, rfl, ?_⟩
  generalize f_X4_put X5 10 150 (nI (b 6)) (nI 4) (f_X4_get X5 8 360 (nI s) (nI 5)) = Z at q1 q3 ⊢
  obtain ⟨bH, bF, bT, bS, bL, bC, b1, b0⟩ := zRB_iff.mp q1
  have e4 : lnA b s 4 = b 4 := lnA_lo (by decide) (by decide)
  have hs' : s < lnA b s 4 := by rw [e4]; exact hs
  have h4 := hG.1.c4
  have pS := bS.2 s hs'
  have gS := q2.1.2.2.2.2 s hs'
  have c2 := q2.1.c2
  rw [n_put bS.1.1 (by decide) (show s * 12 + 8 < 360 by omega)]
  have x9 : ∀ j, j ≠ s * 12 + 8 → zU Z 9 (s * 12 + 8) (nI 1) 9 j = Z 9 j := fun j q => zU_k _ _ _ _ q
  have to : ∀ j, j ≠ 158 + 9 * s + 8 → tkA b s j = lnA b s j := fun j q => up_n _ q
  have t8 : shw (tkA b s) s 8 = 1 := up_s _ _ _
  have tk : ∀ k, k < 8 → shw (tkA b s) s k = shw (lnA b s) s k := fun k hk => to _ (by omega)
  have eE : endA (tkA b s) s = endA (lnA b s) s := by
    unfold endA mins
    rw [tk 3 (by decide), tk 5 (by decide), tk 1 (by decide), show flm (tkA b s) (shw (lnA b s) s 1) 0 = flm (lnA b s) (shw (lnA b s) s 1) 0 from to _ (by omega)]
  have res := fr_S1 (X' := zU Z 9 (s * 12 + 8) (nI 1)) (a' := tkA b s) q1 q2 hs' ?_ ?_ ?_ ?_ ?_ (fun r p1 p2 => zU_r _ _ _ _ p2) (fun j hj => x9 j (by omega)) (fun j p1 p2 => to j (by omega))
  · exact ⟨res.1, res.2, fun r p1 p2 p3 => by rw [zU_r _ _ _ _ p1]; exact q3 r p2 p3⟩
  · obtain ⟨p0, p1, p2, p3, p4, p5, p6⟩ := pS
    refine ⟨fun k hk => by rw [tk k (by omega), x9 _ (by omega)]; exact p0 k hk, ?_, ?_, ?_, ?_, ?_, ?_⟩
    · rw [eE, x9 _ (by omega)]; exact p1
    · rw [tk 7 (by decide), x9 _ (by omega)]; exact p2
    · rw [tk 4 (by decide), x9 _ (by omega)]; exact p3
    · rw [tk 6 (by decide), x9 _ (by omega)]; exact p4
    · show zU Z 9 (s * 12 + 8) (nI 1) 9 (s * 12 + 8) = _
      rw [zU_s, t8]; rfl
    · rw [tk 5 (by decide), x9 _ (by omega)]; exact p6
  · exact b1.cg (zU_r _ _ _ _ (by decide)) (to 0 (by omega)) (to 5 (by omega))
  · unfold GdSr
    rw [tk 0 (by decide), tk 1 (by decide), tk 2 (by decide), tk 3 (by decide), tk 4 (by decide), tk 5 (by decide), tk 6 (by decide), tk 7 (by decide), t8, eE, to 1 (by omega), to 2 (by omega), show flm (tkA b s) (shw (lnA b s) s 1) 4 = flm (lnA b s) (shw (lnA b s) s 1) 4 from to _ (by omega)]
    obtain ⟨g0, g1, g2, g3, g4, g5, g6, g7, g8, g9, g10, g11⟩ := gS
    exact ⟨g0, g1, g2, g3, g4, g5, g6, g7, g8, g9, by decide, g11⟩
  · rw [t8]; exact Nat.le_refl _
  · intro q; rw [t8] at q; exact absurd q (by decide)
/-- the class's state after it took the shows l out of a -/
def TK (a b : Nat → Nat) (l : List Nat) : Prop := (∀ j, j < 158 → j ≠ 6 → b j = a j) ∧ (∀ s k, s < 30 → k < 8 → shw b s k = shw a s k) ∧ b 6 = l.length ∧ (∀ s, s < a 4 → shw b s 8 = if s ∈ l then 1 else shw a s 8) ∧ ∀ i s, l[i]? = some s → lin b i 0 = s ∧ lin b i 1 = shw a s 3 ∧ lin b i 2 = 0 ∧ lin b i 3 = 0 ∧ lin b i 4 = shw a s 7
theorem TK.step {l : List Nat} (h : TK a b l) (h4 : a 4 ≤ 30) {s : Nat} (hs : s < a 4) : TK a (tkA b s) (l ++ [s]) := by
  obtain ⟨q1, q2, q3, q4, q5⟩ := h
  have sk : ∀ z k, z < 30 → k < 8 → shw (tkA b s) z k = shw a z k := fun z k hz hk => (tkA_lo (by omega) (by omega) (by omega)).trans (q2 z k hz hk)
  refine ⟨fun j hj h6 => (tkA_lo h6 (by omega) (by omega)).trans (q1 j hj h6), sk, ?_, fun z hz => ?_, fun i z hz => ?_⟩
  · unfold tkA
    rw [up_n _ (by omega), List.length_append, List.length_singleton, ← q3]
    exact up_s _ _ _
  · by_cases e : z = s
    · subst e
      rw [if_pos (List.mem_append_right _ (List.mem_singleton.mpr rfl))]
      exact up_s _ _ _
    · have e1 : shw (tkA b s) z 8 = shw b z 8 := tkA_lo (by omega) (by omega) (by omega)
      rw [e1, q4 z hz]
      by_cases m : z ∈ l
      · rw [if_pos m, if_pos (List.mem_append_left _ m)]
      · rw [if_neg m, if_neg (fun q => by rcases List.mem_append.mp q with q | q; exact m q; exact e (List.mem_singleton.mp q))]
  · have lt : ∀ i k, k < 5 → lin (tkA b s) i k = lin (lnA b s) i k := fun i k hk => up_n _ (by omega)
    rw [lt i 0 (by decide), lt i 1 (by decide), lt i 2 (by decide), lt i 3 (by decide), lt i 4 (by decide)]
    by_cases c : i < l.length
    · rw [List.getElem?_append_left c] at hz
      rw [lnA_old (by omega) (by decide), lnA_old (by omega) (by decide), lnA_old (by omega) (by decide), lnA_old (by omega) (by decide), lnA_old (by omega) (by decide)]
      exact q5 i z hz
    · rw [List.getElem?_append_right (by omega)] at hz
      have hi := (List.getElem?_eq_some_iff.mp hz).1
      rw [List.length_singleton] at hi
      have e : i = b 6 := by omega
      rw [show i - l.length = 0 by omega] at hz
      have ez : s = z := Option.some.inj hz
      subst ez e
      obtain ⟨n0, n1, n2, n3, n4⟩ := lnA_new (b := b) (s := s)
      rw [n0, n1, n2, n3, n4, q2 s 3 (by omega) (by decide), q2 s 7 (by omega) (by decide)]
      exact ⟨rfl, rfl, rfl, rfl, rfl⟩
/-- the next show, by the states before and now -/
theorem nxt_cg {h d m : Nat} : ∀ (n s : Nat) (o : Option Nat), (∀ z, s ≤ z → z < s + n → ((inP a h d z = true ∧ m ≤ shw a z 3) ↔ (inP b h d z = true ∧ m ≤ shw b z 3)) ∧ shw b z 3 = shw a z 3) → (∀ z, o = some z → shw b z 3 = shw a z 3) → nxt b h d m s n o = nxt a h d m s n o
  | 0, s, o, _, _ => rfl
  | n + 1, s, o, hh, ho => by
    have e := hh s (Nat.le_refl _) (by omega)
    have en : nxS b h d m s o = nxS a h d m s o := by
      unfold nxS
      have eb : nxb b s o = nxb a s o := by
        cases o with
        | none => rfl
        | some z =>
          show decide (shw b s 3 < shw b z 3) = decide (shw a s 3 < shw a z 3)
          rw [e.2, ho z rfl]
      rw [eb]
      by_cases c : inP a h d s = true ∧ m ≤ shw a s 3
      · by_cases c2 : nxb a s o = true
        · rw [if_pos ⟨(e.1.mp c).1, (e.1.mp c).2, c2⟩, if_pos ⟨c.1, c.2, c2⟩]
        · rw [if_neg (fun q => c2 q.2.2), if_neg (fun q => c2 q.2.2)]
      · rw [if_neg (fun q => c (e.1.mpr ⟨q.1, q.2.1⟩)), if_neg (fun q => c ⟨q.1, q.2.1⟩)]
    rw [nxt, nxt, en]
    refine nxt_cg n (s + 1) _ (fun z h1 h2 => hh z (by omega) (by omega)) (fun z hz => ?_)
    unfold nxS at hz
    split at hz
    · cases hz; exact e.2
    · exact ho z hz
/-- of those it is the first -/
def nxOk (a : Nat → Nat) (h d m N : Nat) (o : Option Nat) : Prop := match o with
  | none => ∀ s, s < N → ¬ (inP a h d s = true ∧ m ≤ shw a s 3)
  | some z => z < N ∧ inP a h d z = true ∧ m ≤ shw a z 3 ∧ ∀ s, s < N → inP a h d s = true → m ≤ shw a s 3 → shw a z 3 ≤ shw a s 3
theorem nxt_first {h d m : Nat} : ∀ (n s : Nat) (o : Option Nat), nxOk a h d m s o → nxOk a h d m (s + n) (nxt a h d m s n o)
  | 0, s, o, hh => hh
  | n + 1, s, o, hh => by
    rw [nxt, show s + (n + 1) = s + 1 + n by omega]
    refine nxt_first n (s + 1) _ ?_
    unfold nxS
    cases o with
    | none =>
      by_cases c : inP a h d s = true ∧ m ≤ shw a s 3 ∧ nxb a s none = true
      · rw [if_pos c]
        refine ⟨by omega, c.1, c.2.1, fun y hy y1 y2 => ?_⟩
        by_cases e : y = s
        · subst e; exact Nat.le_refl _
        · exact absurd ⟨y1, y2⟩ (hh y (by omega))
      · rw [if_neg c]
        intro y hy q
        by_cases e : y = s
        · subst e; exact c ⟨q.1, q.2, rfl⟩
        · exact hh y (by omega) q
    | some z =>
      obtain ⟨p1, p2, p3, p4⟩ := hh
      by_cases c : inP a h d s = true ∧ m ≤ shw a s 3 ∧ nxb a s (some z) = true
      · rw [if_pos c]
        have lt : shw a s 3 < shw a z 3 := of_decide_eq_true c.2.2
        refine ⟨by omega, c.1, c.2.1, fun y hy y1 y2 => ?_⟩
        by_cases e : y = s
        · subst e; exact Nat.le_refl _
        · have := p4 y (by omega) y1 y2; omega
      · rw [if_neg c]
        refine ⟨by omega, p2, p3, fun y hy y1 y2 => ?_⟩
        by_cases e : y = s
        · subst e
          by_cases lt : shw a y 3 < shw a z 3
          · exact absurd ⟨y1, y2, decide_eq_true lt⟩ c
          · omega
        · exact p4 y (by omega) y1 y2
theorem nxA_first {h d m : Nat} : nxOk a h d m (a 4) (nxA a h d m) := by
  have := nxt_first (a := a) (h := h) (d := d) (m := m) (a 4) 0 none (fun s hs => absurd hs (Nat.not_lt_zero s))
  rw [Nat.zero_add] at this
  exact this
/-- how many are still to be taken out, from the day d and the start m on -/
def outK (a : Nat → Nat) (x d m s : Nat) : Prop := shw a s 8 = 0 ∧ shw a s 0 = x ∧ (d < shw a s 2 ∨ (shw a s 2 = d ∧ m ≤ shw a s 3))
abbrev outB (a : Nat → Nat) (x d m s : Nat) : Bool := decide (shw a s 8 = 0) && (decide (shw a s 0 = x) && (decide (d < shw a s 2) || (decide (shw a s 2 = d) && decide (m ≤ shw a s 3))))
theorem outB_iff {x d m s : Nat} : outB a x d m s = true ↔ outK a x d m s := by
  unfold outB outK
  simp only [Bool.and_eq_true, Bool.or_eq_true, decide_eq_true_eq]
def tcn (a : Nat → Nat) (x d m : Nat) : Nat := zsm (fun s => if outB a x d m s = true then 1 else 0) 0 (a 4)
theorem tcn_le (x d m : Nat) : tcn a x d m ≤ a 4 := zsm_bd (a 4) 0 (fun s => by split <;> omega)
theorem tcn_day (x d m : Nat) : tcn a x (d + 1) 0 ≤ tcn a x d m := zsm_mono (a 4) 0 (fun s => by
  show (if outB a x (d + 1) 0 s = true then 1 else 0) ≤ if outB a x d m s = true then 1 else 0
  by_cases c : outB a x (d + 1) 0 s = true
  · have q := outB_iff.mp c
    rw [if_pos c, if_pos (outB_iff.mpr ⟨q.1, q.2.1, by have := q.2.2; omega⟩)]
    exact Nat.le_refl _
  · rw [if_neg c]; exact Nat.zero_le _)
theorem tcn_lt {x d m s : Nat} (hs : s < a 4) (h8 : shw a s 8 = 0) (h0 : shw a s 0 = x) (h2 : shw a s 2 = d) (hm : m ≤ shw a s 3) : tcn a x d (shw a s 3 + 1) < tcn a x d m := by
  refine zsm_lt (a 4) 0 s (fun y => ?_) (Nat.zero_le _) (by omega) ?_
  · show (if outB a x d (shw a s 3 + 1) y = true then 1 else 0) ≤ if outB a x d m y = true then 1 else 0
    by_cases c : outB a x d (shw a s 3 + 1) y = true
    · have q := outB_iff.mp c
      rw [if_pos c, if_pos (outB_iff.mpr ⟨q.1, q.2.1, by have := q.2.2; omega⟩)]
      exact Nat.le_refl _
    · rw [if_neg c]; exact Nat.zero_le _
  · show (if outB a x d (shw a s 3 + 1) s = true then 1 else 0) < if outB a x d m s = true then 1 else 0
    rw [if_neg (fun c => by have q := (outB_iff.mp c).2.2; omega), if_pos (outB_iff.mpr ⟨h8, h0, Or.inr ⟨h2, hm⟩⟩)]
    decide
/-- l is just what was to be taken out before the day d's start m -/
def TL (a : Nat → Nat) (x d0 d m : Nat) (l : List Nat) : Prop := (∀ s ∈ l, s < a 4 ∧ outP a x d0 s ∧ ¬ outK a x d m s) ∧ (∀ s, s < a 4 → outP a x d0 s → ¬ outK a x d m s → s ∈ l) ∧ l.Pairwise (ltK a) ∧ l.length + tcn a x d m ≤ 30
theorem TL.next {x d0 d m : Nat} {l : List Nat} (h : TL a x d0 d m l) (hd : d0 ≤ d) (hD : Ds a) {s : Nat} (hz : nxA a x d m = some s) : TL a x d0 d (shw a s 3 + 1) (l ++ [s]) := by
  obtain ⟨q1, q2, q3, q4⟩ := h
  have hf := nxA_first (a := a) (h := x) (d := d) (m := m)
  rw [hz] at hf
  obtain ⟨f1, f2, f3, f4⟩ := hf
  obtain ⟨i0, i2, i8⟩ := inP_iff.mp f2
  have ho : outK a x d m s := ⟨i8, i0, Or.inr ⟨i2, f3⟩⟩
  refine ⟨fun z hz => ?_, fun z hz4 hzo hzk => ?_, ?_, ?_⟩
  · rcases List.mem_append.mp hz with h | h
    · obtain ⟨p1, p2, p3⟩ := q1 z h
      exact ⟨p1, p2, fun q => p3 ⟨q.1, q.2.1, by have := q.2.2; omega⟩⟩
    · obtain rfl := List.mem_singleton.mp h
      exact ⟨f1, ⟨i8, i0, by omega⟩, fun q => by have := q.2.2; omega⟩
  · by_cases c : outK a x d m z
    · refine List.mem_append_right _ (List.mem_singleton.mpr ?_)
      have c2 : shw a z 2 = d ∧ m ≤ shw a z 3 ∧ shw a z 3 ≤ shw a s 3 := by
        have p := c.2.2
        have n := fun q => hzk ⟨c.1, c.2.1, q⟩
        rcases p with p | p
        · exact absurd (Or.inl p) n
        · exact ⟨p.1, p.2, by
            by_cases g : shw a z 3 ≤ shw a s 3
            · exact g
            · exact absurd (Or.inr ⟨p.1, by omega⟩) n⟩
      have mi := f4 z hz4 (inP_iff.mpr ⟨c.2.1, c2.1, c.1⟩) c2.2.1
      by_cases e : z = s
      · exact e
      · exact absurd (by omega) (hD z s hz4 f1 e c.1 i8 (by rw [c.2.1, i0]) (by rw [c2.1, i2]))
    · exact List.mem_append_left _ (q2 z hz4 hzo c)
  · refine List.pairwise_append.mpr ⟨q3, List.pairwise_singleton _ _, fun z hz9 y hy => ?_⟩
    obtain rfl := List.mem_singleton.mp hy
    obtain ⟨p1, p2, p3⟩ := q1 z hz9
    unfold ltK
    by_cases g : shw a z 2 < d
    · exact Or.inl (by omega)
    · by_cases g2 : shw a z 2 = d
      · refine Or.inr ⟨by omega, ?_⟩
        by_cases g3 : shw a z 3 < m
        · omega
        · exact absurd ⟨p2.1, p2.2.1, Or.inr ⟨g2, by omega⟩⟩ p3
      · exact absurd ⟨p2.1, p2.2.1, Or.inl (by omega)⟩ p3
  · rw [List.length_append, List.length_singleton]
    have := tcn_lt f1 i8 i0 i2 f3
    omega
theorem TL.day {x d0 d m : Nat} {l : List Nat} (h : TL a x d0 d m l) (hz : nxA a x d m = none) : TL a x d0 (d + 1) 0 l := by
  obtain ⟨q1, q2, q3, q4⟩ := h
  have hf := nxA_first (a := a) (h := x) (d := d) (m := m)
  rw [hz] at hf
  refine ⟨fun z hz => ?_, fun z hz4 hzo hzk => ?_, q3, by have := tcn_day (a := a) x d m; omega⟩
  · obtain ⟨p1, p2, p3⟩ := q1 z hz
    exact ⟨p1, p2, fun q => p3 ⟨q.1, q.2.1, by have := q.2.2; omega⟩⟩
  · refine q2 z hz4 hzo (fun q => ?_)
    rcases q.2.2 with p | p
    · exact hzk ⟨q.1, q.2.1, by omega⟩
    · exact hf z hz4 ⟨inP_iff.mpr ⟨q.2.1, p.1, q.1⟩, p.2⟩
theorem TL.lt30 {x d0 d m : Nat} {l : List Nat} (h : TL a x d0 d m l) {s : Nat} (hz : nxA a x d m = some s) : l.length < 30 := by
  have hf := nxA_first (a := a) (h := x) (d := d) (m := m)
  rw [hz] at hf
  obtain ⟨f1, f2, f3, f4⟩ := hf
  obtain ⟨i0, i2, i8⟩ := inP_iff.mp f2
  have := tcn_lt f1 i8 i0 i2 f3
  have := h.2.2.2
  omega
/-- the next show is the same in the state that lacks l -/
theorem TK.nx {x d0 d m : Nat} {l : List Nat} (h : TK a b l) (h4 : a 4 ≤ 30) (hl : TL a x d0 d m l) : nxA b x d m = nxA a x d m := by
  obtain ⟨q1, q2, q3, q4, q5⟩ := h
  unfold nxA
  rw [q1 4 (by decide) (by decide)]
  refine nxt_cg (a 4) 0 none (fun z _ hz => ⟨?_, q2 z 3 (by omega) (by decide)⟩) (fun z hz => by cases hz)
  rw [inP_iff, inP_iff, q2 z 0 (by omega) (by decide), q2 z 2 (by omega) (by decide), q2 z 3 (by omega) (by decide), q4 z (by omega)]
  by_cases c : z ∈ l
  · rw [if_pos c]
    have p := hl.1 z c
    exact ⟨fun q => absurd ⟨q.1.2.2, q.1.1, Or.inr ⟨q.1.2.1, q.2⟩⟩ p.2.2, fun q => absurd q.1.2.2 (by decide)⟩
  · rw [if_neg c]
theorem n_takeDay (hG : Gd2 a) {x d0 d : Nat} (hx : x < a 1) (hd0 : d0 ≤ d) (hd : d < 60) (h7 : a 7 = 1) (k : (Nat → Nat → Int32) → Option (Nat → Nat → Int32)) : ∀ (n i m fu : Nat) (X : Nat → Nat → Int32) (b : Nat → Nat) (l : List Nat), cnA a x d m ≤ n → i + cnA a x d m ≤ 30 → n < fu → zRB X 1 b → Gd2 b → TK a b l → TL a x d0 d m l →
    ∃ X' b' l', f_X5_takeOutShows_L33 k (nI x) (nI d) fu X (enO (nxA a x d m)) (nI i) = k X' ∧ zRB X' 1 b' ∧ Gd2 b' ∧ TK a b' l' ∧ TL a x d0 (d + 1) 0 l' ∧ ∀ r, r ≠ 9 → r ≠ 10 → r ≠ 11 → X' r = X r := by
  have h4 := hG.1.c4
  have h1 := hG.1.c1
  intro n
  induction n with
  | zero =>
    intro i m fu X b l hc hi hf hB hGb hT hL
    obtain ⟨f, rfl, -⟩ := fu_s hf
    cases hz : nxA a x d m with
    | some z => have := cnA_lt hz; omega
    | none =>
      refine ⟨X, b, l, ?_, hB, hGb, hT, hL.day hz, fun r _ _ _ => rfl⟩
      rw [f_X5_takeOutShows_L33]
      by_cases c : nI 30 ≤ nI i
      · rw [if_pos c]
      · rw [if_neg c, if_pos (show enO none = (-1 : Int32) from rfl)]
  | succ n ih =>
    intro i m fu X b l hc hi hf hB hGb hT hL
    obtain ⟨f, rfl, hf2⟩ := fu_s hf
    have hf2 := hf2 n rfl
    cases hz : nxA a x d m with
    | none =>
      refine ⟨X, b, l, ?_, hB, hGb, hT, hL.day hz, fun r _ _ _ => rfl⟩
      rw [f_X5_takeOutShows_L33]
      by_cases c : nI 30 ≤ nI i
      · rw [if_pos c]
      · rw [if_neg c, if_pos (show enO none = (-1 : Int32) from rfl)]
    | some s =>
      have hlt := cnA_lt hz
      have hs := nxA_lt hz
      have hS := hG.1.2.2.2.2 s hs
      have e4 : b 4 = a 4 := hT.1 4 (by decide) (by decide)
      have e6 : b 6 = l.length := hT.2.2.1
      have l30 := hL.lt30 hz
      obtain ⟨X1, X5, X6, p1, p2, p3, p4, p5, p6⟩ := n_take1 hB hGb (s := s) (by omega) (by omega) (by rw [hT.1 7 (by decide) (by decide)]; exact h7)
      have hT2 := hT.step h4 hs
      have hL2 := hL.next hd0 hG.2.2 hz
      have st : f_X4_get X 8 360 (nI s) (nI 3) = nI (shw a s 3) := by rw [n_shw hB hGb.1 (by omega) (by decide), hT.2.1 s 3 (by omega) (by decide)]
      have en1 : nI (shw a s 3) = nI (shw a s 3 + 1) - nI 1 := by rw [pk_sub (show 1 ≤ shw a s 3 + 1 by omega), Nat.add_sub_cancel]
      have hsa := n_showAfter p4 p5.1 (ha := x) (d := d) (m := shw a s 3 + 1) (by omega) (by omega) (by omega) en1
      rw [hT2.nx h4 hL2] at hsa
      obtain ⟨X', b', l', r1, r2, r3, r4, r5, r6⟩ := ih (i + 1) (shw a s 3 + 1) f X6 (tkA b s) (l ++ [s]) (by omega) (by omega) hf2 p4 p5 hT2 hL2
      refine ⟨X', b', l', ?_, r2, r3, r4, r5, fun r q1 q2 q3 => (r6 r q1 q2 q3).trans (p6 r q1 q2 q3)⟩
      rw [f_X5_takeOutShows_L33, if_neg (nI_ge (by omega) (by decide)), if_neg (show ¬ enO (some s) = (-1 : Int32) from z_m1 (by omega))]
      simp only [zlet_eq, show enO (some s) = nI s from rfl]
      rw [p1, Option.bind_some]
      show (f_X3_showAfter (f_X4_put (f_X4_put (f_X4_put (f_X4_put (f_X4_put (f_X4_put X1 10 150 (nI (b 6)) (nI 0) (nI s)) 10 150 (nI (b 6)) (nI 1) (f_X4_get X 8 360 (nI s) (nI 3))) 10 150 (nI (b 6)) (nI 2) (-1 : Int32)) 10 150 (nI (b 6)) (nI 3) (-1 : Int32)) 10 150 (nI (b 6)) (nI 4) (f_X4_get (f_X4_put (f_X4_put (f_X4_put (f_X4_put X1 10 150 (nI (b 6)) (nI 0) (nI s)) 10 150 (nI (b 6)) (nI 1) (f_X4_get X 8 360 (nI s) (nI 3))) 10 150 (nI (b 6)) (nI 2) (-1 : Int32)) 10 150 (nI (b 6)) (nI 3) (-1 : Int32)) 8 360 (nI s) (nI 5))) 8 360 (nI s) (nI 8) (nI 1)) (nI x) (nI d) (f_X4_get X 8 360 (nI s) (nI 3))).bind _ = _
      rw [← p2, ← p3, st, hsa, Option.bind_some, nI_1]
      exact r1
theorem n_takeAll (hG : Gd2 a) {x d0 : Nat} (hx : x < a 1) (h7 : a 7 = 1) : ∀ (n d fu : Nat) (X : Nat → Nat → Int32) (b : Nat → Nat) (l : List Nat), d + n = 60 → d0 ≤ d → n < fu → zRB X 1 b → Gd2 b → TK a b l → TL a x d0 d 0 l →
    ∃ X' b' l', f_X5_takeOutShows_L12 (nI x) fu X (nI d) = some X' ∧ zRB X' 1 b' ∧ Gd2 b' ∧ TK a b' l' ∧ TL a x d0 60 0 l' ∧ ∀ r, r ≠ 9 → r ≠ 10 → r ≠ 11 → X' r = X r := by
  have h4 := hG.1.c4
  have h1 := hG.1.c1
  have em : (-1 : Int32) = nI 0 - nI 1 := by decide
  intro n
  induction n with
  | zero =>
    intro d fu X b l hd hd0 hf hB hGb hT hL
    obtain ⟨f, rfl, -⟩ := fu_s hf
    have e : d = 60 := by omega
    subst e
    exact ⟨X, b, l, by rw [f_X5_takeOutShows_L12, if_pos (by decide)], hB, hGb, hT, hL, fun r _ _ _ => rfl⟩
  | succ n ih =>
    intro d fu X b l hd hd0 hf hB hGb hT hL
    obtain ⟨f, rfl, hf2⟩ := fu_s hf
    have hf2 := hf2 n rfl
    have hsa := n_showAfter hB hGb.1 (ha := x) (d := d) (m := 0) (by omega) (by omega) (by decide) em
    rw [hT.nx h4 hL] at hsa
    have hc := cnA_le (a := a) x d 0
    obtain ⟨X1, b1, l1, q1, q2, q3, q4, q5, q6⟩ := n_takeDay hG hx hd0 (by omega) h7 (fun X_2024 => f_X5_takeOutShows_L12 (nI x) f X_2024 (nI (d + 1))) 30 0 0 zFuel X b l (by omega) (by omega) (by show 30 < 5000; omega) hB hGb hT hL
    obtain ⟨X2, b2, l2, r1, r2, r3, r4, r5, r6⟩ := ih (d + 1) f X1 b1 l1 (by omega) (by omega) hf2 q2 q3 q4 q5
    refine ⟨X2, b2, l2, ?_, r2, r3, r4, r5, fun r p1 p2 p3 => (r6 r p1 p2 p3).trans (q6 r p1 p2 p3)⟩
    rw [f_X5_takeOutShows_L12, if_neg (fun q => by rw [nI_ltI (by decide) (by omega)] at q; omega), hsa, Option.bind_some, nI_1]
    exact q1.trans r1
end TKA
