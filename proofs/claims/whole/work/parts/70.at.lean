/-! what happens at a minute -/
def rnP (a : Nat → Nat) (d mi s : Nat) : Bool := decide (shw a s 3 ≤ mi) && decide (mi < endA a s) && (decide (shw a s 2 = d) && decide (shw a s 8 = 0))
theorem rnP_iff {a : Nat → Nat} {d mi s : Nat} : rnP a d mi s = true ↔ shw a s 3 ≤ mi ∧ mi < endA a s ∧ shw a s 2 = d ∧ shw a s 8 = 0 := by
  unfold rnP
  rw [Bool.and_eq_true, Bool.and_eq_true, Bool.and_eq_true, decide_eq_true_eq, decide_eq_true_eq, decide_eq_true_eq, decide_eq_true_eq, and_assoc]
def clP (a : Nat → Nat) (d mi s : Nat) : Bool := decide (endA a s ≤ mi) && decide (mi < endA a s + clnA a s) && (decide (shw a s 2 = d) && decide (shw a s 8 = 0))
theorem clP_iff {a : Nat → Nat} {d mi s : Nat} : clP a d mi s = true ↔ endA a s ≤ mi ∧ mi < endA a s + clnA a s ∧ shw a s 2 = d ∧ shw a s 8 = 0 := by
  unfold clP
  rw [Bool.and_eq_true, Bool.and_eq_true, Bool.and_eq_true, decide_eq_true_eq, decide_eq_true_eq, decide_eq_true_eq, decide_eq_true_eq, and_assoc]
/-- the first of all from s on, unless one was found -/
def fst1 (P : Nat → Bool) : Nat → Nat → Option Nat → Option Nat
  | _, 0, o => o
  | s, n + 1, o => fst1 P (s + 1) n (if o = none ∧ P s = true then some s else o)
theorem fst1_some (P : Nat → Bool) (z : Nat) : ∀ (n s : Nat), fst1 P s n (some z) = some z
  | 0, s => rfl
  | n + 1, s => by rw [fst1, if_neg (fun q => by cases q.1), fst1_some P z n (s + 1)]
section AT
variable {X Y : Nat → Nat → Int32} {a : Nat → Nat}
theorem n_isRunning (h : zRB X 1 a) (hG : Gd a) {x d mi : Nat} (hx : x < a 4) (hd : d < 2 ^ 31) (hm : mi < 2 ^ 29) : f_X3_isRunning X (nI x) (nI d) (nI mi) = if rnP a d mi x = true then nI 1 else nI 0 := by
  have hS := hG.2.2.2.2 x hx
  unfold f_X3_isRunning
  rw [n_shw h hG hx (by decide), n_end h hG hx, n_isShownOn h hG hx hd]
  by_cases c : mi < shw a x 3
  · rw [if_pos (nI_lt c (by omega)), if_neg (fun q => by have := (rnP_iff.mp q).1; omega)]
  rw [if_neg (nI_nlt (by omega) (by omega))]
  by_cases c2 : endA a x ≤ mi
  · rw [if_pos (nI_le c2 (by omega)), if_neg (fun q => by have := (rnP_iff.mp q).2.1; omega)]
  rw [if_neg (nI_ge (by omega) (by omega))]
  by_cases c3 : shw a x 2 = d ∧ shw a x 8 = 0
  · rw [if_pos c3, if_neg nI_10, if_pos (rnP_iff.mpr ⟨by omega, by omega, c3⟩)]
  · rw [if_neg c3, if_pos nI_0, if_neg (fun q => c3 (rnP_iff.mp q).2.2)]
theorem n_running (h : zRB X 1 a) (hG : Gd a) {me d mi : Nat} (hme : me < 6) (hd : d < 2 ^ 31) (hm : mi < 2 ^ 29) : f_X3_running X (nI me) (nI d) (nI mi) = some (nI (smP (rnP a d mi) (meas a me) 0 (a 4))) := by
  have h4 := hG.c4
  have key : ∀ (n s acc fu : Nat), s + n = a 4 → n < fu → f_X3_running_L6 X (nI me) (nI d) (nI mi) fu (nI acc) (nI s) = some (nI (acc + smP (rnP a d mi) (meas a me) s n)) := by
    intro n
    induction n with
    | zero =>
      intro s acc fu hs hf
      obtain ⟨f, rfl, -⟩ := fu_s hf
      rw [f_X3_running_L6, n_size (n_nS h), if_pos (nI_le (by omega) (by omega))]
      rfl
    | succ n ih =>
      intro s acc fu hs hf
      obtain ⟨f, rfl, hf2⟩ := fu_s hf
      have hx : s < a 4 := by omega
      rw [f_X3_running_L6, n_size (n_nS h), if_neg (nI_ge hx (by omega)), n_isRunning h hG hx hd hm, n_measureOf h hG hx hme, nI_add, nI_1, smP_s]
      by_cases p : rnP a d mi s = true
      · rw [if_pos p, if_neg nI_10, ih (s + 1) _ f (by omega) (hf2 n rfl), if_pos p, Nat.add_assoc]
      · rw [if_neg p, if_pos nI_0, ih (s + 1) _ f (by omega) (hf2 n rfl), if_neg p, Nat.zero_add]
  have h1 := key (a 4) 0 0 zFuel (Nat.zero_add _) (by show a 4 < 5000; omega)
  rw [Nat.zero_add] at h1
  exact h1
theorem n_cleanedHalls (h : zRB X 1 a) (hG : Gd a) {d mi : Nat} (hd : d < 2 ^ 31) (hm : mi < 2 ^ 29) : f_X3_cleanedHalls X (nI d) (nI mi) = some (nI (smP (clP a d mi) (fun _ => 1) 0 (a 4))) := by
  have h4 := hG.c4
  have key : ∀ (n s acc fu : Nat), s + n = a 4 → n < fu → f_X3_cleanedHalls_L5 X (nI d) (nI mi) fu (nI acc) (nI s) = some (nI (acc + smP (clP a d mi) (fun _ => 1) s n)) := by
    intro n
    induction n with
    | zero =>
      intro s acc fu hs hf
      obtain ⟨f, rfl, -⟩ := fu_s hf
      rw [f_X3_cleanedHalls_L5, n_size (n_nS h), if_pos (nI_le (by omega) (by omega))]
      rfl
    | succ n ih =>
      intro s acc fu hs hf
      obtain ⟨f, rfl, hf2⟩ := fu_s hf
      have hx : s < a 4 := by omega
      have hS := hG.2.2.2.2 s hx
      have hC : clnA a s ≤ 40 := (hG.2.1 _ hS.1).2.2.1
      have no : ¬ clP a d mi s = true → f_X3_cleanedHalls_L5 X (nI d) (nI mi) f (nI acc) (nI (s + 1)) = some (nI (acc + smP (clP a d mi) (fun _ => 1) s (n + 1))) := fun p => by
        rw [smP_s, if_neg p, Nat.zero_add]; exact ih (s + 1) acc f (by omega) (hf2 n rfl)
      rw [f_X3_cleanedHalls_L5, n_size (n_nS h), if_neg (nI_ge hx (by omega)), n_end h hG hx, n_cleaningOf h hG hx, n_isShownOn h hG hx hd, nI_add, nI_1, nI_1]
      by_cases c : mi < endA a s
      · rw [if_pos (nI_lt c (by omega))]; exact no (fun q => by have := (clP_iff.mp q).1; omega)
      rw [if_neg (nI_nlt (by omega) (by omega))]
      by_cases c2 : endA a s + clnA a s ≤ mi
      · rw [if_pos (nI_le c2 (by omega))]; exact no (fun q => by have := (clP_iff.mp q).2.1; omega)
      rw [if_neg (nI_ge (by omega) (by omega))]
      by_cases c3 : shw a s 2 = d ∧ shw a s 8 = 0
      · have p := clP_iff.mpr ⟨(by omega : endA a s ≤ mi), (by omega : mi < endA a s + clnA a s), c3⟩
        rw [if_pos c3, if_neg nI_10, smP_s, if_pos p, ih (s + 1) _ f (by omega) (hf2 n rfl), Nat.add_assoc]
      · rw [if_neg c3, if_pos nI_0]; exact no (fun q => c3 (clP_iff.mp q).2.2)
  have h1 := key (a 4) 0 0 zFuel (Nat.zero_add _) (by show a 4 < 5000; omega)
  rw [Nat.zero_add] at h1
  exact h1
theorem n_firstRunning (h : zRB X 1 a) (hG : Gd a) {d mi : Nat} (hd : d < 2 ^ 31) (hm : mi < 2 ^ 29) : f_X3_firstRunning X (nI d) (nI mi) = some (enO (fst1 (rnP a d mi) 0 (a 4) none)) := by
  have h4 := hG.c4
  have key : ∀ (n s fu : Nat), s + n = a 4 → n < fu → f_X3_firstRunning_L2 X (nI d) (nI mi) fu (nI s) = some (enO (fst1 (rnP a d mi) s n none)) := by
    intro n
    induction n with
    | zero =>
      intro s fu hs hf
      obtain ⟨f, rfl, -⟩ := fu_s hf
      rw [f_X3_firstRunning_L2, n_size (n_nS h), if_pos (nI_le (by omega) (by omega))]
      rfl
    | succ n ih =>
      intro s fu hs hf
      obtain ⟨f, rfl, hf2⟩ := fu_s hf
      have hx : s < a 4 := by omega
      rw [f_X3_firstRunning_L2, n_size (n_nS h), if_neg (nI_ge hx (by omega)), n_isRunning h hG hx hd hm, nI_1, fst1]
      by_cases p : rnP a d mi s = true
      · rw [if_pos p, if_neg nI_10, if_pos ⟨rfl, p⟩, fst1_some]
        rfl
      · rw [if_neg p, if_pos nI_0, if_neg (fun q => p q.2)]
        exact ih (s + 1) f (by omega) (hf2 n rfl)
  exact key (a 4) 0 zFuel (Nat.zero_add _) (by show a 4 < 5000; omega)
theorem m_at_L (hR : RM (Y 1) a) (hG : Gd a) {d mi : Nat} (hd : d < 2 ^ 31) (hm : mi < 2 ^ 29) (v3 : Int32) (k : Int32 → Int32 → Int32 → Int32 → Option (Int32 × (Nat → Nat → Int32))) :
    f_X6_at_L48 k Y (nI d) (nI mi) v3 zFuel (nI 0) (nI 0) (nI 0) (-1) (nI 0) = k (nI (smP (rnP a d mi) (meas a 0) 0 (a 4))) (nI (smP (clP a d mi) (fun _ => 1) 0 (a 4))) (nI (smP (rnP a d mi) (meas a 5) 0 (a 4))) (enO (fst1 (rnP a d mi) 0 (a 4) none)) := by
  have h4 := hG.c4
  have c1 := hG.c1
  have key : ∀ (n s b c e fu : Nat) (o : Option Nat), s + n = a 4 → n < fu → (∀ z, o = some z → z < a 4) →
      f_X6_at_L48 k Y (nI d) (nI mi) v3 fu (nI b) (nI c) (nI e) (enO o) (nI s) = k (nI (b + smP (rnP a d mi) (meas a 0) s n)) (nI (c + smP (clP a d mi) (fun _ => 1) s n)) (nI (e + smP (rnP a d mi) (meas a 5) s n)) (enO (fst1 (rnP a d mi) s n o)) := by
    intro n
    induction n with
    | zero =>
      intro s b c e fu o hs hf ho
      obtain ⟨f, rfl, -⟩ := fu_s hf
      rw [f_X6_at_L48, m_nS hR, if_pos (nI_le (by omega) (by omega))]
      rfl
    | succ n ih =>
      intro s b c e fu o hs hf ho
      obtain ⟨f, rfl, hf2⟩ := fu_s hf
      have hx : s < a 4 := by omega
      have hS := hG.2.2.2.2 s hx
      have hC : clnA a s ≤ 40 := (hG.2.1 _ hS.1).2.2.1
      -- the four numbers behind the show s
      have go : ∀ (r q w : Nat) (o2 : Option Nat), (if rnP a d mi s = true then 1 else 0) = r → (if clP a d mi s = true then 1 else 0) = q → (if rnP a d mi s = true then hal a (shw a s 0) 0 else 0) = w → (if o = none ∧ rnP a d mi s = true then some s else o) = o2 →
          f_X6_at_L48 k Y (nI d) (nI mi) v3 f (nI b + nI r) (nI c + nI q) (nI e + nI w) (enO o2) (nI (s + 1)) = k (nI (b + smP (rnP a d mi) (meas a 0) s (n + 1))) (nI (c + smP (clP a d mi) (fun _ => 1) s (n + 1))) (nI (e + smP (rnP a d mi) (meas a 5) s (n + 1))) (enO (fst1 (rnP a d mi) s (n + 1) o)) := by
        intro r q w o2 e1 e2 e3 e4
        rw [smP_s, smP_s, smP_s, fst1, e2, e4, show (if rnP a d mi s = true then meas a 0 s else 0) = r from e1, show (if rnP a d mi s = true then meas a 5 s else 0) = w from e3, nI_add, nI_add, nI_add, ← Nat.add_assoc, ← Nat.add_assoc, ← Nat.add_assoc]
        refine ih (s + 1) _ _ _ f o2 (by omega) (hf2 n rfl) (fun z hz => ?_)
        rw [← e4] at hz
        split at hz
        · cases hz; exact hx
        · exact ho z hz
      have no : ¬ rnP a d mi s = true → ¬ clP a d mi s = true → f_X6_at_L48 k Y (nI d) (nI mi) v3 f (nI b) (nI c) (nI e) (enO o) (nI (s + 1)) = k (nI (b + smP (rnP a d mi) (meas a 0) s (n + 1))) (nI (c + smP (clP a d mi) (fun _ => 1) s (n + 1))) (nI (e + smP (rnP a d mi) (meas a 5) s (n + 1))) (enO (fst1 (rnP a d mi) s (n + 1) o)) := fun p1 p2 => by
        have := go 0 0 0 o (if_neg p1) (if_neg p2) (if_neg p1) (if_neg (fun q => p1 q.2))
        rw [nI_add, nI_add, nI_add] at this
        exact this
      rw [f_X6_at_L48, m_nS hR, if_neg (nI_ge hx (by omega)), m_stands hR hG hx, Option.bind_some, nI_1]
      by_cases c8 : shw a s 8 = 0
      case neg => rw [if_neg c8, if_pos nI_0]; exact no (fun q => c8 (rnP_iff.mp q).2.2.2) (fun q => c8 (clP_iff.mp q).2.2.2)
      rw [if_pos c8, if_neg nI_10, m_shw hR (by omega) (by decide), Option.bind_some]
      by_cases c2 : shw a s 2 = d
      case neg => rw [if_neg (fun q => c2 ((nI_eq (by omega) hd).mp q))]; exact no (fun q => c2 (rnP_iff.mp q).2.2.1) (fun q => c2 (clP_iff.mp q).2.2.1)
      rw [if_pos (by rw [c2]), m_shw hR (by omega) (by decide), m_endOf hR hG hx, m_cleanOf hR hG hx]
      simp only [Option.bind_some]
      rw [z_inm (by omega) (by omega) (by omega), nI_add, z_inm (by omega) (by omega) (by omega), m_shw hR (by omega) (by decide)]
      simp only [Option.bind_some]
      rw [m_hal hR (by omega) (by decide)]
      simp only [Option.bind_some]
      by_cases p : shw a s 3 ≤ mi ∧ mi < endA a s
      · have p1 : rnP a d mi s = true := rnP_iff.mpr ⟨p.1, p.2, c2, c8⟩
        have p2 : ¬ clP a d mi s = true := fun q => by have := (clP_iff.mp q).1; omega
        have p3 : ¬ (endA a s ≤ mi ∧ mi < endA a s + clnA a s) := fun q => by omega
        rw [if_pos p, if_neg nI_10, if_neg p3, if_pos nI_0, if_pos nI_0]
        cases o with
        | none =>
          rw [if_pos (show enO none = -1 from rfl)]
          exact go 1 0 _ (some s) (if_pos p1) (if_neg p2) (if_pos p1) (if_pos ⟨rfl, p1⟩)
        | some z =>
          have hz := ho z rfl
          rw [if_neg (show ¬ enO (some z) = -1 from z_m1 (by omega))]
          exact go 1 0 _ (some z) (if_pos p1) (if_neg p2) (if_pos p1) (if_neg (fun q => by cases q.1))
      · have p1 : ¬ rnP a d mi s = true := fun q => p ⟨(rnP_iff.mp q).1, (rnP_iff.mp q).2.1⟩
        rw [if_neg p, if_pos nI_0]
        by_cases p3 : endA a s ≤ mi ∧ mi < endA a s + clnA a s
        · rw [if_pos p3, if_neg nI_10]
          exact go 0 1 0 o (if_neg p1) (if_pos (clP_iff.mpr ⟨p3.1, p3.2, c2, c8⟩)) (if_neg p1) (if_neg (fun q => p1 q.2))
        · rw [if_neg p3, if_pos nI_0]
          exact go 0 0 0 o (if_neg p1) (if_neg (fun q => p3 ⟨(clP_iff.mp q).1, (clP_iff.mp q).2.1⟩)) (if_neg p1) (if_neg (fun q => p1 q.2))
  have h1 := key (a 4) 0 0 0 0 zFuel none (Nat.zero_add _) (by show a 4 < 5000; omega) (fun z h => by cases h)
  rw [Nat.zero_add, Nat.zero_add, Nat.zero_add] at h1
  exact h1
theorem sim_at (h : zRB X 1 a) (hR : RM (Y 1) a) (hG : Gd a) (v1 v2 v3 : Int32) : zSimR X Y K1 (f_X5_at X v1 v2 v3) (f_X6_at Y v1 v2 v3) := by
  unfold f_X5_at f_X6_at
  rcases day_cases v1 with ⟨e3, e4⟩ | ⟨e3, e4, d, hd, rfl⟩
  · rw [e3, e4, if_pos nI_0, if_pos nI_0]
    exact .mk 1 0 (nI 0) rfl rfl (by decide)
  rw [e3, e4, if_neg nI_10, if_neg nI_10]
  rcases in_cases v2 (lo := 0) (hi := 1200) (by decide) (by decide) with ⟨e3, e4, -⟩ | ⟨e3, e4, mi, -, hm, rfl⟩
  · rw [e3, e4, if_pos nI_0, if_pos nI_0]
    exact .mk 1 0 (nI 0) rfl rfl (by decide)
  rw [e3, e4, if_neg nI_10, if_neg nI_10]
  rcases in_cases v3 (lo := 0) (hi := 3) (by decide) (by decide) with ⟨e3, e4, -⟩ | ⟨e3, e4, w, -, hw, rfl⟩
  · rw [e3, e4, if_pos nI_0, if_pos nI_0]
    exact .mk 1 0 (nI 0) rfl rfl (by decide)
  rw [e3, e4, if_neg nI_10, if_neg nI_10, m_at_L hR hG (by omega) (by omega)]
  have dn : ∀ (v : Int32) (g : Option (Int32 × (Nat → Nat → Int32))), g = some (v, zU Y 0 0 (nI 0)) → zSimR X Y K1 (some (0, v, X)) g := fun v g hg => .mk 0 _ _ rfl hg (fun _ => rfl)
  match w, hw with
  | 0, _ => rw [if_pos rfl, n_running h hG (by decide) (by omega) (by omega), Option.bind_some, if_pos nI_0]; exact dn _ _ rfl
  | 1, _ => rw [if_neg (by decide), if_pos rfl, n_cleanedHalls h hG (by omega) (by omega), Option.bind_some, if_neg (by decide), if_pos rfl]; exact dn _ _ rfl
  | 2, _ => rw [if_neg (by decide), if_neg (by decide), if_pos rfl, n_running h hG (by decide) (by omega) (by omega), Option.bind_some, if_neg (by decide), if_neg (by decide), if_pos rfl]; exact dn _ _ rfl
  | 3, _ => rw [if_neg (by decide), if_neg (by decide), if_neg (by decide), n_firstRunning h hG (by omega) (by omega), Option.bind_some, if_neg (by decide), if_neg (by decide), if_neg (by decide)]; exact dn _ _ rfl
end AT
