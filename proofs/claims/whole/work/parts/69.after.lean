/-! the next show in a hall on a day, on both sides; how a hall is used -/
def inP (a : Nat → Nat) (h d s : Nat) : Bool := decide (shw a s 0 = h) && decide (shw a s 2 = d) && decide (shw a s 8 = 0)
theorem inP_iff {a : Nat → Nat} {h d s : Nat} : inP a h d s = true ↔ shw a s 0 = h ∧ shw a s 2 = d ∧ shw a s 8 = 0 := by
  unfold inP
  rw [Bool.and_eq_true, Bool.and_eq_true, decide_eq_true_eq, decide_eq_true_eq, decide_eq_true_eq, and_assoc]
def nxb (a : Nat → Nat) (s : Nat) : Option Nat → Bool
  | none => true
  | some z => decide (shw a s 3 < shw a z 3)
/-- the next show behind the starts below m, so far o -/
def nxS (a : Nat → Nat) (h d m s : Nat) (o : Option Nat) : Option Nat := if inP a h d s = true ∧ m ≤ shw a s 3 ∧ nxb a s o = true then some s else o
def nxt (a : Nat → Nat) (h d m : Nat) : Nat → Nat → Option Nat → Option Nat
  | _, 0, o => o
  | s, n + 1, o => nxt a h d m (s + 1) n (nxS a h d m s o)
theorem nxS_lt {a : Nat → Nat} {h d m s N : Nat} {o : Option Nat} (hs : s < N) (ho : ∀ z, o = some z → z < N) : ∀ z, nxS a h d m s o = some z → z < N := by
  intro z hz
  unfold nxS at hz
  split at hz
  · cases hz; exact hs
  · exact ho z hz
theorem nxt_lt {a : Nat → Nat} {h d m N : Nat} : ∀ (n s : Nat) (o : Option Nat), s + n = N → (∀ z, o = some z → z < N) → ∀ z, nxt a h d m s n o = some z → z < N
  | 0, s, o, _, ho, z, hz => ho z hz
  | n + 1, s, o, hs, ho, z, hz => nxt_lt n (s + 1) _ (by omega) (nxS_lt (by omega) ho) z hz
/-- the next show of all -/
def nxA (a : Nat → Nat) (h d m : Nat) : Option Nat := nxt a h d m 0 (a 4) none
theorem nxA_lt {a : Nat → Nat} {h d m : Nat} {z : Nat} (hz : nxA a h d m = some z) : z < a 4 := nxt_lt (a 4) 0 none (Nat.zero_add _) (fun z h => by cases h) z hz
theorem le_m1 {x m : Nat} (hx : x < 2 ^ 29) (hm : m < 2 ^ 29) : nI x ≤ nI m - nI 1 ↔ x < m := by
  rw [pk_le_sub (by omega) (by decide) (by omega)]
  omega
section AF
variable {X Y : Nat → Nat → Int32} {a : Nat → Nat}
theorem n_isShownIn (h : zRB X 1 a) (hG : Gd a) {x ha d : Nat} (hx : x < a 4) (hh : ha < 2 ^ 31) (hd : d < 2 ^ 31) : f_X3_isShownIn X (nI x) (nI ha) (nI d) = if inP a ha d x = true then nI 1 else nI 0 := by
  have hS := hG.2.2.2.2 x hx
  have c1 := hG.c1
  unfold f_X3_isShownIn
  rw [n_shw h hG hx (by decide), n_shw h hG hx (by decide), n_can h hG hx]
  by_cases c0 : shw a x 0 = ha
  · rw [if_pos (by rw [c0])]
    by_cases c : shw a x 2 = d
    · rw [if_pos (by rw [c])]
      by_cases c8 : shw a x 8 = 0
      · rw [if_pos c8, if_pos nI_0, if_pos (inP_iff.mpr ⟨c0, c, c8⟩)]
      · rw [if_neg c8, if_neg nI_10, if_neg (fun q => c8 (inP_iff.mp q).2.2)]
    · rw [if_neg (fun q => c ((nI_eq (by omega) hd).mp q)), if_neg (fun q => c (inP_iff.mp q).2.1)]
  · rw [if_neg (fun q => c0 ((nI_eq (by omega) hh).mp q)), if_neg (fun q => c0 (inP_iff.mp q).1)]
theorem n_showAfter (h : zRB X 1 a) (hG : Gd a) {ha d m : Nat} (hh : ha < 2 ^ 31) (hd : d < 2 ^ 31) (hm : m < 2 ^ 29) {v3 : Int32} (hv : v3 = nI m - nI 1) : f_X3_showAfter X (nI ha) (nI d) v3 = some (enO (nxA a ha d m)) := by
  have h4 := hG.c4
  have key : ∀ (n s fu : Nat) (o : Option Nat), s + n = a 4 → n < fu → (∀ z, o = some z → z < a 4) → f_X3_showAfter_L6 X (nI ha) (nI d) v3 fu (enO o) (nI s) = some (enO (nxt a ha d m s n o)) := by
    intro n
    induction n with
    | zero =>
      intro s fu o hs hf ho
      obtain ⟨f, rfl, -⟩ := fu_s hf
      rw [f_X3_showAfter_L6, n_size (n_nS h), if_pos (nI_le (by omega) (by omega))]
      rfl
    | succ n ih =>
      intro s fu o hs hf ho
      obtain ⟨f, rfl, hf2⟩ := fu_s hf
      have hx : s < a 4 := by omega
      have hS := hG.2.2.2.2 s hx
      have st : (if nI (shw a s 3) ≤ v3 then f_X3_showAfter_L6 X (nI ha) (nI d) v3 f (enO o) (nI (s + 1)) else (if (if inP a ha d s = true then nI 1 else nI 0) = 0 then f_X3_showAfter_L6 X (nI ha) (nI d) v3 f (enO o) (nI (s + 1)) else f_X3_showAfter_L6 X (nI ha) (nI d) v3 f (nI s) (nI (s + 1)))) = some (enO (nxt a ha d m (s + 1) n (if inP a ha d s = true ∧ m ≤ shw a s 3 then some s else o))) := by
        rw [hv]
        by_cases c : shw a s 3 < m
        · rw [if_pos ((le_m1 (by omega) hm).mpr c), if_neg (fun q => by have := q.2; omega), ← hv, ih (s + 1) f o (by omega) (hf2 n rfl) ho]
        · rw [if_neg (fun q => c ((le_m1 (by omega) hm).mp q)), ← hv]
          by_cases p : inP a ha d s = true
          · rw [if_pos p, if_neg nI_10, if_pos ⟨p, by omega⟩]
            exact ih (s + 1) f (some s) (by omega) (hf2 n rfl) (fun z hz => by cases hz; exact hx)
          · rw [if_neg p, if_pos nI_0, if_neg (fun q => p q.1), ih (s + 1) f o (by omega) (hf2 n rfl) ho]
      rw [f_X3_showAfter_L6, n_size (n_nS h), if_neg (nI_ge hx (by omega)), n_shw h hG hx (by decide), n_isShownIn h hG hx hh hd, nI_1, nxt]
      cases o with
      | none =>
        have e : nxS a ha d m s none = if inP a ha d s = true ∧ m ≤ shw a s 3 then some s else none := by
          unfold nxS
          have e2 : nxb a s none = true := rfl
          simp only [e2, and_true]
        rw [if_pos (show enO none = -1 from rfl), st, e]
      | some z =>
        have hz := ho z rfl
        have hZ := hG.2.2.2.2 z hz
        rw [if_neg (show ¬ enO (some z) = -1 from z_m1 (by omega)), show f_X4_get X 8 360 (enO (some z)) (nI 3) = nI (shw a z 3) from n_shw h hG hz (by decide)]
        by_cases c2 : shw a z 3 ≤ shw a s 3
        · have e : nxS a ha d m s (some z) = some z := if_neg (fun q => by have := of_decide_eq_true q.2.2; omega)
          rw [if_pos (nI_le c2 (by omega)), e, ite_self, ih (s + 1) f (some z) (by omega) (hf2 n rfl) ho]
        · have e : nxS a ha d m s (some z) = if inP a ha d s = true ∧ m ≤ shw a s 3 then some s else some z := by
            unfold nxS
            have e2 : nxb a s (some z) = true := decide_eq_true (by omega)
            simp only [e2, and_true]
          rw [if_neg (nI_ge (by omega) (by omega)), st, e]
  exact key (a 4) 0 zFuel none (Nat.zero_add _) (by show a 4 < 5000; omega) (fun z h => by cases h)
theorem m_nextShow (hR : RM (Y 1) a) (hG : Gd a) {ha d m : Nat} (hh : ha < 2 ^ 31) (hd : d < 2 ^ 31) (hm : m < 2 ^ 29) {v3 : Int32} (hv : v3 = nI m - nI 1) : f_X6_nextShow Y (nI ha) (nI d) v3 = some (enO (nxA a ha d m)) := by
  have h4 := hG.c4
  have c1 := hG.c1
  have key : ∀ (n s fu : Nat) (o : Option Nat), s + n = a 4 → n < fu → (∀ z, o = some z → z < a 4) → f_X6_nextShow_L6 Y (nI ha) (nI d) v3 fu (enO o) (nI s) = some (enO (nxt a ha d m s n o)) := by
    intro n
    induction n with
    | zero =>
      intro s fu o hs hf ho
      obtain ⟨f, rfl, -⟩ := fu_s hf
      rw [f_X6_nextShow_L6, m_nS hR, if_pos (nI_le (by omega) (by omega))]
      rfl
    | succ n ih =>
      intro s fu o hs hf ho
      obtain ⟨f, rfl, hf2⟩ := fu_s hf
      have hx : s < a 4 := by omega
      have hS := hG.2.2.2.2 s hx
      have no : ¬ (inP a ha d s = true ∧ m ≤ shw a s 3 ∧ nxb a s o = true) → f_X6_nextShow_L6 Y (nI ha) (nI d) v3 f (enO o) (nI (s + 1)) = some (enO (nxt a ha d m (s + 1) n (nxS a ha d m s o))) := fun q => by
        rw [show nxS a ha d m s o = o from if_neg q]; exact ih (s + 1) f o (by omega) (hf2 n rfl) ho
      have yes : (inP a ha d s = true ∧ m ≤ shw a s 3 ∧ nxb a s o = true) → f_X6_nextShow_L6 Y (nI ha) (nI d) v3 f (nI s) (nI (s + 1)) = some (enO (nxt a ha d m (s + 1) n (nxS a ha d m s o))) := fun q => by
        rw [show nxS a ha d m s o = some s from if_pos q]; exact ih (s + 1) f (some s) (by omega) (hf2 n rfl) (fun z hz => by cases hz; exact hx)
      rw [f_X6_nextShow_L6, m_nS hR, if_neg (nI_ge hx (by omega)), m_stands hR hG hx, Option.bind_some, nI_1, nxt]
      by_cases c8 : shw a s 8 = 0
      case neg => rw [if_neg c8, if_pos nI_0]; exact no (fun q => c8 (inP_iff.mp q.1).2.2)
      rw [if_pos c8, if_neg nI_10, m_shw hR (by omega) (by decide), Option.bind_some]
      by_cases c0 : shw a s 0 = ha
      case neg => rw [if_neg (fun q => c0 ((nI_eq (by omega) hh).mp q))]; exact no (fun q => c0 (inP_iff.mp q.1).1)
      rw [if_pos (by rw [c0]), m_shw hR (by omega) (by decide), Option.bind_some]
      by_cases c2 : shw a s 2 = d
      case neg => rw [if_neg (fun q => c2 ((nI_eq (by omega) hd).mp q))]; exact no (fun q => c2 (inP_iff.mp q.1).2.1)
      rw [if_pos (by rw [c2]), m_shw hR (by omega) (by decide), Option.bind_some]
      have p := inP_iff.mpr ⟨c0, c2, c8⟩
      by_cases c : shw a s 3 < m
      · rw [hv, if_pos ((le_m1 (by omega) hm).mpr c), ← hv]; exact no (fun q => by have := q.2.1; omega)
      · have c' : ¬ nI (shw a s 3) ≤ v3 := fun q => c ((le_m1 (by omega) hm).mp (hv ▸ q))
        rw [if_neg c']
        cases o with
        | none =>
          rw [if_pos (show enO none = -1 from rfl)]
          exact yes ⟨p, by omega, rfl⟩
        | some z =>
          have hz := ho z rfl
          have hZ := hG.2.2.2.2 z hz
          rw [if_neg (show ¬ enO (some z) = -1 from z_m1 (by omega)), Option.bind_some, show f_X6_showAt Y (enO (some z)) (nI 3) = some (nI (shw a z 3)) from m_shw hR (by omega) (by decide), Option.bind_some]
          by_cases c3 : shw a z 3 ≤ shw a s 3
          · rw [if_pos (nI_le c3 (by omega))]; exact no (fun q => by have := of_decide_eq_true q.2.2; omega)
          · rw [if_neg (nI_ge (by omega) (by omega))]; exact yes ⟨p, by omega, decide_eq_true (by omega)⟩
  exact key (a 4) 0 zFuel none (Nat.zero_add _) (by show a 4 < 5000; omega) (fun z h => by cases h)
-- sums over the shows in a hall on a day
def smP (P : Nat → Bool) (f : Nat → Nat) (s n : Nat) : Nat := zsm (fun s => if P s = true then f s else 0) s n
theorem smP_s (P : Nat → Bool) (f : Nat → Nat) (s n : Nat) : smP P f s (n + 1) = (if P s = true then f s else 0) + smP P f (s + 1) n := rfl
def clM (a : Nat → Nat) (s : Nat) : Nat := if 960 - endA a s < clnA a s then 960 - endA a s else clnA a s
/-- the greatest end and 1, so far e -/
def gEn (a : Nat → Nat) (P : Nat → Bool) : Nat → Nat → Nat → Nat
  | _, 0, e => e
  | s, n + 1, e => gEn a P (s + 1) n (if P s = true ∧ e ≤ endA a s then endA a s + 1 else e)
theorem n_shownMinutes (h : zRB X 1 a) (hG : Gd a) {ha d : Nat} (hh : ha < 2 ^ 31) (hd : d < 2 ^ 31) : f_X3_shownMinutes X (nI ha) (nI d) = some (nI (smP (inP a ha d) (mins a) 0 (a 4))) := by
  have h4 := hG.c4
  have key : ∀ (n s acc fu : Nat), s + n = a 4 → n < fu → f_X3_shownMinutes_L5 X (nI ha) (nI d) fu (nI acc) (nI s) = some (nI (acc + smP (inP a ha d) (mins a) s n)) := by
    intro n
    induction n with
    | zero =>
      intro s acc fu hs hf
      obtain ⟨f, rfl, -⟩ := fu_s hf
      rw [f_X3_shownMinutes_L5, n_size (n_nS h), if_pos (nI_le (by omega) (by omega))]
      rfl
    | succ n ih =>
      intro s acc fu hs hf
      obtain ⟨f, rfl, hf2⟩ := fu_s hf
      have hx : s < a 4 := by omega
      rw [f_X3_shownMinutes_L5, n_size (n_nS h), if_neg (nI_ge hx (by omega)), n_isShownIn h hG hx hh hd, n_minutesOf h hG hx, nI_add, nI_1, smP_s]
      by_cases p : inP a ha d s = true
      · rw [if_pos p, if_neg nI_10, ih (s + 1) _ f (by omega) (hf2 n rfl), if_pos p, Nat.add_assoc]
      · rw [if_neg p, if_pos nI_0, ih (s + 1) _ f (by omega) (hf2 n rfl), if_neg p, Nat.zero_add]
  have h1 := key (a 4) 0 0 zFuel (Nat.zero_add _) (by show a 4 < 5000; omega)
  rw [Nat.zero_add] at h1
  exact h1
theorem n_cleanedMinutes (h : zRB X 1 a) (hG : Gd a) {ha d : Nat} (hh : ha < 2 ^ 31) (hd : d < 2 ^ 31) : f_X3_cleanedMinutes X (nI ha) (nI d) = some (nI (smP (inP a ha d) (clM a) 0 (a 4))) := by
  have h4 := hG.c4
  have key : ∀ (n s acc fu : Nat), s + n = a 4 → n < fu → f_X3_cleanedMinutes_L5 X (nI ha) (nI d) fu (nI acc) (nI s) = some (nI (acc + smP (inP a ha d) (clM a) s n)) := by
    intro n
    induction n with
    | zero =>
      intro s acc fu hs hf
      obtain ⟨f, rfl, -⟩ := fu_s hf
      rw [f_X3_cleanedMinutes_L5, n_size (n_nS h), if_pos (nI_le (by omega) (by omega))]
      rfl
    | succ n ih =>
      intro s acc fu hs hf
      obtain ⟨f, rfl, hf2⟩ := fu_s hf
      have hx : s < a 4 := by omega
      have hS := hG.2.2.2.2 s hx
      have hC : clnA a s ≤ 40 := (hG.2.1 _ hS.1).2.2.1
      have e : (if nI 960 - nI (endA a s) < nI (clnA a s) then nI 960 - nI (endA a s) else nI (clnA a s)) = nI (clM a s) := by
        unfold clM
        rw [pk_sub (by omega)]
        by_cases c : 960 - endA a s < clnA a s
        · rw [if_pos (nI_lt c (by omega)), if_pos c]
        · rw [if_neg (nI_nlt (by omega) (by omega)), if_neg c]
      rw [f_X3_cleanedMinutes_L5, n_size (n_nS h), if_neg (nI_ge hx (by omega)), n_isShownIn h hG hx hh hd, n_end h hG hx, n_cleaningOf h hG hx, e, nI_add, nI_1, smP_s]
      by_cases p : inP a ha d s = true
      · rw [if_pos p, if_neg nI_10, ih (s + 1) _ f (by omega) (hf2 n rfl), if_pos p, Nat.add_assoc]
      · rw [if_neg p, if_pos nI_0, ih (s + 1) _ f (by omega) (hf2 n rfl), if_neg p, Nat.zero_add]
  have h1 := key (a 4) 0 0 zFuel (Nat.zero_add _) (by show a 4 < 5000; omega)
  rw [Nat.zero_add] at h1
  exact h1
theorem n_greatestEnd (h : zRB X 1 a) (hG : Gd a) {ha d : Nat} (hh : ha < 2 ^ 31) (hd : d < 2 ^ 31) : f_X3_greatestEnd X (nI ha) (nI d) = some (nI (gEn a (inP a ha d) 0 (a 4) 0) - nI 1) := by
  have h4 := hG.c4
  have key : ∀ (n s e fu : Nat), s + n = a 4 → n < fu → e < 2 ^ 29 → f_X3_greatestEnd_L5 X (nI ha) (nI d) fu (nI e - nI 1) (nI s) = some (nI (gEn a (inP a ha d) s n e) - nI 1) := by
    intro n
    induction n with
    | zero =>
      intro s e fu hs hf he
      obtain ⟨f, rfl, -⟩ := fu_s hf
      rw [f_X3_greatestEnd_L5, n_size (n_nS h), if_pos (nI_le (by omega) (by omega))]
      rfl
    | succ n ih =>
      intro s e fu hs hf he
      obtain ⟨f, rfl, hf2⟩ := fu_s hf
      have hx : s < a 4 := by omega
      have hS := hG.2.2.2.2 s hx
      rw [f_X3_greatestEnd_L5, n_size (n_nS h), if_neg (nI_ge hx (by omega)), n_isShownIn h hG hx hh hd, n_end h hG hx, nI_1, gEn]
      by_cases p : inP a ha d s = true
      · rw [if_pos p, if_neg nI_10]
        by_cases c : e ≤ endA a s
        · rw [if_pos ((pk_sub_lt (by omega) (by decide) (by omega)).mpr (by omega)), if_pos ⟨p, c⟩, show nI (endA a s) = nI (endA a s + 1) - nI 1 by rw [pk_sub (by omega)]; rfl]
          exact ih (s + 1) _ f (by omega) (hf2 n rfl) (by omega)
        · rw [if_neg (fun q => by have := (pk_sub_lt (by omega) (by decide) (by omega)).mp q; omega), if_neg (fun q => c q.2)]
          exact ih (s + 1) _ f (by omega) (hf2 n rfl) he
      · rw [if_neg p, if_pos nI_0, if_neg (fun q => p q.1)]
        exact ih (s + 1) _ f (by omega) (hf2 n rfl) he
  exact key (a 4) 0 0 zFuel (Nat.zero_add _) (by show a 4 < 5000; omega) (by decide)
def oSt (a : Nat → Nat) (o : Option Nat) : Int32 := match o with
  | none => -1
  | some z => nI (shw a z 3)
theorem m_used_L (hR : RM (Y 1) a) (hG : Gd a) {ha d : Nat} (hh : ha < 2 ^ 31) (hd : d < 2 ^ 31) (v3 : Int32) (k : Int32 → Int32 → Int32 → Int32 → Option (Int32 × (Nat → Nat → Int32))) :
    f_X6_used_L51 k Y (nI ha) (nI d) v3 zFuel (nI 0) (nI 0) (-1) (-1) (nI 0) = k (nI (smP (inP a ha d) (mins a) 0 (a 4))) (nI (smP (inP a ha d) (clM a) 0 (a 4))) (oSt a (nxA a ha d 0)) (nI (gEn a (inP a ha d) 0 (a 4) 0) - nI 1) := by
  have h4 := hG.c4
  have c1 := hG.c1
  have key : ∀ (n s b c e fu : Nat) (o : Option Nat), s + n = a 4 → n < fu → e < 2 ^ 29 → (∀ z, o = some z → z < a 4) →
      f_X6_used_L51 k Y (nI ha) (nI d) v3 fu (nI b) (nI c) (oSt a o) (nI e - nI 1) (nI s) = k (nI (b + smP (inP a ha d) (mins a) s n)) (nI (c + smP (inP a ha d) (clM a) s n)) (oSt a (nxt a ha d 0 s n o)) (nI (gEn a (inP a ha d) s n e) - nI 1) := by
    intro n
    induction n with
    | zero =>
      intro s b c e fu o hs hf he ho
      obtain ⟨f, rfl, -⟩ := fu_s hf
      rw [f_X6_used_L51, m_nS hR, if_pos (nI_le (by omega) (by omega))]
      rfl
    | succ n ih =>
      intro s b c e fu o hs hf he ho
      obtain ⟨f, rfl, hf2⟩ := fu_s hf
      have hx : s < a 4 := by omega
      have hS := hG.2.2.2.2 s hx
      have hC : clnA a s ≤ 40 := (hG.2.1 _ hS.1).2.2.1
      have no : ¬ inP a ha d s = true → f_X6_used_L51 k Y (nI ha) (nI d) v3 f (nI b) (nI c) (oSt a o) (nI e - nI 1) (nI (s + 1)) = k (nI (b + smP (inP a ha d) (mins a) s (n + 1))) (nI (c + smP (inP a ha d) (clM a) s (n + 1))) (oSt a (nxt a ha d 0 s (n + 1) o)) (nI (gEn a (inP a ha d) s (n + 1) e) - nI 1) := fun p => by
        rw [smP_s, smP_s, nxt, gEn, if_neg p, if_neg p, if_neg (fun q => p q.1), Nat.zero_add, Nat.zero_add, show nxS a ha d 0 s o = o from if_neg (fun q => p q.1)]
        exact ih (s + 1) b c e f o (by omega) (hf2 n rfl) he ho
      rw [f_X6_used_L51, m_nS hR, if_neg (nI_ge hx (by omega)), m_stands hR hG hx, Option.bind_some, nI_1]
      by_cases c8 : shw a s 8 = 0
      case neg => rw [if_neg c8, if_pos nI_0]; exact no (fun q => c8 (inP_iff.mp q).2.2)
      rw [if_pos c8, if_neg nI_10, m_shw hR (by omega) (by decide), Option.bind_some]
      by_cases c0 : shw a s 0 = ha
      case neg => rw [if_neg (fun q => c0 ((nI_eq (by omega) hh).mp q))]; exact no (fun q => c0 (inP_iff.mp q).1)
      rw [if_pos (by rw [c0]), m_shw hR (by omega) (by decide), Option.bind_some]
      by_cases c2 : shw a s 2 = d
      case neg => rw [if_neg (fun q => c2 ((nI_eq (by omega) hd).mp q))]; exact no (fun q => c2 (inP_iff.mp q).2.1)
      have p := inP_iff.mpr ⟨c0, c2, c8⟩
      have eC : f_X6_upTo (nI (endA a s) + nI (clnA a s)) - f_X6_upTo (nI (endA a s)) = nI (clM a s) := by
        unfold f_X6_upTo clM
        rw [nI_add]
        have e1 : (if nI 960 ≤ nI (endA a s) then nI 960 else nI (endA a s)) = nI (endA a s) := by
          by_cases q : 960 ≤ endA a s
          · rw [if_pos (nI_le q (by omega)), show endA a s = 960 by omega]
          · rw [if_neg (nI_ge (by omega) (by omega))]
        rw [e1]
        by_cases q : 960 ≤ endA a s + clnA a s
        · rw [if_pos (nI_le q (by omega)), pk_sub (by omega)]
          by_cases q2 : 960 - endA a s < clnA a s
          · rw [if_pos q2]
          · rw [if_neg q2]; congr 1; omega
        · rw [if_neg (nI_ge (by omega) (by omega)), pk_sub (by omega), if_neg (by omega)]; congr 1; omega
      have go : ∀ (o2 : Option Nat) (e2 : Nat), nxS a ha d 0 s o = o2 → (if inP a ha d s = true ∧ e ≤ endA a s then endA a s + 1 else e) = e2 → e2 < 2 ^ 29 →
          f_X6_used_L51 k Y (nI ha) (nI d) v3 f (nI b + nI (mins a s)) (nI c + nI (clM a s)) (oSt a o2) (nI e2 - nI 1) (nI (s + 1)) = k (nI (b + smP (inP a ha d) (mins a) s (n + 1))) (nI (c + smP (inP a ha d) (clM a) s (n + 1))) (oSt a (nxt a ha d 0 s (n + 1) o)) (nI (gEn a (inP a ha d) s (n + 1) e) - nI 1) := by
        intro o2 e2 ho2 he2 hb2
        rw [smP_s, smP_s, nxt, gEn, if_pos p, if_pos p, ho2, he2, nI_add, nI_add, ← Nat.add_assoc, ← Nat.add_assoc]
        exact ih (s + 1) _ _ e2 f o2 (by omega) (hf2 n rfl) hb2 (fun z hz => nxS_lt hx ho z (ho2 ▸ hz))
      have fin : ∀ (o2 : Option Nat), nxS a ha d 0 s o = o2 →
          (if nI (endA a s) ≤ nI e - nI 1 then f_X6_used_L51 k Y (nI ha) (nI d) v3 f (nI b + nI (mins a s)) (nI c + nI (clM a s)) (oSt a o2) (nI e - nI 1) (nI (s + 1)) else f_X6_used_L51 k Y (nI ha) (nI d) v3 f (nI b + nI (mins a s)) (nI c + nI (clM a s)) (oSt a o2) (nI (endA a s)) (nI (s + 1))) = k (nI (b + smP (inP a ha d) (mins a) s (n + 1))) (nI (c + smP (inP a ha d) (clM a) s (n + 1))) (oSt a (nxt a ha d 0 s (n + 1) o)) (nI (gEn a (inP a ha d) s (n + 1) e) - nI 1) := by
        intro o2 ho2
        by_cases q : endA a s < e
        · rw [if_pos ((le_m1 (by omega) he).mpr q)]
          exact go o2 e ho2 (if_neg (fun z => by have := z.2; omega)) he
        · rw [if_neg (fun z => q ((le_m1 (by omega) he).mp z)), show nI (endA a s) = nI (endA a s + 1) - nI 1 by rw [pk_sub (by omega)]; rfl]
          exact go o2 (endA a s + 1) ho2 (if_pos ⟨p, by omega⟩) (by omega)
      rw [if_pos (by rw [c2]), m_minutesOf hR hG hx, m_endOf hR hG hx, m_cleanOf hR hG hx]
      simp only [Option.bind_some]
      rw [eC, m_shw hR (by omega) (by decide)]
      simp only [Option.bind_some]
      cases o with
      | none =>
        rw [if_pos (show oSt a none = -1 from rfl)]
        exact fin (some s) (if_pos ⟨p, Nat.zero_le _, rfl⟩)
      | some z =>
        have hz := ho z rfl
        have hZ := hG.2.2.2.2 z hz
        rw [if_neg (show ¬ oSt a (some z) = -1 from z_m1 (by omega))]
        by_cases c3 : shw a z 3 ≤ shw a s 3
        · rw [if_pos (show oSt a (some z) ≤ nI (shw a s 3) from nI_le c3 (by omega))]
          exact fin (some z) (if_neg (fun q => by have := of_decide_eq_true q.2.2; omega))
        · rw [if_neg (show ¬ oSt a (some z) ≤ nI (shw a s 3) from nI_ge (by omega) (by omega))]
          exact fin (some s) (if_pos ⟨p, Nat.zero_le _, decide_eq_true (by omega)⟩)
  have h1 := key (a 4) 0 0 0 0 zFuel none (Nat.zero_add _) (by show a 4 < 5000; omega) (by decide) (fun z h => by cases h)
  rw [Nat.zero_add, Nat.zero_add] at h1
  exact h1
theorem sim_used (h : zRB X 1 a) (hR : RM (Y 1) a) (hG : Gd a) (v1 v2 v3 : Int32) : zSimR X Y K31 (f_X5_used X v1 v2 v3) (f_X6_used Y v1 v2 v3) := by
  unfold f_X5_used f_X6_used
  rcases hall_cases h hR hG v1 with ⟨e1, e2⟩ | ⟨e1, e2, x, hx, rfl⟩
  · rw [e1, e2, if_pos nI_0, if_pos nI_0]
    exact .mk 3 0 (nI 0) rfl rfl (by decide)
  rw [e1, e2, if_neg nI_10, if_neg nI_10]
  have c1 := hG.c1
  rcases day_cases v2 with ⟨e3, e4⟩ | ⟨e3, e4, d, hd, rfl⟩
  · rw [e3, e4, if_pos nI_0, if_pos nI_0]
    exact .mk 1 0 (nI 0) rfl rfl (by decide)
  rw [e3, e4, if_neg nI_10, if_neg nI_10]
  rcases in_cases v3 (lo := 0) (hi := 4) (by decide) (by decide) with ⟨e3, e4, -⟩ | ⟨e3, e4, w, -, hw, rfl⟩
  · rw [e3, e4, if_pos nI_0, if_pos nI_0]
    exact .mk 1 0 (nI 0) rfl rfl (by decide)
  rw [e3, e4, if_neg nI_10, if_neg nI_10, n_showAfter h hG (m := 0) (by omega) (by omega) (by decide) (by decide), Option.bind_some, m_used_L hR hG (by omega) (by omega)]
  have dn : ∀ (v : Int32) (g : Option (Int32 × (Nat → Nat → Int32))), g = some (v, zU Y 0 0 (nI 0)) → zSimR X Y K31 (some (0, v, X)) g := fun v g hg => .mk 0 _ _ rfl hg (fun _ => rfl)
  match w, hw with
  | 0, _ => rw [if_pos rfl, n_shownMinutes h hG (by omega) (by omega), Option.bind_some, if_pos nI_0]; exact dn _ _ rfl
  | 1, _ => rw [if_neg (by decide), if_pos rfl, n_cleanedMinutes h hG (by omega) (by omega), Option.bind_some, if_neg (by decide), if_pos rfl]; exact dn _ _ rfl
  | 2, _ => rw [if_neg (by decide), if_neg (by decide), if_pos rfl, n_shownMinutes h hG (by omega) (by omega), Option.bind_some, n_cleanedMinutes h hG (by omega) (by omega), Option.bind_some, if_neg (by decide), if_neg (by decide), if_pos rfl]; exact dn _ _ rfl
  | 3, _ =>
    rw [if_neg (by decide), if_neg (by decide), if_neg (by decide), if_pos rfl]
    cases e : nxA a x d 0 with
    | none => rw [if_pos (show enO none = -1 from rfl), if_neg (by decide), if_neg (by decide), if_neg (by decide), if_pos rfl]; exact dn _ _ rfl
    | some z =>
      have hz := nxA_lt e
      have h4 := hG.c4
      rw [if_neg (show ¬ enO (some z) = -1 from z_m1 (by omega)), show f_X4_get X 8 360 (enO (some z)) (nI 3) = nI (shw a z 3) from n_shw h hG hz (by decide), if_neg (by decide), if_neg (by decide), if_neg (by decide), if_pos rfl]
      exact dn _ _ rfl
  | 4, _ => rw [if_neg (by decide), if_neg (by decide), if_neg (by decide), if_neg (by decide), n_greatestEnd h hG (by omega) (by omega), Option.bind_some, if_neg (by decide), if_neg (by decide), if_neg (by decide), if_neg (by decide)]; exact dn _ _ rfl
end AF
