/-! A FAILURE: the search for another place, on both sides -/
section SRH
variable {X X2 Y Y2 : Nat → Nat → Int32} {b c : Nat → Nat}
theorem zRB.x {X2 : Nat → Nat → Int32} (h : zRB X 1 b) (e : ∀ r, r < 14 → X2 r = X r) : zRB X2 1 b := by
  unfold zRB at h ⊢
  rw [e 1 (by decide), e (1 + 1) (by decide), e (1 + 2) (by decide), e (1 + 3) (by decide), e (1 + 4) (by decide), e (1 + 5) (by decide), e (1 + 6) (by decide), e (1 + 7) (by decide), e (1 + 8) (by decide), e (1 + 9) (by decide), e (1 + 10) (by decide), e (1 + 11) (by decide), e (1 + 12) (by decide)]
  exact h
/-- may the show s of the hall x go to the hall h at the start st -/
abbrev hok (c : Nat → Nat) (s x h st : Nat) : Prop := h ≠ x ∧ shw c s 7 ≤ hal c h 0 ∧ (brk c (nI s) (shw c s 1) (shw c s 2) h st (st + mins c s)).1 = 0
def fndH (c : Nat → Nat) (s x st : Nat) : Nat → Nat → Option Nat
  | _, 0 => none
  | i, n + 1 => if hok c s x i st then some i else fndH c s x st (i + 1) n
theorem fndH_lt {s x st N : Nat} : ∀ (n i : Nat), i + n = N → ∀ z, fndH c s x st i n = some z → z < N ∧ hok c s x z st
  | 0, i, _, z, h => by cases h
  | n + 1, i, hi, z, h => by
    rw [fndH] at h
    split at h
    · rename_i q
      cases h
      exact ⟨by omega, q⟩
    · exact fndH_lt n (i + 1) (by omega) z h
def fndV (c : Nat → Nat) (s x : Nat) (v : Int32) : Option Nat := if f_X5_isMinute v = 0 then none else fndH c s x v.toNatClampNeg 0 (c 1)
/-- what the search may change in the class's memory -/
def SIx (X X2 : Nat → Nat → Int32) (b : Nat → Nat) (s f d : Nat) : Prop := (∀ r, r ≠ 146 → r ≠ 147 → r ≠ 148 → X2 r = X r) ∧ oFul X2 b (nI s) f d
def SIy (Y Y2 : Nat → Nat → Int32) : Prop := FY Y Y2 ∧ Y2 1 = Y 1
theorem SIy.tr {Y3 : Nat → Nat → Int32} (h : SIy Y Y2) (h2 : SIy Y2 Y3) : SIy Y Y3 := ⟨h.1.tr h2.1, h2.2.trans h.2⟩
abbrev SH0 (X Y : Nat → Nat → Int32) (b c : Nat → Nat) (s x : Nat) : Prop := zRB X 1 b ∧ Gd b ∧ RM (Y 1) c ∧ Gd c ∧ VS b c ∧ s < c 4 ∧ x < c 1 ∧ shw c s 0 = x
theorem SH0.hB {s x : Nat} (H : SH0 X Y b c s x) : zRB X 1 b := H.1
theorem SH0.hGb {s x : Nat} (H : SH0 X Y b c s x) : Gd b := H.2.1
theorem SH0.hR {s x : Nat} (H : SH0 X Y b c s x) : RM (Y 1) c := H.2.2.1
theorem SH0.hG {s x : Nat} (H : SH0 X Y b c s x) : Gd c := H.2.2.2.1
theorem SH0.hV {s x : Nat} (H : SH0 X Y b c s x) : VS b c := H.2.2.2.2.1
theorem SH0.hs {s x : Nat} (H : SH0 X Y b c s x) : s < c 4 := H.2.2.2.2.2.1
theorem SH0.hx {s x : Nat} (H : SH0 X Y b c s x) : x < c 1 := H.2.2.2.2.2.2.1
theorem SH0.h0 {s x : Nat} (H : SH0 X Y b c s x) : shw c s 0 = x := H.2.2.2.2.2.2.2
theorem n_findH {s x : Nat} (H : SH0 X Y b c s x) {st : Nat} (hst : st < 960) (kk : (Nat → Nat → Int32) → Int32 → Option (Int32 × (Nat → Nat → Int32))) (k1 : (Nat → Nat → Int32) → Option (Int32 × (Nat → Nat → Int32))) (v1 v4 v7 v8 : Int32) : ∀ (n i fu : Nat) (X2 : Nat → Nat → Int32), i + n = c 1 → n < fu → SIx X X2 b s (shw c s 1) (shw c s 2) →
    ∃ X3, SIx X X3 b s (shw c s 1) (shw c s 2) ∧ f_X5_isPlacedAgain_L142 kk k1 v1 (nI x) v4 (nI (shw c s 7)) (nI (mins c s)) v7 v8 (nI st) fu X2 (nI i) = (match fndH c s x st i n with | none => k1 X3 | some h => kk X3 (nI h)) := by
  obtain ⟨hB, hGb, hR, hG, hV, hs, hx, h0⟩ := H
  have g1 := hG.c1
  have hS := hG.2.2.2.2 s hs
  have hm : 0 < mins c s ∧ mins c s < 2 ^ 20 := by
    have hF := hG.2.2.1 _ hS.2.1
    unfold mins
    omega
  have e1 : b 1 = c 1 := hV.1.lo (by decide) (by decide)
  have e2 : b 2 = c 2 := hV.1.lo (by decide) (by decide)
  have mi : f_X5_isMinute (nI st) = nI 1 := by
    rcases minute_cases (nI st) with ⟨q, -⟩ | ⟨q, -, -⟩
    · rcases in_cases (nI st) (lo := 0) (hi := 959) (by decide) (by decide) with ⟨-, -, ne⟩ | ⟨-, g, -⟩
      · exact absurd ⟨st, Nat.zero_le _, by omega, rfl⟩ ne
      · exact g
    · exact q
  intro n
  induction n with
  | zero =>
    intro i fu X2 hi hf hX
    obtain ⟨f, rfl, -⟩ := fu_s hf
    have hB2 : zRB X2 1 b := hB.x (fun r hr => hX.1 r (by omega) (by omega) (by omega))
    refine ⟨X2, hX, ?_⟩
    rw [f_X5_isPlacedAgain_L142, n_size (n_nH hB2), e1, if_pos (nI_le (by omega) (by omega))]
    rfl
  | succ n ih =>
    intro i fu X2 hi hf hX
    obtain ⟨f, rfl, hf2⟩ := fu_s hf
    have hf2 := hf2 n rfl
    have hB2 : zRB X2 1 b := hB.x (fun r hr => hX.1 r (by omega) (by omega) (by omega))
    have hi4 : i < c 1 := by omega
    have eh : hal b i 0 = hal c i 0 := hV.1.hal (by omega) (by decide)
    rw [f_X5_isPlacedAgain_L142, n_size (n_nH hB2), e1, if_neg (nI_ge hi4 (by omega)), mi, if_neg nI_10, fndH, nI_1]
    have hh := hal_lt hG hi4
    by_cases c1 : i = x
    · rw [if_pos (show nI i = nI x by rw [c1]), if_neg (fun q => q.1 c1)]
      exact ih (i + 1) f X2 (by omega) hf2 hX
    · rw [if_neg (fun q => c1 ((nI_eq (by omega) (by omega)).mp q)), n_hal hB2 hGb (by omega) (by decide), eh]
      by_cases c2 : shw c s 7 ≤ hal c i 0
      · rw [if_neg (fun q => by rw [nI_ltI (by omega) (by omega)] at q; omega), nI_add, n_firstBroken hB2 hGb hX.2 (by omega) (by omega) (by omega) hst (by omega) (by omega), hV.bk hG hi4 hS.2.1 hst, Option.bind_some]
        dsimp only
        by_cases c3 : (brk c (nI s) (shw c s 1) (shw c s 2) i st (st + mins c s)).1 = 0
        · rw [if_pos (show nI (brk c (nI s) (shw c s 1) (shw c s 2) i st (st + mins c s)).1 = 0 by rw [c3]; rfl), if_pos ⟨c1, c2, c3⟩]
          exact ⟨_, ⟨fun r q1 q2 q3 => (zU_r _ _ _ _ q1).trans (hX.1 r q1 q2 q3), hX.2.u _⟩, rfl⟩
        · rw [if_neg (fun (q : nI (brk c (nI s) (shw c s 1) (shw c s 2) i st (st + mins c s)).1 = 0) => c3 ((nI_eq (by have := brk_9 c (nI s) (shw c s 1) (shw c s 2) i st (st + mins c s); omega) (by decide)).mp q)), if_neg (fun q => c3 q.2.2)]
          exact ih (i + 1) f _ (by omega) hf2 ⟨fun r q1 q2 q3 => (zU_r _ _ _ _ q1).trans (hX.1 r q1 q2 q3), hX.2.u _⟩
      · rw [if_pos ((nI_ltI (by omega) (by omega)).mpr (by omega)), if_neg (fun q => c2 q.2.1)]
        exact ih (i + 1) f X2 (by omega) hf2 hX
end SRH
