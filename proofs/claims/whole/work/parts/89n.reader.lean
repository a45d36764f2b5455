/-! perform: READING. Both sides read the same text in the same way -/
/-- the sign at a place; 1000 behind the end -/
def chN (t : Nat → Nat) (k p : Nat) : Nat := if p < k then t p else 1000
def chA (t : Nat → Nat) (k p : Nat) : Int32 := if p < k then nI (t p) else -1
theorem chA_eq {t : Nat → Nat} {k p c : Nat} (ht : ∀ j, j < k → t j < 256) (hc : c < 256) : chA t k p = nI c ↔ chN t k p = c := by
  unfold chA chN
  by_cases h : p < k
  · rw [if_pos h, if_pos h]
    have := ht p h
    exact nI_eq (by omega) (by omega)
  · rw [if_neg h, if_neg h]
    constructor
    · intro q; exact absurd q.symm (z_m1 (by omega))
    · intro q; omega
theorem n_signAt {t : Nat → Nat} {k : Nat} {f : Nat → Int32} (hL : sb_Lat t k f) (hk : k ≤ 60) (ht : ∀ j, j < k → t j < 256) {p : Nat} (hp : p < 1000) : f_X1_signAt k f (nI p) = chA t k p := by
  unfold f_X1_signAt chA
  rw [if_neg (nI_pos (by omega))]
  by_cases c : p < k
  · have qb := sb_byte (t p) (ht p c)
    rw [if_neg (nI_ge c (by omega)), if_pos c, nI_clamp (by omega), (hL p c).2, show sb_b (t p) &&& nI 255 = nI (t p) from qb.1, qb.2.1]
  · rw [if_pos (nI_le (by omega) (by omega)), if_neg c]
theorem m_here {t : Nat → Nat} {k p : Nat} {Y : Nat → Nat → Int32} (hT : zTIn t k Y) (h : Y 0 24 = nI p) (hp : p < 1000) : f_X6_here Y = some (chA t k p) := by
  have hk := hT.1
  unfold f_X6_here chA
  rw [hT.2.1, h]
  by_cases c : p < k
  · rw [if_neg (nI_ge c (by omega)), if_neg (nI_in (show p < 60 by omega) (by decide)), nI_clamp (by omega), (hT.2.2 p c).2, if_pos c]
  · rw [if_pos (nI_le (by omega) (by omega)), if_neg c]
theorem zTIn.cg {t : Nat → Nat} {k : Nat} {Y Y' : Nat → Nat → Int32} (h : zTIn t k Y) (h0 : Y' 0 11 = Y 0 11) (h5 : Y' 5 = Y 5) : zTIn t k Y' := ⟨h.1, by rw [h0]; exact h.2.1, fun j hj => by rw [h5]; exact h.2.2 j hj⟩
/-! words -/
def wN (w j : Nat) : Nat := [112, 108, 97, 110, 115, 101, 108, 108, 100, 114, 111, 112, 102, 97, 105, 108, 100, 97, 121, 115].getD (w * 4 + j) 0
theorem wN_lt {w j : Nat} (hw : w < 5) (hj : j < 4) : wN w j < 256 := by
  have : ∀ w, w < 5 → ∀ j, j < 4 → wN w j < 256 := by decide
  exact this w hw j hj
theorem n_word {w j : Nat} (hw : w < 5) (hj : j < 4) : zChr zWords (nI w * nI 4 + nI j) = nI (wN w j) := by
  have : ∀ w, w < 5 → ∀ j, j < 4 → zChr zWords (nI w * nI 4 + nI j) = nI (wN w j) := by decide +kernel
  exact this w hw j hj
theorem m_word {w j : Nat} (hw : w < 5) (hj : j < 4) : f_X6_letterOf (nI w) (nI j) = some (nI (wN w j)) := by
  have : ∀ w, w < 5 → ∀ j, j < 4 → f_X6_letterOf (nI w) (nI j) = some (nI (wN w j)) := by decide +kernel
  exact this w hw j hj
def rlN (x0 x1 x2 x3 w : Nat) : Nat := if x0 = wN w 0 then if x1 = wN w 1 then if x2 = wN w 2 then if x3 = wN w 3 then 4 else 3 else 2 else 1 else 0
theorem rlN_le (x0 x1 x2 x3 w : Nat) : rlN x0 x1 x2 x3 w ≤ 4 := by
  unfold rlN
  repeat' split
  all_goals omega
section RD
variable {t : Nat → Nat} {k : Nat} {f : Nat → Int32}
theorem n_right (hL : sb_Lat t k f) (hk : k ≤ 60) (ht : ∀ j, j < k → t j < 256) {X : Nat → Nat → Int32} {p w : Nat} (hp : X 149 1 = nI p) (hp2 : p ≤ 60) (hw : w < 5) :
    f_X1_rightLetters k f X (nI w) = some (nI (rlN (chN t k p) (chN t k (p + 1)) (chN t k (p + 2)) (chN t k (p + 3)) w)) := by
  have st : ∀ j fu, j < 4 → f_X1_rightLetters_L2 k f X (nI w) (fu + 1) (nI j) = if chN t k (p + j) = wN w j then f_X1_rightLetters_L2 k f X (nI w) fu (nI (j + 1)) else some (nI j) := by
    intro j fu hj
    rw [f_X1_rightLetters_L2, if_neg (nI_ge hj (by omega)), hp, n_word hw hj, nI_add, n_signAt hL hk ht (by omega), pk_mul, nI_add, if_neg (nI_pos (by omega)), if_neg (nI_ge (by omega) (by omega)), nI_1]
    by_cases c : chN t k (p + j) = wN w j
    · rw [if_pos c, if_pos ((chA_eq ht (wN_lt hw hj)).mpr c)]
    · rw [if_neg c, if_neg (fun q => c ((chA_eq ht (wN_lt hw hj)).mp q))]
  have fin : ∀ fu, f_X1_rightLetters_L2 k f X (nI w) (fu + 1) (nI 4) = some (nI 4) := fun fu => by rw [f_X1_rightLetters_L2, if_pos (nI_le (by omega) (by omega))]
  show f_X1_rightLetters_L2 k f X (nI w) (4995 + 1 + 1 + 1 + 1 + 1) (nI 0) = _
  rw [st 0 _ (by decide), st 1 _ (by decide), st 2 _ (by decide), st 3 _ (by decide), fin]
  unfold rlN
  rw [Nat.add_zero]
  by_cases c0 : chN t k p = wN w 0
  · simp only [if_pos c0]
    by_cases c1 : chN t k (p + 1) = wN w 1
    · simp only [if_pos c1]
      by_cases c2 : chN t k (p + 2) = wN w 2
      · simp only [if_pos c2]
        by_cases c3 : chN t k (p + 3) = wN w 3
        · simp only [if_pos c3]
        · simp only [if_neg c3]
      · simp only [if_neg c2]
    · simp only [if_neg c1]
  · simp only [if_neg c0]
/-- word and letters, as the class reads them: the greatest number of right letters, and the word; 5: none -/
def fdN (r0 r1 r2 r3 r4 : Nat) : Nat := if r4 = 4 then 4 else if r3 = 4 then 3 else if r2 = 4 then 2 else if r1 = 4 then 1 else if r0 = 4 then 0 else 5
def enW (w : Nat) : Int32 := if w = 5 then -1 else nI w
theorem n_readWord (hL : sb_Lat t k f) (hk : k ≤ 60) (ht : ∀ j, j < k → t j < 256) {X : Nat → Nat → Int32} {p : Nat} (hp : X 149 1 = nI p) (hp2 : p ≤ 60) {r : Nat → Nat} (hr : r = rlN (chN t k p) (chN t k (p + 1)) (chN t k (p + 2)) (chN t k (p + 3))) :
    f_X1_readWord k f X = some (enW (fdN (r 0) (r 1) (r 2) (r 3) (r 4)), zU X 149 1 (nI (p + max (max (max (max (r 0) (r 1)) (r 2)) (r 3)) (r 4)))) := by
  have hle : ∀ w, r w ≤ 4 := fun w => by rw [hr]; exact rlN_le _ _ _ _ w
  have st : ∀ kk w fu m v, w < 5 → m ≤ 4 → f_X1_readWord_L7 kk k f X (fu + 1) (nI m) v (nI w) = f_X1_readWord_L7 kk k f X fu (nI (max m (r w))) (if r w = 4 then nI w else v) (nI (w + 1)) := by
    intro kk w fu m v hw hm
    have e : f_X1_rightLetters k f X (nI w) = some (nI (r w)) := by rw [hr]; exact n_right hL hk ht hp hp2 hw
    have h4 := hle w
    have em : (if nI m < nI (r w) then nI (r w) else nI m) = nI (max m (r w)) := by
      by_cases c : m < r w
      · rw [if_pos (nI_lt c (by omega)), Nat.max_eq_right (by omega)]
      · rw [if_neg (nI_nlt (by omega) (by omega)), Nat.max_eq_left (by omega)]
    rw [f_X1_readWord_L7, if_neg (nI_ge hw (by omega)), e, Option.bind_some, em, nI_1]
    by_cases c : r w = 4
    · rw [if_pos (by rw [c]), if_pos c]
    · rw [if_neg (fun q => c ((nI_eq (by omega) (by decide)).mp q)), if_neg c]
  have mx : ∀ a b, a ≤ 4 → b ≤ 4 → max a b ≤ 4 := fun a b h1 h2 => Nat.max_le.mpr ⟨h1, h2⟩
  show f_X1_readWord_L7 _ k f X (4994 + 1 + 1 + 1 + 1 + 1 + 1) (nI 0) (-1) (nI 0) = _
  rw [st _ 0 _ 0 _ (by decide) (by decide), st _ 1 _ _ _ (by decide) (mx _ _ (by decide) (hle 0)), Nat.zero_max, st _ 2 _ _ _ (by decide) (mx _ _ (hle 0) (hle 1)), st _ 3 _ _ _ (by decide) (mx _ _ (mx _ _ (hle 0) (hle 1)) (hle 2)), st _ 4 _ _ _ (by decide) (mx _ _ (mx _ _ (mx _ _ (hle 0) (hle 1)) (hle 2)) (hle 3)), f_X1_readWord_L7, if_pos (nI_le (by decide) (by decide)), zlet_eq, hp, nI_add]
  congr 2
  unfold fdN
  by_cases c4 : r 4 = 4
  · simp only [if_pos c4]; rfl
  · simp only [if_neg c4]
    by_cases c3 : r 3 = 4
    · simp only [if_pos c3]; rfl
    · simp only [if_neg c3]
      by_cases c2 : r 2 = 4
      · simp only [if_pos c2]; rfl
      · simp only [if_neg c2]
        by_cases c1 : r 1 = 4
        · simp only [if_pos c1]; rfl
        · simp only [if_neg c1]
          by_cases c0 : r 0 = 4
          · simp only [if_pos c0]; rfl
          · simp only [if_neg c0]; rfl
/-! the reference's words -/
def bt (can w : Nat) : Bool := (can >>> w) &&& 1 == 1
def nx (can j x : Nat) : Nat := (if bt can 0 ∧ wN 0 j = x then 1 else 0) + (if bt can 1 ∧ wN 1 j = x then 2 else 0) + (if bt can 2 ∧ wN 2 j = x then 4 else 0) + (if bt can 3 ∧ wN 3 j = x then 8 else 0) + (if bt can 4 ∧ wN 4 j = x then 16 else 0)
theorem m_bit {can w : Nat} (hc : can < 32) (hw : w < 5) : (nI can >>> (nI w &&& 31)) &&& nI 1 = nI 1 ↔ bt can w = true := by
  have : ∀ can, can < 32 → ∀ w, w < 5 → (decide ((nI can >>> (nI w &&& 31)) &&& nI 1 = nI 1) = bt can w) := by decide +kernel
  have := this can hc w hw
  rw [← this, decide_eq_true_iff]
theorem m_or {w n : Nat} (hw : w < 5) (hn : n < 2 ^ w) : nI n ||| (nI 1 <<< (nI w &&& 31)) = nI (n + 2 ^ w) ∧ nI n ||| nI 0 = nI n := by
  have : ∀ w, w < 5 → ∀ n, n < 2 ^ w → nI n ||| (nI 1 <<< (nI w &&& 31)) = nI (n + 2 ^ w) ∧ nI n ||| nI 0 = nI n := by decide +kernel
  exact this w hw n hn
theorem m_inner {Y : Nat → Nat → Int32} (hT : zTIn t k Y) {p : Nat} (hp : Y 0 24 = nI p) (hp2 : p < 1000) {can j : Nat} (hc : can < 32) (hj : j < 4) (kk : Int32 → Option (Int32 × (Nat → Nat → Int32))) :
    f_X6_readsWord_L15 kk Y (nI can) (nI j) zFuel (nI 0) (nI 0) = kk (nI (nx can j (chN t k p))) ∧ nx can j (chN t k p) < 32 := by
  have ht : ∀ j, j < k → t j < 256 := fun j hj => (hT.2.2 j hj).1
  have hh := m_here hT hp (by omega)
  have st : ∀ w fu n, w < 5 → n < 2 ^ w → f_X6_readsWord_L15 kk Y (nI can) (nI j) (fu + 1) (nI n) (nI w) = f_X6_readsWord_L15 kk Y (nI can) (nI j) fu (nI (n + if bt can w ∧ wN w j = chN t k p then 2 ^ w else 0)) (nI (w + 1)) := by
    intro w fu n hw hn
    obtain ⟨o1, o2⟩ := m_or hw hn
    rw [f_X6_readsWord_L15, if_neg (nI_ge hw (by omega)), nI_1]
    by_cases c : bt can w = true
    · rw [if_pos ((m_bit hc hw).mpr c), m_word hw hj, Option.bind_some, hh, Option.bind_some]
      by_cases c2 : wN w j = chN t k p
      · rw [if_pos ((chA_eq ht (wN_lt hw hj)).mpr c2.symm).symm, o1, if_pos ⟨c, c2⟩]
      · rw [if_neg (fun q => c2 ((chA_eq ht (wN_lt hw hj)).mp q.symm).symm), o2, if_neg (fun q => c2 q.2)]
        rfl
    · rw [if_neg (fun q => c ((m_bit hc hw).mp q)), o2, if_neg (fun q => c q.1)]
      rfl
  have b : ∀ (P : Prop) [Decidable P] (n : Nat), (if P then n else 0) ≤ n := fun P _ n => by split <;> omega
  have b0 := b (bt can 0 = true ∧ wN 0 j = chN t k p) 1
  have b1 := b (bt can 1 = true ∧ wN 1 j = chN t k p) 2
  have b2 := b (bt can 2 = true ∧ wN 2 j = chN t k p) 4
  have b3 := b (bt can 3 = true ∧ wN 3 j = chN t k p) 8
  have b4 := b (bt can 4 = true ∧ wN 4 j = chN t k p) 16
  refine ⟨?_, by unfold nx; omega⟩
  show f_X6_readsWord_L15 kk Y (nI can) (nI j) (4994 + 1 + 1 + 1 + 1 + 1 + 1) (nI 0) (nI 0) = _
  have e0 : (2 : Nat) ^ 0 = 1 := rfl
  have e1 : (2 : Nat) ^ 1 = 2 := rfl
  have e2 : (2 : Nat) ^ 2 = 4 := rfl
  have e3 : (2 : Nat) ^ 3 = 8 := rfl
  have e4 : (2 : Nat) ^ 4 = 16 := rfl
  rw [st 0 _ 0 (by decide) (by decide), Nat.zero_add, e0, st 1 _ _ (by decide) (by rw [e1]; omega), e1, st 2 _ _ (by decide) (by rw [e2]; omega), e2, st 3 _ _ (by decide) (by rw [e3]; omega), e3, st 4 _ _ (by decide) (by rw [e4]; omega), e4, f_X6_readsWord_L15, if_pos (nI_le (by decide) (by decide))]
  rfl
end RD
/-- word and letters, as the reference reads them; then as the class does -/
def rdN (x0 x1 x2 x3 : Nat) : Nat × Nat :=
  if nx 31 0 x0 = 0 then (5, 0) else
  if nx (nx 31 0 x0) 1 x1 = 0 then (5, 1) else
  if nx (nx (nx 31 0 x0) 1 x1) 2 x2 = 0 then (5, 2) else
  if nx (nx (nx (nx 31 0 x0) 1 x1) 2 x2) 3 x3 = 0 then (5, 3) else
  (if nx (nx (nx (nx 31 0 x0) 1 x1) 2 x2) 3 x3 = 1 then 0 else if nx (nx (nx (nx 31 0 x0) 1 x1) 2 x2) 3 x3 = 2 then 1 else if nx (nx (nx (nx 31 0 x0) 1 x1) 2 x2) 3 x3 = 4 then 2 else if nx (nx (nx (nx 31 0 x0) 1 x1) 2 x2) 3 x3 = 8 then 3 else 4, 4)
def wdN (x0 x1 x2 x3 : Nat) : Nat × Nat := (fdN (rlN x0 x1 x2 x3 0) (rlN x0 x1 x2 x3 1) (rlN x0 x1 x2 x3 2) (rlN x0 x1 x2 x3 3) (rlN x0 x1 x2 x3 4), max (max (max (max (rlN x0 x1 x2 x3 0) (rlN x0 x1 x2 x3 1)) (rlN x0 x1 x2 x3 2)) (rlN x0 x1 x2 x3 3)) (rlN x0 x1 x2 x3 4))
-- all that matters of a sign is which letter of its place it is
def lts (j : Nat) : List Nat := [[0, 112, 115, 100, 102], [0, 108, 101, 114, 97], [0, 97, 108, 111, 105, 121], [0, 110, 108, 112, 115]].getD j []
def cl (j x : Nat) : Nat := if x ∈ lts j then x else 0
theorem cl_eq {j x c : Nat} (hc : c ∈ lts j) (h0 : c ≠ 0) : x = c ↔ cl j x = c := by
  unfold cl
  constructor
  · intro h; rw [h, if_pos hc]
  · intro h
    split at h
    · exact h
    · exact absurd h.symm h0
theorem wN_cl {w j : Nat} (hw : w < 5) (hj : j < 4) : wN w j ∈ lts j ∧ wN w j ≠ 0 := by
  have : ∀ w, w < 5 → ∀ j, j < 4 → wN w j ∈ lts j ∧ wN w j ≠ 0 := by decide
  exact this w hw j hj
theorem rl_cl (x0 x1 x2 x3 w : Nat) (hw : w < 5) : rlN x0 x1 x2 x3 w = rlN (cl 0 x0) (cl 1 x1) (cl 2 x2) (cl 3 x3) w := by
  unfold rlN
  have e : ∀ j, j < 4 → ∀ x, (x = wN w j) = (cl j x = wN w j) := fun j hj x => propext (cl_eq (wN_cl hw hj).1 (wN_cl hw hj).2)
  simp only [e 0 (by decide) x0, e 1 (by decide) x1, e 2 (by decide) x2, e 3 (by decide) x3]
theorem nx_cl (can j x : Nat) (hj : j < 4) : nx can j x = nx can j (cl j x) := by
  unfold nx
  have e : ∀ w, w < 5 → (wN w j = x) = (wN w j = cl j x) := fun w hw => propext ⟨fun h => ((cl_eq (wN_cl hw hj).1 (wN_cl hw hj).2).mp h.symm).symm, fun h => ((cl_eq (wN_cl hw hj).1 (wN_cl hw hj).2).mpr h.symm).symm⟩
  simp only [e 0 (by decide), e 1 (by decide), e 2 (by decide), e 3 (by decide), e 4 (by decide)]
theorem cl_mem (j x : Nat) (hj : j < 4) : cl j x ∈ lts j := by
  unfold cl
  split
  · assumption
  · have : ∀ j, j < 4 → 0 ∈ lts j := by decide
    exact this j hj
theorem rd_dec : ∀ x0 ∈ lts 0, ∀ x1 ∈ lts 1, ∀ x2 ∈ lts 2, ∀ x3 ∈ lts 3, rdN x0 x1 x2 x3 = wdN x0 x1 x2 x3 ∧ (wdN x0 x1 x2 x3).1 ≤ 5 ∧ (wdN x0 x1 x2 x3).2 ≤ 4 ∧ (1 ≤ (wdN x0 x1 x2 x3).2 → x0 ≠ 0) ∧ (2 ≤ (wdN x0 x1 x2 x3).2 → x1 ≠ 0) ∧ (3 ≤ (wdN x0 x1 x2 x3).2 → x2 ≠ 0) ∧ (4 ≤ (wdN x0 x1 x2 x3).2 → x3 ≠ 0) ∧ ((wdN x0 x1 x2 x3).1 ≠ 5 → (wdN x0 x1 x2 x3).2 = 4) := by decide +kernel
theorem wd_cl (x0 x1 x2 x3 : Nat) : wdN x0 x1 x2 x3 = wdN (cl 0 x0) (cl 1 x1) (cl 2 x2) (cl 3 x3) := by
  unfold wdN
  rw [rl_cl x0 x1 x2 x3 0 (by decide), rl_cl x0 x1 x2 x3 1 (by decide), rl_cl x0 x1 x2 x3 2 (by decide), rl_cl x0 x1 x2 x3 3 (by decide), rl_cl x0 x1 x2 x3 4 (by decide)]
theorem rd_cl (x0 x1 x2 x3 : Nat) : rdN x0 x1 x2 x3 = rdN (cl 0 x0) (cl 1 x1) (cl 2 x2) (cl 3 x3) := by
  unfold rdN
  rw [nx_cl 31 0 x0 (by decide)]
  generalize nx 31 0 (cl 0 x0) = a
  rw [nx_cl a 1 x1 (by decide)]
  generalize nx a 1 (cl 1 x1) = b
  rw [nx_cl b 2 x2 (by decide)]
  generalize nx b 2 (cl 2 x2) = c
  rw [nx_cl c 3 x3 (by decide)]
theorem rd_eq (x0 x1 x2 x3 : Nat) : rdN x0 x1 x2 x3 = wdN x0 x1 x2 x3 := by
  rw [rd_cl, wd_cl]
  exact (rd_dec _ (cl_mem 0 x0 (by decide)) _ (cl_mem 1 x1 (by decide)) _ (cl_mem 2 x2 (by decide)) _ (cl_mem 3 x3 (by decide))).1
/-- the letters that were read are there; a whole word has four -/
theorem wd_adv (x0 x1 x2 x3 : Nat) : (wdN x0 x1 x2 x3).1 ≤ 5 ∧ (wdN x0 x1 x2 x3).2 ≤ 4 ∧ (1 ≤ (wdN x0 x1 x2 x3).2 → x0 < 256) ∧ (2 ≤ (wdN x0 x1 x2 x3).2 → x1 < 256) ∧ (3 ≤ (wdN x0 x1 x2 x3).2 → x2 < 256) ∧ (4 ≤ (wdN x0 x1 x2 x3).2 → x3 < 256) ∧ ((wdN x0 x1 x2 x3).1 ≠ 5 → (wdN x0 x1 x2 x3).2 = 4) := by
  have h := (rd_dec _ (cl_mem 0 x0 (by decide)) _ (cl_mem 1 x1 (by decide)) _ (cl_mem 2 x2 (by decide)) _ (cl_mem 3 x3 (by decide))).2
  rw [← wd_cl] at h
  have c : ∀ j, j < 4 → ∀ x, cl j x ≠ 0 → x < 256 := by
    intro j hj x hx
    unfold cl at hx
    split at hx
    · rename_i m
      have : ∀ j, j < 4 → ∀ x ∈ lts j, x < 256 := by decide
      exact this j hj x m
    · exact absurd rfl hx
  exact ⟨h.1, h.2.1, fun q => c 0 (by decide) _ (h.2.2.1 q), fun q => c 1 (by decide) _ (h.2.2.2.1 q), fun q => c 2 (by decide) _ (h.2.2.2.2.1 q), fun q => c 3 (by decide) _ (h.2.2.2.2.2.1 q), h.2.2.2.2.2.2⟩
section RD2
variable {t : Nat → Nat} {k : Nat} {f : Nat → Int32}
theorem m_readWord {Y : Nat → Nat → Int32} (hT : zTIn t k Y) {p : Nat} (hp : Y 0 24 = nI p) (hp2 : p ≤ 60) {x0 x1 x2 x3 : Nat} (h0 : x0 = chN t k p) (h1 : x1 = chN t k (p + 1)) (h2 : x2 = chN t k (p + 2)) (h3 : x3 = chN t k (p + 3)) :
    ∃ Y', f_X6_readsWord Y = some (enW (wdN x0 x1 x2 x3).1, Y') ∧ Y' 0 24 = nI (p + (wdN x0 x1 x2 x3).2) ∧ (∀ j, j ≠ 24 → Y' 0 j = Y 0 j) ∧ (∀ r, r ≠ 0 → Y' r = Y r) ∧ p + (wdN x0 x1 x2 x3).2 ≤ max p k := by
  have ws := wd_adv x0 x1 x2 x3
  have hlim : p + (wdN x0 x1 x2 x3).2 ≤ max p k := by
    have c : ∀ q, chN t k q < 256 → q < k := fun q h => by
      unfold chN at h
      split at h
      · assumption
      · omega
    generalize (wdN x0 x1 x2 x3).2 = n at ws
    obtain ⟨-, w4, w0, w1, w2, w3, -⟩ := ws
    rw [h0] at w0; rw [h1] at w1; rw [h2] at w2; rw [h3] at w3
    match n, w4 with
    | 0, _ => omega
    | 1, _ => have := c _ (w0 (by decide)); omega
    | 2, _ => have := c _ (w1 (by decide)); omega
    | 3, _ => have := c _ (w2 (by decide)); omega
    | 4, _ => have := c _ (w3 (by decide)); omega
  rw [← rd_eq] at hlim ⊢
  have st : ∀ kk j fu can Z, j < 4 → can < 32 → (Z 0 24 = nI (p + j) ∧ (∀ j, j ≠ 24 → Z 0 j = Y 0 j) ∧ ∀ r, r ≠ 0 → Z r = Y r) → nx can j (chN t k (p + j)) < 32 ∧ (nx can j (chN t k (p + j)) = 0 → f_X6_readsWord_L5 kk (fu + 1) Z (nI can) (nI j) = some (-1, Z)) ∧
      (nx can j (chN t k (p + j)) ≠ 0 → ∃ Z', (Z' 0 24 = nI (p + (j + 1)) ∧ (∀ j, j ≠ 24 → Z' 0 j = Y 0 j) ∧ ∀ r, r ≠ 0 → Z' r = Y r) ∧ f_X6_readsWord_L5 kk (fu + 1) Z (nI can) (nI j) = f_X6_readsWord_L5 kk fu Z' (nI (nx can j (chN t k (p + j)))) (nI (j + 1))) := by
    intro kk j fu can Z hj hc hZ
    have hT' : zTIn t k Z := hT.cg (hZ.2.1 11 (by decide)) (hZ.2.2 5 (by decide))
    have mi := fun kk => m_inner hT' hZ.1 (by omega) hc hj kk
    refine ⟨(mi (fun _ => none)).2, fun c => ?_, fun c => ⟨zU Z 0 24 (nI (p + (j + 1))), ⟨zU_s _ _ _ _, fun i hi => by rw [zU_k _ _ _ _ hi]; exact hZ.2.1 i hi, fun r hr => by rw [zU_r _ _ _ _ hr]; exact hZ.2.2 r hr⟩, ?_⟩⟩
    · rw [f_X6_readsWord_L5, if_neg (nI_ge hj (by omega)), (mi _).1, c, if_pos nI_0]
    · have := (mi (fun _ => none)).2
      rw [f_X6_readsWord_L5, if_neg (nI_ge hj (by omega)), (mi _).1, if_neg (nI_ne0 (by omega) (by omega)), zlet_eq, hZ.1, nI_add, nI_1]
      rfl
  have main : ∀ kk : (Nat → Nat → Int32) → Int32 → Option (Int32 × (Nat → Nat → Int32)), (∃ Y', f_X6_readsWord_L5 kk zFuel Y (nI 31) (nI 0) = some (-1, Y') ∧ (rdN x0 x1 x2 x3).1 = 5 ∧ Y' 0 24 = nI (p + (rdN x0 x1 x2 x3).2) ∧ (∀ j, j ≠ 24 → Y' 0 j = Y 0 j) ∧ ∀ r, r ≠ 0 → Y' r = Y r) ∨
      ∃ Y' n, f_X6_readsWord_L5 kk zFuel Y (nI 31) (nI 0) = kk Y' (nI n) ∧ n < 32 ∧ rdN x0 x1 x2 x3 = (if n = 1 then 0 else if n = 2 then 1 else if n = 4 then 2 else if n = 8 then 3 else 4, 4) ∧ Y' 0 24 = nI (p + 4) ∧ (∀ j, j ≠ 24 → Y' 0 j = Y 0 j) ∧ ∀ r, r ≠ 0 → Y' r = Y r := by
    intro kk
    have e : ∀ Z a b, f_X6_readsWord_L5 kk zFuel Z a b = f_X6_readsWord_L5 kk (4995 + 1 + 1 + 1 + 1 + 1) Z a b := fun _ _ _ => rfl
    rw [e]
    obtain ⟨l0, a0, b0⟩ := st kk 0 (4995 + 1 + 1 + 1 + 1) 31 Y (by decide) (by decide) ⟨by rw [hp, Nat.add_zero], fun _ _ => rfl, fun _ _ => rfl⟩
    rw [Nat.add_zero, ← h0] at l0 a0 b0
    by_cases c0 : nx 31 0 x0 = 0
    · refine Or.inl ⟨Y, a0 c0, ?_⟩
      have er : rdN x0 x1 x2 x3 = (5, 0) := if_pos c0
      rw [er]
      exact ⟨rfl, by rw [hp, Nat.add_zero], fun _ _ => rfl, fun _ _ => rfl⟩
    obtain ⟨Z1, z1, e1⟩ := b0 c0
    rw [e1]
    obtain ⟨l1, a1, b1⟩ := st kk 1 (4995 + 1 + 1 + 1) _ Z1 (by decide) l0 z1
    rw [← h1] at l1 a1 b1
    by_cases c1 : nx (nx 31 0 x0) 1 x1 = 0
    · refine Or.inl ⟨Z1, a1 c1, ?_⟩
      have er : rdN x0 x1 x2 x3 = (5, 1) := (if_neg c0).trans (if_pos c1)
      rw [er]
      exact ⟨rfl, z1⟩
    obtain ⟨Z2, z2, e2⟩ := b1 c1
    rw [e2]
    obtain ⟨l2, a2, b2⟩ := st kk 2 (4995 + 1 + 1) _ Z2 (by decide) l1 z2
    rw [← h2] at l2 a2 b2
    by_cases c2 : nx (nx (nx 31 0 x0) 1 x1) 2 x2 = 0
    · refine Or.inl ⟨Z2, a2 c2, ?_⟩
      have er : rdN x0 x1 x2 x3 = (5, 2) := (if_neg c0).trans ((if_neg c1).trans (if_pos c2))
      rw [er]
      exact ⟨rfl, z2⟩
    obtain ⟨Z3, z3, e3⟩ := b2 c2
    rw [e3]
    obtain ⟨l3, a3, b3⟩ := st kk 3 (4995 + 1) _ Z3 (by decide) l2 z3
    rw [← h3] at l3 a3 b3
    by_cases c3 : nx (nx (nx (nx 31 0 x0) 1 x1) 2 x2) 3 x3 = 0
    · refine Or.inl ⟨Z3, a3 c3, ?_⟩
      have er : rdN x0 x1 x2 x3 = (5, 3) := (if_neg c0).trans ((if_neg c1).trans ((if_neg c2).trans (if_pos c3)))
      rw [er]
      exact ⟨rfl, z3⟩
    obtain ⟨Z4, z4, e4⟩ := b3 c3
    rw [e4, f_X6_readsWord_L5, if_pos (nI_le (by decide) (by decide))]
    exact Or.inr ⟨Z4, _, rfl, l3, (if_neg c0).trans ((if_neg c1).trans ((if_neg c2).trans (if_neg c3))), z4⟩
  unfold f_X6_readsWord
  rcases main (fun X_2014 v1_2013 => (if v1_2013 = (nI 1) then some ((nI 0), X_2014) else (if v1_2013 = (nI 2) then some ((nI 1), X_2014) else (if v1_2013 = (nI 4) then some ((nI 2), X_2014) else (if v1_2013 = (nI 8) then some ((nI 3), X_2014) else some ((nI 4), X_2014)))))) with ⟨Y', e1, e2, e3, e4, e5⟩ | ⟨Y', n, e1, l, e2, e3, e4, e5⟩
  · refine ⟨Y', ?_, e3, e4, e5, hlim⟩
    rw [e1, e2]
    rfl
  · rw [e2] at hlim ⊢
    refine ⟨Y', ?_, e3, e4, e5, hlim⟩
    rw [e1]
    by_cases n1 : n = 1
    · subst n1; rfl
    by_cases n2 : n = 2
    · subst n2; rfl
    by_cases n4 : n = 4
    · subst n4; rfl
    by_cases n8 : n = 8
    · subst n8; rfl
    have ne : ∀ m, m < 100 → n ≠ m → ¬ nI n = nI m := fun m hm q z => q ((nI_eq (by omega) (by omega)).mp z)
    rw [if_neg (ne 1 (by decide) n1), if_neg (ne 2 (by decide) n2), if_neg (ne 4 (by decide) n4), if_neg (ne 8 (by decide) n8)]
    show _ = some (enW (if n = 1 then 0 else if n = 2 then 1 else if n = 4 then 2 else if n = 8 then 3 else 4), Y')
    rw [if_neg n1, if_neg n2, if_neg n4, if_neg n8]
    rfl
/-! numbers -/
abbrev dgN (x : Nat) : Prop := 48 ≤ x ∧ x ≤ 57
theorem dig_cases (ht : ∀ j, j < k → t j < 256) (p : Nat) : (f_X6_in (chA t k p) (nI 48) (nI 57) = nI 0 ∧ ¬ dgN (chN t k p)) ∨ (f_X6_in (chA t k p) (nI 48) (nI 57) = nI 1 ∧ dgN (chN t k p) ∧ chA t k p = nI (chN t k p) ∧ p < k) := by
  rcases in_cases (chA t k p) (lo := 48) (hi := 57) (by decide) (by decide) with ⟨e, -, ne⟩ | ⟨e, -, n, n1, n2, en⟩
  · exact Or.inl ⟨e, fun d => ne ⟨chN t k p, d.1, d.2, (chA_eq ht (by omega)).mpr rfl⟩⟩
  · have := (chA_eq ht (show n < 256 by omega)).mp en
    subst this
    refine Or.inr ⟨e, ⟨n1, n2⟩, en, ?_⟩
    unfold chN at n2
    split at n2
    · assumption
    · omega
theorem dig_same (v : Int32) : f_X1_isDigit v = f_X6_in v (nI 48) (nI 57) := rfl
def nmN (x0 x1 x2 : Nat) : Nat × Nat :=
  if dgN x1 ∧ x0 - 48 ≠ 0 then if dgN x2 ∧ (x0 - 48) * 10 + x1 - 48 ≠ 0 then (((x0 - 48) * 10 + x1 - 48) * 10 + x2 - 48, 3) else ((x0 - 48) * 10 + x1 - 48, 2) else (x0 - 48, 1)
theorem n_readNumber (hL : sb_Lat t k f) (hk : k ≤ 60) (ht : ∀ j, j < k → t j < 256) {X : Nat → Nat → Int32} {p : Nat} (hp : X 149 1 = nI p) (hp2 : p ≤ 60) (hd : dgN (chN t k p)) :
    ∃ X', f_X1_readNumber k f X = some (nI (nmN (chN t k p) (chN t k (p + 1)) (chN t k (p + 2))).1, X') ∧ X' 149 1 = nI (p + (nmN (chN t k p) (chN t k (p + 1)) (chN t k (p + 2))).2) ∧ ∀ r, r ≠ 149 → X' r = X r := by
  have st : ∀ j fu v Z, 1 ≤ j → j < 3 → v < 1000 → (Z 149 1 = nI (p + j) ∧ ∀ r, r ≠ 149 → Z r = X r) →
      (¬ (dgN (chN t k (p + j)) ∧ v ≠ 0) → f_X1_readNumber_L4 k f (fu + 1) Z (nI v) (nI j) = some (nI v, Z)) ∧
      (dgN (chN t k (p + j)) ∧ v ≠ 0 → ∃ Z', (Z' 149 1 = nI (p + (j + 1)) ∧ ∀ r, r ≠ 149 → Z' r = X r) ∧ f_X1_readNumber_L4 k f (fu + 1) Z (nI v) (nI j) = f_X1_readNumber_L4 k f fu Z' (nI (v * 10 + chN t k (p + j) - 48)) (nI (j + 1))) := by
    intro j fu v Z j1 j3 hv hZ
    have es := n_signAt hL hk ht (p := p + j) (by omega)
    rcases dig_cases ht (p + j) with ⟨e, nd⟩ | ⟨e, d, ec, -⟩
    · refine ⟨fun _ => ?_, fun q => absurd q.1 nd⟩
      rw [f_X1_readNumber_L4, if_neg (nI_ge j3 (by omega)), hZ.1, es, dig_same, e, if_pos nI_0]
    · by_cases c : v = 0
      · refine ⟨fun _ => ?_, fun q => absurd c q.2⟩
        rw [f_X1_readNumber_L4, if_neg (nI_ge j3 (by omega)), hZ.1, es, dig_same, e, if_neg nI_10, if_neg (fun q => by rw [← nI_0, nI_leI (by omega) (by omega)] at q; omega), if_pos (by rw [c]; rfl)]
      · refine ⟨fun q => absurd ⟨d, c⟩ q, fun _ => ⟨zU Z 149 1 (nI (p + (j + 1))), ⟨zU_s _ _ _ _, fun r hr => by rw [zU_r _ _ _ _ hr]; exact hZ.2 r hr⟩, ?_⟩⟩
        rw [f_X1_readNumber_L4, if_neg (nI_ge j3 (by omega)), hZ.1, es, dig_same, e, if_neg nI_10, if_neg (fun q => by rw [← nI_0, nI_leI (by omega) (by omega)] at q; omega), if_neg (nI_ne0 (by omega) (by omega)), zlet_eq, nI_add, ec, pk_mul, nI_add, pk_sub (by have := d.1; omega), nI_1]
        rfl
  have fin : ∀ fu v Z, f_X1_readNumber_L4 k f (fu + 1) Z v (nI 3) = some (v, Z) := fun fu v Z => by rw [f_X1_readNumber_L4, if_pos (nI_le (by decide) (by decide))]
  have h0 : f_X1_readNumber k f X = f_X1_readNumber_L4 k f (4996 + 1 + 1 + 1) (zU X 149 1 (nI (p + 1))) (nI (chN t k p - 48)) (nI 1) := by
    have es := n_signAt hL hk ht (p := p) (by omega)
    rcases dig_cases ht p with ⟨-, nd⟩ | ⟨e, d, ec, -⟩
    · exact absurd hd nd
    show f_X1_readNumber_L4 k f (4996 + 1 + 1 + 1 + 1) X (nI 0) (nI 0) = _
    rw [f_X1_readNumber_L4, if_neg (by decide), hp, es, dig_same, e, if_neg nI_10, if_pos (by decide), zlet_eq, nI_add, ec, pk_mul, nI_add, pk_sub (by have := d.1; omega), nI_1, Nat.zero_mul, Nat.zero_add]
  rw [h0]
  have g := hd.2
  have z1 : (zU X 149 1 (nI (p + 1))) 149 1 = nI (p + 1) ∧ ∀ r, r ≠ 149 → zU X 149 1 (nI (p + 1)) r = X r := ⟨zU_s _ _ _ _, fun r hr => zU_r _ _ _ _ hr⟩
  obtain ⟨a1, b1⟩ := st 1 (4996 + 1 + 1) (chN t k p - 48) _ (by decide) (by decide) (by omega) z1
  by_cases c1 : dgN (chN t k (p + 1)) ∧ chN t k p - 48 ≠ 0
  · obtain ⟨Z2, z2, e2⟩ := b1 c1
    have g1 := c1.1.2
    obtain ⟨a2, b2⟩ := st 2 (4996 + 1) ((chN t k p - 48) * 10 + chN t k (p + 1) - 48) Z2 (by decide) (by decide) (by omega) z2
    rw [e2]
    by_cases c2 : dgN (chN t k (p + 2)) ∧ (chN t k p - 48) * 10 + chN t k (p + 1) - 48 ≠ 0
    · obtain ⟨Z3, z3, e3⟩ := b2 c2
      have en : nmN (chN t k p) (chN t k (p + 1)) (chN t k (p + 2)) = (((chN t k p - 48) * 10 + chN t k (p + 1) - 48) * 10 + chN t k (p + 2) - 48, 3) := (if_pos c1).trans (if_pos c2)
      rw [e3, fin, en]
      exact ⟨Z3, rfl, z3⟩
    · have en : nmN (chN t k p) (chN t k (p + 1)) (chN t k (p + 2)) = ((chN t k p - 48) * 10 + chN t k (p + 1) - 48, 2) := (if_pos c1).trans (if_neg c2)
      rw [a2 c2, en]
      exact ⟨Z2, rfl, z2⟩
  · have en : nmN (chN t k p) (chN t k (p + 1)) (chN t k (p + 2)) = (chN t k p - 48, 1) := if_neg c1
    rw [a1 c1, en]
    exact ⟨_, rfl, z1⟩
theorem m_readNumber {Y : Nat → Nat → Int32} (hT : zTIn t k Y) {p : Nat} (hp : Y 0 24 = nI p) (hp2 : p ≤ 60) (h25 : Y 0 25 = nI 0) :
    (¬ dgN (chN t k p) → f_X6_readsNumber Y = some (nI 0, zU Y 0 25 (nI 1))) ∧
    (dgN (chN t k p) → ∃ Y', f_X6_readsNumber Y = some (nI (nmN (chN t k p) (chN t k (p + 1)) (chN t k (p + 2))).1, Y') ∧ Y' 0 24 = nI (p + (nmN (chN t k p) (chN t k (p + 1)) (chN t k (p + 2))).2) ∧ (∀ j, j ≠ 24 → Y' 0 j = Y 0 j) ∧ (∀ r, r ≠ 0 → Y' r = Y r) ∧ p + (nmN (chN t k p) (chN t k (p + 1)) (chN t k (p + 2))).2 ≤ k ∧ 1 ≤ (nmN (chN t k p) (chN t k (p + 1)) (chN t k (p + 2))).2) := by
  have ht : ∀ j, j < k → t j < 256 := fun j hj => (hT.2.2 j hj).1
  have dg : ∀ Z q, zTIn t k Z → Z 0 24 = nI q → q < 1000 → f_X6_isDigit Z = some (f_X6_in (chA t k q) (nI 48) (nI 57)) := fun Z q hZ hq hl => by
    unfold f_X6_isDigit
    rw [m_here hZ hq hl, Option.bind_some]
  have o1 : nI 0 ||| nI 1 = nI 1 := by decide
  have o0 : nI 0 ||| nI 0 = nI 0 := by decide
  have b1 : ¬ ¬ (nI 1 = 0 ∨ nI 1 = 1) := by decide
  have b0 : ¬ ¬ (nI 0 = 0 ∨ nI 0 = 1) := by decide
  constructor
  · intro nd
    rcases dig_cases ht p with ⟨e, -⟩ | ⟨-, d, -⟩
    · unfold f_X6_readsNumber
      rw [dg Y p hT hp (by omega), Option.bind_some, e, if_pos nI_0, h25, o1, if_neg b1, zlet_eq]
      show f_X6_readsNumber_L25 (4999 + 1) _ _ _ = _
      rw [f_X6_readsNumber_L25, zU_s, if_neg nI_10]
    · exact absurd d nd
  intro hd
  have st : ∀ j fu v Z, j < 3 → v < 1000 → (Z 0 24 = nI (p + j) ∧ (∀ j, j ≠ 24 → Z 0 j = Y 0 j) ∧ ∀ r, r ≠ 0 → Z r = Y r) →
      (¬ (dgN (chN t k (p + j)) ∧ (j = 0 ∨ v ≠ 0)) → f_X6_readsNumber_L25 (fu + 1) Z (nI v) (nI j) = some (nI v, Z)) ∧
      (dgN (chN t k (p + j)) ∧ (j = 0 ∨ v ≠ 0) → p + j < k ∧ ∃ Z', (Z' 0 24 = nI (p + (j + 1)) ∧ (∀ j, j ≠ 24 → Z' 0 j = Y 0 j) ∧ ∀ r, r ≠ 0 → Z' r = Y r) ∧ f_X6_readsNumber_L25 (fu + 1) Z (nI v) (nI j) = f_X6_readsNumber_L25 fu Z' (nI (v * 10 + chN t k (p + j) - 48)) (nI (j + 1))) := by
    intro j fu v Z j3 hv hZ
    have hT' : zTIn t k Z := hT.cg (hZ.2.1 11 (by decide)) (hZ.2.2 5 (by decide))
    have h25' : Z 0 25 = nI 0 := (hZ.2.1 25 (by decide)).trans h25
    have hdg := dg Z (p + j) hT' hZ.1 (by omega)
    rcases dig_cases ht (p + j) with ⟨e, nd⟩ | ⟨e, d, ec, lt⟩
    · refine ⟨fun _ => ?_, fun q => absurd q.1 nd⟩
      rw [f_X6_readsNumber_L25, h25', if_pos nI_0, hdg, Option.bind_some, e, if_pos nI_0]
    · have hh := m_here hT' hZ.1 (by omega)
      have go : (p + j < k ∧ ∃ Z', (Z' 0 24 = nI (p + (j + 1)) ∧ (∀ j, j ≠ 24 → Z' 0 j = Y 0 j) ∧ ∀ r, r ≠ 0 → Z' r = Y r) ∧ f_X6_readsNumber_L25 fu (zU Z 0 24 (Z 0 24 + nI 1)) ((nI 10 * nI v + chA t k (p + j)) - nI 48) (nI j + 1) = f_X6_readsNumber_L25 fu Z' (nI (v * 10 + chN t k (p + j) - 48)) (nI (j + 1))) := by
        refine ⟨lt, zU Z 0 24 (nI (p + (j + 1))), ⟨zU_s _ _ _ _, fun i hi => by rw [zU_k _ _ _ _ hi]; exact hZ.2.1 i hi, fun r hr => by rw [zU_r _ _ _ _ hr]; exact hZ.2.2 r hr⟩, ?_⟩
        rw [ec, pk_mul, nI_add, pk_sub (by have := d.1; omega), hZ.1, nI_add, nI_1, Nat.mul_comm 10 v]
        rfl
      by_cases c0 : j = 0
      · refine ⟨fun q => absurd ⟨d, Or.inl c0⟩ q, fun _ => ?_⟩
        rw [f_X6_readsNumber_L25, h25', if_pos nI_0, hdg, Option.bind_some, e, if_neg nI_10, if_neg (nI_ge j3 (by omega)), if_pos (by rw [c0]; rfl), hh, Option.bind_some, zlet_eq]
        exact go
      · by_cases c : v = 0
        · refine ⟨fun _ => ?_, fun q => absurd c (q.2.resolve_left c0)⟩
          rw [f_X6_readsNumber_L25, h25', if_pos nI_0, hdg, Option.bind_some, e, if_neg nI_10, if_neg (nI_ge j3 (by omega)), if_neg (nI_ne0 (by omega) (by omega)), if_pos (by rw [c]; decide)]
        · refine ⟨fun q => absurd ⟨d, Or.inr c⟩ q, fun _ => ?_⟩
          rw [f_X6_readsNumber_L25, h25', if_pos nI_0, hdg, Option.bind_some, e, if_neg nI_10, if_neg (nI_ge j3 (by omega)), if_neg (nI_ne0 (by omega) (by omega)), if_neg (fun q => by rw [← nI_0, nI_leI (by omega) (by omega)] at q; omega), hh, Option.bind_some, zlet_eq]
          exact go
  have fin : ∀ fu v Z, (Z 0 24 = nI (p + 3) ∧ (∀ j, j ≠ 24 → Z 0 j = Y 0 j) ∧ ∀ r, r ≠ 0 → Z r = Y r) → f_X6_readsNumber_L25 (fu + 1) Z v (nI 3) = some (v, Z) := fun fu v Z hZ => by
    have hT' : zTIn t k Z := hT.cg (hZ.2.1 11 (by decide)) (hZ.2.2 5 (by decide))
    rw [f_X6_readsNumber_L25, hZ.2.1 25 (by decide), h25, if_pos nI_0, dg Z (p + 3) hT' hZ.1 (by omega), Option.bind_some, if_pos (nI_le (by decide) (by decide))]
    split <;> rfl
  obtain ⟨-, b0'⟩ := st 0 (4996 + 1 + 1 + 1) 0 (zU Y 0 25 (nI 0)) (by decide) (by decide) ⟨by rw [zU_k _ _ _ _ (by decide)]; exact hp, fun j _ => by
      by_cases c : j = 25
      · subst c; rw [zU_s, h25]
      · exact zU_k _ _ _ _ c, fun r hr => zU_r _ _ _ _ hr⟩
  obtain ⟨lt0, Z1, z1, e1⟩ := b0' ⟨hd, Or.inl rfl⟩
  have h0 : f_X6_readsNumber Y = f_X6_readsNumber_L25 (4996 + 1 + 1 + 1) Z1 (nI (chN t k p - 48)) (nI 1) := by
    rcases dig_cases ht p with ⟨-, nd⟩ | ⟨e, d, ec, -⟩
    · exact absurd hd nd
    unfold f_X6_readsNumber
    rw [dg Y p hT hp (by omega), Option.bind_some, e, if_neg nI_10, h25, o0, if_neg b0, zlet_eq]
    rw [Nat.zero_mul, Nat.zero_add, Nat.add_zero] at e1
    exact e1
  rw [h0]
  rw [Nat.add_zero] at lt0
  have g := hd.2
  obtain ⟨a1, b1⟩ := st 1 (4996 + 1 + 1) (chN t k p - 48) Z1 (by decide) (by omega) z1
  by_cases c1 : dgN (chN t k (p + 1)) ∧ chN t k p - 48 ≠ 0
  · obtain ⟨lt1, Z2, z2, e2⟩ := b1 ⟨c1.1, Or.inr c1.2⟩
    have g1 := c1.1.2
    obtain ⟨a2, b2⟩ := st 2 (4996 + 1) ((chN t k p - 48) * 10 + chN t k (p + 1) - 48) Z2 (by decide) (by omega) z2
    rw [e2]
    by_cases c2 : dgN (chN t k (p + 2)) ∧ (chN t k p - 48) * 10 + chN t k (p + 1) - 48 ≠ 0
    · obtain ⟨lt2, Z3, z3, e3⟩ := b2 ⟨c2.1, Or.inr c2.2⟩
      have en : nmN (chN t k p) (chN t k (p + 1)) (chN t k (p + 2)) = (((chN t k p - 48) * 10 + chN t k (p + 1) - 48) * 10 + chN t k (p + 2) - 48, 3) := (if_pos c1).trans (if_pos c2)
      rw [e3, fin _ _ _ z3, en]
      exact ⟨Z3, rfl, z3.1, z3.2.1, z3.2.2, by show p + 3 ≤ k; omega, by show 1 ≤ 3; decide⟩
    · have en : nmN (chN t k p) (chN t k (p + 1)) (chN t k (p + 2)) = ((chN t k p - 48) * 10 + chN t k (p + 1) - 48, 2) := (if_pos c1).trans (if_neg c2)
      rw [a2 (fun q => c2 ⟨q.1, q.2.resolve_left (by decide)⟩), en]
      exact ⟨Z2, rfl, z2.1, z2.2.1, z2.2.2, by show p + 2 ≤ k; omega, by show 1 ≤ 2; decide⟩
  · have en : nmN (chN t k p) (chN t k (p + 1)) (chN t k (p + 2)) = (chN t k p - 48, 1) := if_neg c1
    rw [a1 (fun q => c1 ⟨q.1, q.2.resolve_left (by decide)⟩), en]
    exact ⟨Z1, rfl, z1.1, z1.2.1, z1.2.2, by show p + 1 ≤ k; omega, Nat.le_refl 1⟩
end RD2
