/-! THE REFERENCE'S PAPER: what its writing methods do -/
/-- t's first k letters stand on the paper -/
def wr (t : Nat → Nat) (k : Nat) (Y : Nat → Nat → Int32) : Prop := Y 0 14 = nI k ∧ ∀ j, j < k → t j < 256 ∧ Y 6 j = nI (t j)
def FW (Y Y' : Nat → Nat → Int32) : Prop := (∀ r, r ≠ 0 → r ≠ 6 → Y' r = Y r) ∧ ∀ j, j ≠ 14 → Y' 0 j = Y 0 j
theorem FW.rf (Y : Nat → Nat → Int32) : FW Y Y := ⟨fun _ _ _ => rfl, fun _ _ => rfl⟩
theorem FW.tr {Y1 Y2 Y3 : Nat → Nat → Int32} (h : FW Y1 Y2) (h2 : FW Y2 Y3) : FW Y1 Y3 := ⟨fun r a b => (h2.1 r a b).trans (h.1 r a b), fun j a => (h2.2 j a).trans (h.2 j a)⟩
section PAP
variable {Y : Nat → Nat → Int32} {t : Nat → Nat} {k : Nat}
theorem wr.cg {t2 : Nat → Nat} (h : wr t k Y) (e : ∀ j, j < k → t2 j = t j) : wr t2 k Y := ⟨h.1, fun j hj => by rw [e j hj]; exact h.2 j hj⟩
theorem w_letter (h : wr t k Y) {c : Nat} (hc : c < 256) (hk : k < 1200) : ∃ Y', f_X6_writesLetter Y (nI c) = some Y' ∧ wr (sb_cat t k (fun _ => c)) (k + 1) Y' ∧ FW Y Y' := by
  unfold f_X6_writesLetter
  simp only [zlet_eq]
  have hv : vp_nar .char (nI c) = nI c := (sb_byte c hc).2.1
  rw [h.1, if_neg (nI_in hk (by decide)), nI_clamp (by omega), hv]
  have e5 : zU Y 6 k (nI c) 0 14 = nI k := by rw [zU_r _ _ _ _ (by decide)]; exact h.1
  rw [e5, nI_add]
  refine ⟨_, rfl, ⟨zU_s _ _ _ _, fun j hj => ?_⟩, ⟨fun r q1 q2 => ?_, fun j q => ?_⟩⟩
  · rw [zU_r _ _ _ _ (by decide)]
    by_cases e : j = k
    · subst e
      rw [zU_s, show sb_cat t j (fun _ => c) j = c from if_neg (Nat.lt_irrefl _)]
      exact ⟨hc, rfl⟩
    · rw [zU_k _ _ _ _ e, sb_cat_lo (by omega)]
      exact h.2 j (by omega)
  · rw [zU_r _ _ _ _ q1, zU_r _ _ _ _ q2]
  · rw [zU_k _ _ _ _ q, zU_r _ _ _ _ (by decide)]
theorem cat_step {s : Nat → Nat} {i : Nat} (j : Nat) (hj : j < k + i + 1) : sb_cat t k s j = sb_cat (sb_cat t k s) (k + i) (fun _ => s i) j := by
  by_cases c : j < k + i
  · rw [sb_cat_lo c]
  · have e : j = k + i := by omega
    subst e
    rw [sb_cat_hi, show sb_cat (sb_cat t k s) (k + i) (fun _ => s i) (k + i) = s i from if_neg (Nat.lt_irrefl _)]
theorem cat_0 {s : Nat → Nat} (j : Nat) (hj : j < k) : sb_cat t k s j = t j := sb_cat_lo hj
theorem w_word_L {ls : List Int32} (hls : ∀ j, j < ls.length → zChr ls (nI j) = nI (zu ls j) ∧ zu ls j < 256) (hl : ls.length < 100) (hk : k + ls.length ≤ 1200) : ∀ (n i : Nat) (Y : Nat → Nat → Int32) (fu : Nat), i + n = ls.length → n < fu → wr (sb_cat t k (zu ls)) (k + i) Y → ∃ Y', f_X6_writesWord_L2 ls fu Y (nI i) = some Y' ∧ wr (sb_cat t k (zu ls)) (k + ls.length) Y' ∧ FW Y Y' := by
  intro n
  induction n with
  | zero =>
    intro i Y fu hi hf hw
    obtain ⟨f, rfl, -⟩ := fu_s hf
    rw [f_X6_writesWord_L2, if_pos (nI_le (by omega) (by omega))]
    have e : i = ls.length := by omega
    subst e
    exact ⟨Y, rfl, hw, FW.rf Y⟩
  | succ n ih =>
    intro i Y fu hi hf hw
    obtain ⟨f, rfl, hf2⟩ := fu_s hf
    obtain ⟨e1, e2⟩ := hls i (by omega)
    obtain ⟨Y1, q1, q2, q3⟩ := w_letter hw e2 (by omega)
    rw [f_X6_writesWord_L2, if_neg (nI_ge (by omega) (by omega)), if_neg (nI_pos (by omega)), e1, q1, Option.bind_some, nI_1]
    obtain ⟨Y2, r1, r2, r3⟩ := ih (i + 1) Y1 f (by omega) (hf2 n rfl) (q2.cg (fun j hj => cat_step j (by omega)))
    exact ⟨Y2, r1, r2, q3.tr r3⟩
theorem w_word {ls : List Int32} (h : wr t k Y) (hls : ∀ j, j < ls.length → zChr ls (nI j) = nI (zu ls j) ∧ zu ls j < 256) (hl : ls.length < 100) (hk : k + ls.length ≤ 1200) : ∃ Y', f_X6_writesWord ls Y = some Y' ∧ wr (sb_cat t k (zu ls)) (k + ls.length) Y' ∧ FW Y Y' :=
  w_word_L hls hl hk ls.length 0 Y zFuel (Nat.zero_add _) (by show ls.length < 5000; omega) (h.cg (fun j hj => cat_0 j hj))
theorem zch_351 : ∀ j, j < zT351.length → zChr zT351 (nI j) = nI (zu zT351 j) ∧ zu zT351 j < 256 := by decide
theorem zch_357 : ∀ j, j < zT357.length → zChr zT357 (nI j) = nI (zu zT357 j) ∧ zu zT357 j < 256 := by decide
theorem zch_359 : ∀ j, j < zT359.length → zChr zT359 (nI j) = nI (zu zT359 j) ∧ zu zT359 j < 256 := by decide
theorem zch_449 : ∀ j, j < zT449.length → zChr zT449 (nI j) = nI (zu zT449 j) ∧ zu zT449 j < 256 := by decide
theorem w_num_L {v : Nat} (hv : v < 10000) (hk : k + sb_dg v ≤ 1200) : ∀ (e i : Nat) (Y : Nat → Nat → Int32) (fu : Nat), i + e + 1 = sb_dg v → e ≤ 3 → e + 1 < fu → wr (sb_cat t k (sb_dec v)) (k + i) Y → ∃ Y', f_X6_writesNumber_L20 (nI v) fu Y (nI (10 ^ e)) = some Y' ∧ wr (sb_cat t k (sb_dec v)) (k + sb_dg v) Y' ∧ FW Y Y' := by
  have step : ∀ (e i : Nat) (Y : Nat → Nat → Int32) (f : Nat), i + e + 1 = sb_dg v → e ≤ 3 → wr (sb_cat t k (sb_dec v)) (k + i) Y → ∃ Y1, f_X6_writesNumber_L20 (nI v) (f + 1) Y (nI (10 ^ e)) = f_X6_writesNumber_L20 (nI v) f Y1 (nI (10 ^ e / 10)) ∧ wr (sb_cat t k (sb_dec v)) (k + (i + 1)) Y1 ∧ FW Y Y1 := by
    intro e i Y f hi he hw
    have hp : 0 < 10 ^ e := Nat.pow_pos (by decide)
    have hp2 : 10 ^ e ≤ 1000 := Nat.le_trans (Nat.pow_le_pow_right (by decide) he) (by decide)
    have hd : sb_dec v i = 48 + v / 10 ^ e % 10 := by
      unfold sb_dec
      rw [show sb_dg v - 1 - i = e by omega]
    have hc : sb_dec v i < 256 := by rw [hd]; omega
    obtain ⟨Y1, q1, q2, q3⟩ := w_letter hw hc (by omega)
    refine ⟨Y1, ?_, q2.cg (fun j hj => cat_step j (by omega)), q3⟩
    rw [f_X6_writesNumber_L20, if_neg (fun q => by rw [show (0 : Int32) = nI 0 from rfl, nI_leI (by omega) (by decide)] at q; omega), if_neg (fun q => by have := (nI_eq (by omega) (by decide)).mp (show nI (10 ^ e) = nI 0 from q); omega), pk_div (by omega) hp (by omega)]
    have hq : v / 10 ^ e < 2 ^ 31 := Nat.lt_of_le_of_lt (Nat.div_le_self _ _) (by omega)
    rw [pk_rem hq (by decide) (by decide), nI_add, ← hd, (sb_byte _ hc).2.1, q1, Option.bind_some, pk_div (by omega) (by decide) (by decide)]
  intro e
  induction e with
  | zero =>
    intro i Y fu hi he hf hw
    obtain ⟨f, rfl, hf2⟩ := fu_s hf
    obtain ⟨Y1, q1, q2, q3⟩ := step 0 i Y f hi he hw
    obtain ⟨f1, rfl, -⟩ := fu_s (m := 0) (fu := f) (hf2 0 rfl)
    refine ⟨Y1, ?_, by rw [show sb_dg v = i + 1 by omega]; exact q2, q3⟩
    rw [q1, f_X6_writesNumber_L20, if_pos (by decide)]
  | succ e ih =>
    intro i Y fu hi he hf hw
    obtain ⟨f, rfl, hf2⟩ := fu_s hf
    obtain ⟨Y1, q1, q2, q3⟩ := step (e + 1) i Y f hi he hw
    obtain ⟨Y2, r1, r2, r3⟩ := ih (i + 1) Y1 f (by omega) (by omega) (hf2 (e + 1) rfl) q2
    refine ⟨Y2, ?_, r2, q3.tr r3⟩
    rw [q1, show 10 ^ (e + 1) / 10 = 10 ^ e by rw [Nat.pow_succ]; exact Nat.mul_div_cancel _ (by decide), r1]
theorem w_num_U (K : Int32 → Option (Nat → Nat → Int32)) (X : Nat → Nat → Int32) {v : Nat} (hv : v < 10000) : f_X6_writesNumber_L2 K X (nI v) zFuel (nI 1) = K (nI (10 ^ (sb_dg v - 1))) := by
  have go : ∀ (f u : Nat), u ≤ 1000 → f_X6_writesNumber_L2 K X (nI v) (f + 1) (nI u) = if v < u * 10 then K (nI u) else f_X6_writesNumber_L2 K X (nI v) f (nI (u * 10)) := by
    intro f u hu
    rw [f_X6_writesNumber_L2, pk_mul]
    by_cases c : v < u * 10
    · rw [if_pos c, if_pos ((nI_ltI (by omega) (by omega)).mpr c)]
    · rw [if_neg c, if_neg (fun q => c ((nI_ltI (by omega) (by omega)).mp q))]
  show f_X6_writesNumber_L2 K X (nI v) (4999 + 1) (nI 1) = _
  by_cases c1 : v < 10
  · rw [go _ _ (by decide), if_pos (by omega), zdg1 c1]
  · by_cases c2 : v < 100
    · rw [go _ _ (by decide), if_neg (by omega), show (4999 : Nat) = 4998 + 1 from rfl, go _ _ (by decide), if_pos (by omega), zdg2 c1 c2]
    · by_cases c3 : v < 1000
      · rw [go _ _ (by decide), if_neg (by omega), show (4999 : Nat) = 4998 + 1 from rfl, go _ _ (by decide), if_neg (by omega), show (4998 : Nat) = 4997 + 1 from rfl, go _ _ (by decide), if_pos (by omega), zdg3 c1 c2 c3]
      · rw [go _ _ (by decide), if_neg (by omega), show (4999 : Nat) = 4998 + 1 from rfl, go _ _ (by decide), if_neg (by omega), show (4998 : Nat) = 4997 + 1 from rfl, go _ _ (by decide), if_neg (by omega), show (4997 : Nat) = 4996 + 1 from rfl, go _ _ (by decide), if_pos (by omega), zdg4 c1 c2 c3 hv]
theorem w_num (h : wr t k Y) {v : Nat} (hv : v < 10000) (hk : k + sb_dg v ≤ 1200) : ∃ Y', f_X6_writesNumber Y (nI v) = some Y' ∧ wr (sb_cat t k (sb_dec v)) (k + sb_dg v) Y' ∧ FW Y Y' := by
  unfold f_X6_writesNumber
  rw [w_num_U _ _ hv]
  have hd : 1 ≤ sb_dg v ∧ sb_dg v ≤ 4 := by
    refine ⟨(sb_dg_in v).1, ?_⟩
    unfold sb_dg
    split
    · omega
    · split
      · omega
      · split
        · omega
        · first | omega | (rw [if_pos hv]; omega)
  exact w_num_L hv hk (sb_dg v - 1) 0 Y zFuel (by omega) (by omega) (by show _ < 5000; omega) (h.cg (fun j hj => cat_0 j hj))
end PAP
