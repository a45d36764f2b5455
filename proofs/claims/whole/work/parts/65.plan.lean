section PN
variable {X Y : Nat → Nat → Int32} {a : Nat → Nat}
/-- a show is planned -/
noncomputable def pln (a : Nat → Nat) (x f d st : Nat) : Nat → Nat := up (up (up (up (up (up (up (up (up (up a (158 + 9 * a 4 + 0) x) (158 + 9 * a 4 + 1) f) (158 + 9 * a 4 + 2) d) (158 + 9 * a 4 + 3) st) (158 + 9 * a 4 + 4) (bestR a f d)) (158 + 9 * a 4 + 5) (lenR a (nI (bestR a f d)))) (158 + 9 * a 4 + 6) (a 13)) (158 + 9 * a 4 + 7) 0) (158 + 9 * a 4 + 8) 0) 4 (a 4 + 1)
theorem pln_4 (a : Nat → Nat) (x f d st : Nat) : pln a x f d st 4 = a 4 + 1 := up_s _ _ _
theorem pln_o (a : Nat → Nat) (x f d st : Nat) {j : Nat} (h4 : j ≠ 4) (h : j < 158 + 9 * a 4 ∨ 158 + 9 * a 4 + 9 ≤ j) : pln a x f d st j = a j := by
  unfold pln
  rw [up_n _ (by omega), up_n _ (by omega), up_n _ (by omega), up_n _ (by omega), up_n _ (by omega), up_n _ (by omega), up_n _ (by omega), up_n _ (by omega), up_n _ (by omega), up_n _ (by omega)]
theorem pln_s0 (a : Nat → Nat) (x f d st : Nat) : shw (pln a x f d st) (a 4) 0 = x := by
  unfold shw pln
  rw [up_n _ (by omega), up_n _ (by omega), up_n _ (by omega), up_n _ (by omega), up_n _ (by omega), up_n _ (by omega), up_n _ (by omega), up_n _ (by omega), up_n _ (by omega), up_s]
theorem pln_s1 (a : Nat → Nat) (x f d st : Nat) : shw (pln a x f d st) (a 4) 1 = f := by
  unfold shw pln
  rw [up_n _ (by omega), up_n _ (by omega), up_n _ (by omega), up_n _ (by omega), up_n _ (by omega), up_n _ (by omega), up_n _ (by omega), up_n _ (by omega), up_s]
theorem pln_s2 (a : Nat → Nat) (x f d st : Nat) : shw (pln a x f d st) (a 4) 2 = d := by
  unfold shw pln
  rw [up_n _ (by omega), up_n _ (by omega), up_n _ (by omega), up_n _ (by omega), up_n _ (by omega), up_n _ (by omega), up_n _ (by omega), up_s]
theorem pln_s3 (a : Nat → Nat) (x f d st : Nat) : shw (pln a x f d st) (a 4) 3 = st := by
  unfold shw pln
  rw [up_n _ (by omega), up_n _ (by omega), up_n _ (by omega), up_n _ (by omega), up_n _ (by omega), up_n _ (by omega), up_s]
theorem pln_s4 (a : Nat → Nat) (x f d st : Nat) : shw (pln a x f d st) (a 4) 4 = (bestR a f d) := by
  unfold shw pln
  rw [up_n _ (by omega), up_n _ (by omega), up_n _ (by omega), up_n _ (by omega), up_n _ (by omega), up_s]
theorem pln_s5 (a : Nat → Nat) (x f d st : Nat) : shw (pln a x f d st) (a 4) 5 = (lenR a (nI (bestR a f d))) := by
  unfold shw pln
  rw [up_n _ (by omega), up_n _ (by omega), up_n _ (by omega), up_n _ (by omega), up_s]
theorem pln_s6 (a : Nat → Nat) (x f d st : Nat) : shw (pln a x f d st) (a 4) 6 = (a 13) := by
  unfold shw pln
  rw [up_n _ (by omega), up_n _ (by omega), up_n _ (by omega), up_s]
theorem pln_s7 (a : Nat → Nat) (x f d st : Nat) : shw (pln a x f d st) (a 4) 7 = 0 := by
  unfold shw pln
  rw [up_n _ (by omega), up_n _ (by omega), up_s]
theorem pln_s8 (a : Nat → Nat) (x f d st : Nat) : shw (pln a x f d st) (a 4) 8 = 0 := by
  unfold shw pln
  rw [up_n _ (by omega), up_s]
theorem othL_in {P : Nat → Bool} : ∀ {n s x : Nat}, P x = true → s ≤ x → x < s + n → x ∈ othL P s n
  | 0, s, x, _, h1, h2 => by omega
  | n + 1, s, x, hP, h1, h2 => by
    rw [othL]
    by_cases c : x = s
    · subst c; rw [if_pos hP]; exact List.mem_cons_self
    · have := othL_in (n := n) (s := s + 1) hP (by omega) (by omega)
      split
      · exact List.mem_cons_of_mem _ this
      · exact this
theorem obr_9 {r : Nat} {o : Option Nat} {k : Nat × Int32} (hr : r ≤ 9) (hk : k.1 ≤ 9) : (obr r o k).1 ≤ 9 := by
  cases o with
  | none => exact hk
  | some z => exact hr
theorem brk_9 (a : Nat → Nat) (w : Int32) (f d x st en : Nat) : (brk a w f d x st en).1 ≤ 9 := by
  have hL : (brkL a (othL (isO a w d) 0 (a 4)) f x st en).1 ≤ 9 := by
    unfold brkL
    exact obr_9 (r := 6) (by decide) (obr_9 (r := 7) (by decide) (obr_9 (r := 8) (by decide) (obr_9 (r := 9) (k := (0, -1)) (by decide) (Nat.zero_le 9))))
  unfold brk
  split
  · exact Nat.le_of_ble_eq_true rfl
  · split
    · exact Nat.le_of_ble_eq_true rfl
    · split
      · exact Nat.le_of_ble_eq_true rfl
      · split
        · exact Nat.le_of_ble_eq_true rfl
        · split
          · exact Nat.le_of_ble_eq_true rfl
          · exact hL
theorem brk_zero {w : Int32} {f d x st en : Nat} (h : (brk a w f d x st en).1 = 0) : flm a f 4 ≤ d ∧ en ≤ 960 ∧ ∀ s, s < a 4 → isO a w d s = true → meet6 a x st (en + hal a x 1) s = false := by
  unfold brk at h
  by_cases c1 : d < a 0
  · rw [if_pos c1] at h; cases h
  rw [if_neg c1] at h
  by_cases c2 : hal a x 3 ≠ 0 ∧ hal a x 3 ≤ d + 1
  · rw [if_pos c2] at h; cases h
  rw [if_neg c2] at h
  by_cases c3 : d < flm a f 4
  · rw [if_pos c3] at h; cases h
  rw [if_neg c3] at h
  by_cases c4 : a (14 + st / 60) < flm a f 1
  · rw [if_pos c4] at h; cases h
  rw [if_neg c4] at h
  by_cases c5 : 960 < en
  · rw [if_pos c5] at h; cases h
  rw [if_neg c5] at h
  refine ⟨by omega, by omega, fun s hs hO => ?_⟩
  unfold brkL at h
  cases e : (othL (isO a w d) 0 (a 4)).find? (meet6 a x st (en + hal a x 1)) with
  | some z => rw [e] at h; cases h
  | none =>
    have := List.find?_eq_none.mp e s (othL_in hO (Nat.zero_le _) (by omega))
    exact eq_false_of_ne_true this
/-- a place that breaks no rule starts when no other show there does -/
theorem brk_ds {w : Int32} {f d x st en s : Nat} (h : (brk a w f d x st en).1 = 0) (hse : st < en) (hG : Gd a) (hs : s < a 4) (hw : ¬ nI s = w) (h8 : shw a s 8 = 0) (h2 : shw a s 2 = d) (h0 : shw a s 0 = x) : shw a s 3 ≠ st := by
  intro q
  have hm := (brk_zero h).2.2 s hs (by simp [isO, hw, h8, h2])
  have hF := hG.2.2.1 _ (hG.s1 hs)
  unfold meet6 at hm
  rw [h0, q] at hm
  have e1 : st < endA a s + clnA a s := by unfold endA mins; omega
  have e2 : st < en + hal a x 1 := by omega
  simp [e1, e2] at hm
theorem n_addShow (hB : zRB X 1 a) (hG : Gd2 a) {x f d st : Nat} (hx : x < a 1) (hf : f < a 2) (hd : d < 60) (hst : st < 960) (h30 : a 4 < 30) (hbr : (brk a (-1) f d x st (st + newM a f d)).1 = 0) :
    ∃ X', f_X3_addShow X (nI x) (nI f) (nI d) (nI st) = some (nI (a 4), X') ∧ zRB X' 1 (pln a x f d st) ∧ Gd2 (pln a x f d st) ∧ ∀ r, r ≠ 8 → r ≠ 9 → X' r = X r := by
  obtain ⟨bH, bF, bT, bS, bL, bC, b1, b0⟩ := zRB_iff.mp hB
  have c1 := hG.1.c1
  have c2 := hG.1.c2
  have hFF := hG.1.2.2.1 f hf
  have hm := newM_b hG.1 d hf
  unfold f_X3_addShow
  rw [n_bestReel hB hG.1 hf (by omega), Option.bind_some, n_reelMinutes hB hG.1, Option.bind_some, n_addRow (X := X) (r := 8) (n := 360) bS.1.1 bS.1.2.1 bS.1.2.2 h30 (by decide) (by omega) (by decide), Option.bind_some]
  generalize eZ : zU (zR X (8 + 1) (zClr (X (8 + 1)) (a 4 * 12) (a 4 * 12 + 12))) 8 3 (nI (a 4 + 1)) = Z
  have z1 : Z 8 1 = nI 12 := by rw [← eZ, zU_k _ _ _ _ (by decide), zR_n _ _ (by decide)]; exact bS.1.1
  have z2 : Z 8 2 = nI 30 := by rw [← eZ, zU_k _ _ _ _ (by decide), zR_n _ _ (by decide)]; exact bS.1.2.1
  have z3 : Z 8 3 = nI (a 4 + 1) := by rw [← eZ, zU_s]
  have zr : ∀ r, r ≠ 8 → r ≠ 9 → Z r = X r := fun r q1 q2 => by rw [← eZ, zU_r _ _ _ _ q1, zR_n _ _ q2]
  have zc : ∀ j, j < a 4 * 12 → Z 9 j = X 9 j := fun j hj => by
    rw [← eZ, zU_r _ _ _ _ (by decide), zR_s]
    exact if_neg (by omega)
  have zn : ∀ j, j < 12 → Z 9 (a 4 * 12 + j) = nI 0 := fun j hj => by
    rw [← eZ, zU_r _ _ _ _ (by decide), zR_s]
    exact if_pos (by omega)
  have pu : ∀ (W : Nat → Nat → Int32) (i : Nat) (v : Int32), W 8 1 = nI 12 → i < 12 → f_X4_put W 8 360 (nI (a 4)) (nI i) v = zU W 9 (a 4 * 12 + i) v := fun W i v hW hi => n_put hW (by decide) (by omega) v
  have gf : ∀ (W : Nat → Nat → Int32), (∀ r, r ≠ 8 → r ≠ 9 → W r = X r) → f_X4_get W 4 96 (nI f) (nI 0) = nI (flm a f 0) := fun W hW => by
    rw [c_get_in (c := 12) (by rw [hW 4 (by decide) (by decide)]; exact bF.1.1) (by decide) (show f * 12 + 0 < 96 by omega), hW 5 (by decide) (by decide)]
    exact (bF.2 f hf).1 0 (by decide)
  have gp : ∀ (W : Nat → Nat → Int32), (∀ r, r ≠ 8 → r ≠ 9 → W r = X r) → f_X4_get W 12 26 (nI 0) (nI 5) = nI (a 13) := fun W hW => by
    rw [c_get_in (c := 26) (by rw [hW 12 (by decide) (by decide)]; exact bC.1) (by decide) (show 0 * 26 + 5 < 26 by omega), hW 13 (by decide) (by decide)]
    exact bC.2.1 5 (by decide)
  have e4 : nI st + nI (lenR a (nI (bestR a f d))) + nI (flm a f 0) = nI (st + newM a f d) := by
    rw [nI_add, nI_add]; congr 1; unfold newM; omega
  simp only [zlet_eq]
  rw [pu _ 0 _ z1 (by decide), pu _ 1 _ (by rw [zU_r _ _ _ _ (by decide)]; exact z1) (by decide), pu _ 2 _ (by rw [zU_r _ _ _ _ (by decide), zU_r _ _ _ _ (by decide)]; exact z1) (by decide), pu _ 3 _ (by rw [zU_r _ _ _ _ (by decide), zU_r _ _ _ _ (by decide), zU_r _ _ _ _ (by decide)]; exact z1) (by decide), gf _ (fun r q1 q2 => by rw [zU_r _ _ _ _ q2, zU_r _ _ _ _ q2, zU_r _ _ _ _ q2, zU_r _ _ _ _ q2, zr r q1 q2]), e4, pu _ 4 _ (by rw [zU_r _ _ _ _ (by decide), zU_r _ _ _ _ (by decide), zU_r _ _ _ _ (by decide), zU_r _ _ _ _ (by decide)]; exact z1) (by decide), pu _ 6 _ (by rw [zU_r _ _ _ _ (by decide), zU_r _ _ _ _ (by decide), zU_r _ _ _ _ (by decide), zU_r _ _ _ _ (by decide), zU_r _ _ _ _ (by decide)]; exact z1) (by decide), gp _ (fun r q1 q2 => by rw [zU_r _ _ _ _ q2, zU_r _ _ _ _ q2, zU_r _ _ _ _ q2, zU_r _ _ _ _ q2, zU_r _ _ _ _ q2, zU_r _ _ _ _ q2, zr r q1 q2]), pu _ 7 _ (by rw [zU_r _ _ _ _ (by decide), zU_r _ _ _ _ (by decide), zU_r _ _ _ _ (by decide), zU_r _ _ _ _ (by decide), zU_r _ _ _ _ (by decide), zU_r _ _ _ _ (by decide)]; exact z1) (by decide), pu _ 11 _ (by rw [zU_r _ _ _ _ (by decide), zU_r _ _ _ _ (by decide), zU_r _ _ _ _ (by decide), zU_r _ _ _ _ (by decide), zU_r _ _ _ _ (by decide), zU_r _ _ _ _ (by decide), zU_r _ _ _ _ (by decide)]; exact z1) (by decide)]
  refine ⟨_, rfl, ?_⟩
  generalize eX : zU (zU (zU (zU (zU (zU (zU (zU Z 9 (a 4 * 12 + 0) (nI x)) 9 (a 4 * 12 + 1) (nI f)) 9 (a 4 * 12 + 2) (nI d)) 9 (a 4 * 12 + 3) (nI st)) 9 (a 4 * 12 + 4) (nI (st + newM a f d))) 9 (a 4 * 12 + 6) (nI (bestR a f d))) 9 (a 4 * 12 + 7) (nI (a 13))) 9 (a 4 * 12 + 11) (nI (lenR a (nI (bestR a f d)))) = X'
  have x0 : X' 9 (a 4 * 12 + 0) = (nI x) := by rw [← eX, zU_k _ _ _ _ (by omega), zU_k _ _ _ _ (by omega), zU_k _ _ _ _ (by omega), zU_k _ _ _ _ (by omega), zU_k _ _ _ _ (by omega), zU_k _ _ _ _ (by omega), zU_k _ _ _ _ (by omega), zU_s]
  have x1 : X' 9 (a 4 * 12 + 1) = (nI f) := by rw [← eX, zU_k _ _ _ _ (by omega), zU_k _ _ _ _ (by omega), zU_k _ _ _ _ (by omega), zU_k _ _ _ _ (by omega), zU_k _ _ _ _ (by omega), zU_k _ _ _ _ (by omega), zU_s]
  have x2 : X' 9 (a 4 * 12 + 2) = (nI d) := by rw [← eX, zU_k _ _ _ _ (by omega), zU_k _ _ _ _ (by omega), zU_k _ _ _ _ (by omega), zU_k _ _ _ _ (by omega), zU_k _ _ _ _ (by omega), zU_s]
  have x3 : X' 9 (a 4 * 12 + 3) = (nI st) := by rw [← eX, zU_k _ _ _ _ (by omega), zU_k _ _ _ _ (by omega), zU_k _ _ _ _ (by omega), zU_k _ _ _ _ (by omega), zU_s]
  have x4 : X' 9 (a 4 * 12 + 4) = (nI (st + newM a f d)) := by rw [← eX, zU_k _ _ _ _ (by omega), zU_k _ _ _ _ (by omega), zU_k _ _ _ _ (by omega), zU_s]
  have x6 : X' 9 (a 4 * 12 + 6) = (nI (bestR a f d)) := by rw [← eX, zU_k _ _ _ _ (by omega), zU_k _ _ _ _ (by omega), zU_s]
  have x7 : X' 9 (a 4 * 12 + 7) = (nI (a 13)) := by rw [← eX, zU_k _ _ _ _ (by omega), zU_s]
  have x11 : X' 9 (a 4 * 12 + 11) = (nI (lenR a (nI (bestR a f d)))) := by rw [← eX, zU_s]
  have x5 : X' 9 (a 4 * 12 + 5) = nI 0 := by rw [← eX, zU_k _ _ _ _ (by omega), zU_k _ _ _ _ (by omega), zU_k _ _ _ _ (by omega), zU_k _ _ _ _ (by omega), zU_k _ _ _ _ (by omega), zU_k _ _ _ _ (by omega), zU_k _ _ _ _ (by omega), zU_k _ _ _ _ (by omega)]; exact zn 5 (by decide)
  have x8 : X' 9 (a 4 * 12 + 8) = nI 0 := by rw [← eX, zU_k _ _ _ _ (by omega), zU_k _ _ _ _ (by omega), zU_k _ _ _ _ (by omega), zU_k _ _ _ _ (by omega), zU_k _ _ _ _ (by omega), zU_k _ _ _ _ (by omega), zU_k _ _ _ _ (by omega), zU_k _ _ _ _ (by omega)]; exact zn 8 (by decide)
  have xc : ∀ j, j < a 4 * 12 → X' 9 j = X 9 j := fun j hj => by rw [← eX, zU_k _ _ _ _ (by omega), zU_k _ _ _ _ (by omega), zU_k _ _ _ _ (by omega), zU_k _ _ _ _ (by omega), zU_k _ _ _ _ (by omega), zU_k _ _ _ _ (by omega), zU_k _ _ _ _ (by omega), zU_k _ _ _ _ (by omega), zc j hj]
  have xr : ∀ r, r ≠ 8 → r ≠ 9 → X' r = X r := fun r q1 q2 => by rw [← eX, zU_r _ _ _ _ q2, zU_r _ _ _ _ q2, zU_r _ _ _ _ q2, zU_r _ _ _ _ q2, zU_r _ _ _ _ q2, zU_r _ _ _ _ q2, zU_r _ _ _ _ q2, zU_r _ _ _ _ q2, zr r q1 q2]
  have xt : X' 8 = Z 8 := by rw [← eX, zU_r _ _ _ _ (by decide), zU_r _ _ _ _ (by decide), zU_r _ _ _ _ (by decide), zU_r _ _ _ _ (by decide), zU_r _ _ _ _ (by decide), zU_r _ _ _ _ (by decide), zU_r _ _ _ _ (by decide), zU_r _ _ _ _ (by decide)]
  clear eX
  have t4 := pln_4 a x f d st
  have to : ∀ j, j ≠ 4 → (j < 158 + 9 * a 4 ∨ 158 + 9 * a 4 + 9 ≤ j) → pln a x f d st j = a j := fun j q1 q2 => pln_o a x f d st q1 q2
  have s0 := pln_s0 a x f d st
  have s1 := pln_s1 a x f d st
  have s2 := pln_s2 a x f d st
  have s3 := pln_s3 a x f d st
  have s4 := pln_s4 a x f d st
  have s5 := pln_s5 a x f d st
  have s6 := pln_s6 a x f d st
  have s7 := pln_s7 a x f d st
  have s8 := pln_s8 a x f d st
  generalize pln a x f d st = a' at *
  have tho : ∀ s k, s < a 4 → k < 9 → shw a' s k = shw a s k := fun s k hs hk => to _ (by omega) (by omega)
  have fl : ∀ y k, y < a 2 → k < 8 → flm a' y k = flm a y k := fun y k hy hk => to _ (by omega) (by omega)
  have eE : endA a' (a 4) = st + newM a f d := by
    unfold endA mins newM
    rw [s3, s5, s1, fl f 0 hf (by decide)]
  have eEo : ∀ s, s < a 4 → endA a' s = endA a s := fun s hs => endA_flm (fun k hk => tho s k hs hk) (fl _ 0 (hG.1.s1 hs) (by decide))
  obtain ⟨k1, k2, k3⟩ := brk_zero hbr
  have hb1 := bestR_lt a f d
  have hb2 := bestR_blk a f d
  have hb3 : a 11 ≤ 20 := hG.1.1.2.2.2.2.2.2.2.2.2.2.1
  have hpr : 1 ≤ a 13 ∧ a 13 ≤ 99 := hG.1.1.2.2.2.2.2.2.2.2.2.2.2.2.1
  have e1 : a' 1 = a 1 := to 1 (by decide) (by omega)
  have e2 : a' 2 = a 2 := to 2 (by decide) (by omega)
  have res := fr_S (X' := X') (a' := a') hB hG ⟨⟨by rw [xt]; exact z1, by rw [xt]; exact z2, by rw [xt, t4]; exact z3⟩, fun s hs => ?_⟩ (b1.cg (xr 1 (by decide) (by decide)) (to 0 (by decide) (by omega)) (to 5 (by decide) (by omega))) (fun s hs => ?_) (fun s hs => ?_) (fun s t hs ht hst1 q1 q2 q3 q4 => ?_) (fun r q1 q2 q3 => xr r q2 q3) (fun j q1 q2 q3 => to j q1 (by omega)) (by omega)
  · exact ⟨res.1, res.2, xr⟩
  · rw [t4] at hs
    by_cases c : s = a 4
    · subst c
      refine ⟨fun k hk => ?_, by rw [x4, eE], by rw [x5, s7], by rw [x6, s4], by rw [x7, s6], by rw [x8, s8]; rfl, by rw [x11, s5]⟩
      match k, hk with
      | 0, _ => rw [x0, s0]
      | 1, _ => rw [x1, s1]
      | 2, _ => rw [x2, s2]
      | 3, _ => rw [x3, s3]
    · exact (bS.2 s (by omega)).cg (fun j hj => xc _ (by omega)) (fun k hk => tho s k (by omega) hk) (eEo s (by omega))
  · rw [t4] at hs
    by_cases c : s = a 4
    · subst c
      rw [s0, s1, s2, s3, s4, s5, s6, s7, s8, eE, e1, e2, fl f 4 hf (by decide)]
      omega
    · have hs2 : s < a 4 := by omega
      have := hG.1.2.2.2.2 s hs2
      rw [eEo s hs2, tho s 0 hs2 (by decide), tho s 1 hs2 (by decide), tho s 2 hs2 (by decide), tho s 3 hs2 (by decide), tho s 4 hs2 (by decide), tho s 5 hs2 (by decide), tho s 6 hs2 (by decide), tho s 7 hs2 (by decide), tho s 8 hs2 (by decide), e1, e2, fl _ 4 (hG.1.s1 hs2) (by decide)]
      exact this
  · rw [t4] at hs
    by_cases c : s = a 4
    · subst c; rw [s8]; decide
    · rw [tho s 8 (by omega) (by decide)]; exact hG.2.1 s (by omega)
  · rw [t4] at hs ht
    by_cases c : s = a 4
    · have ht2 : t < a 4 := by omega
      subst c
      rw [tho t 8 ht2 (by decide)] at q2
      rw [s0, tho t 0 ht2 (by decide)] at q3
      rw [s2, tho t 2 ht2 (by decide)] at q4
      rw [s3, tho t 3 ht2 (by decide)]
      exact fun z => brk_ds hbr (by omega) hG.1 ht2 (z_m1 (by omega)) q2 q4.symm q3.symm z.symm
    · have hs2 : s < a 4 := by omega
      by_cases ct : t = a 4
      · subst ct
        rw [tho s 8 hs2 (by decide)] at q1
        rw [s0, tho s 0 hs2 (by decide)] at q3
        rw [s2, tho s 2 hs2 (by decide)] at q4
        rw [s3, tho s 3 hs2 (by decide)]
        exact brk_ds hbr (by omega) hG.1 hs2 (z_m1 (by omega)) q1 q4 q3
      · have ht2 : t < a 4 := by omega
        rw [tho s 8 hs2 (by decide)] at q1
        rw [tho t 8 ht2 (by decide)] at q2
        rw [tho s 0 hs2 (by decide), tho t 0 ht2 (by decide)] at q3
        rw [tho s 2 hs2 (by decide), tho t 2 ht2 (by decide)] at q4
        rw [tho s 3 hs2 (by decide), tho t 3 ht2 (by decide)]
        exact hG.2.2 s t hs2 ht2 hst1 q1 q2 q3 q4
end PN
