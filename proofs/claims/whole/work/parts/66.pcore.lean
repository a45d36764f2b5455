section PC
variable {X Y : Nat → Nat → Int32} {a a' : Nat → Nat}
theorem zsm_cg {f g : Nat → Nat} : ∀ (n s : Nat), (∀ k, s ≤ k → k < s + n → f k = g k) → zsm f s n = zsm g s n
  | 0, s, _ => rfl
  | n + 1, s, h => by rw [zsm, zsm, h s (Nat.le_refl s) (by omega), zsm_cg n (s + 1) (fun k h1 h2 => h k (by omega) (by omega))]
theorem lenR_cg (hG : Gd a) (h3 : a' 3 = a 3) (ht : ∀ j, 118 ≤ j → j < 158 → a' j = a j) (v : Int32) : lenR a' v = lenR a v := by
  have c3 := hG.c3
  unfold lenR
  rw [h3]
  refine zsm_cg (a 3) 0 (fun k _ hk => ?_)
  show (if _ then 0 else trl a' k 1) = (if _ then 0 else trl a k 1)
  rw [trl_cg (by omega) (by decide) ht]
theorem Gd_lo (hG : Gd a) (h : ∀ j, j < 158 + 9 * a 4 → a' j = a j) : Gd a' := by
  have c1 := hG.c1
  have c2 := hG.c2
  have c3 := hG.c3
  have c4 := hG.c4
  have e1 := h 1 (by omega)
  have e2 := h 2 (by omega)
  have e3 := h 3 (by omega)
  have e4 := h 4 (by omega)
  have fl : ∀ y k, y < a 2 → k < 8 → flm a' y k = flm a y k := fun y k hy hk => h _ (by omega)
  have sh : ∀ s k, s < a 4 → k < 9 → shw a' s k = shw a s k := fun s k hs hk => h _ (by omega)
  refine ⟨GdC.cg hG (by omega) (by omega) (by omega) (by omega) (fun j k1 k2 => h j (by omega)), GdH.cg hG e1 (fun j k1 k2 => h j (by omega)), GdF.cg hG e2 (fun j k1 k2 => h j (by omega)), GdT.cg hG e3 (by omega) (fun j k1 k2 => h j (by omega)), fun s hs => ?_⟩
  rw [e4] at hs
  have := hG.2.2.2.2 s hs
  rw [endA_flm (fun k hk => sh s k hs hk) (fl _ 0 (hG.s1 hs) (by decide)), sh s 0 hs (by decide), sh s 1 hs (by decide), sh s 2 hs (by decide), sh s 3 hs (by decide), sh s 4 hs (by decide), sh s 5 hs (by decide), sh s 6 hs (by decide), sh s 7 hs (by decide), sh s 8 hs (by decide), e1, e2, fl _ 4 (hG.s1 hs) (by decide)]
  exact this
def Kp (n : Nat) : Nat := if n = 1 then 1 else if n = 2 then 2 else 3
theorem plan_core {q : Nat} (h : zInv q X Y a) (v1 v2 v3 v4 : Int32) : ∃ flt X1, f_X5_faultOfPlan X v1 v2 v3 v4 = some (flt, X1) ∧ zCore q X Y a flt X1 (fun Xk => f_X3_addShow Xk v1 v2 v3 v4) (f_X6_plan Y v1 v2 v3 v4) Kp := by
  have hB := h.1
  have hR := h.2.1
  have hG := h.2.2.1
  have c4 := hG.1.c4
  unfold f_X5_faultOfPlan f_X6_plan
  rcases hall_cases hB hR hG.1 v1 with ⟨e1, e2⟩ | ⟨e1, e2, x, hx, rfl⟩
  · rw [e1, e2, if_pos nI_0, if_pos nI_0]
    exact ⟨_, _, rfl, Or.inl ⟨1, zU Y 0 0 (nI 1), nI 0, rfl, by decide, by decide, rfl, zU_s _ _ _ _, h.u0 _, (FX.rf X).r, (FY.u0 Y _).r⟩⟩
  rw [e1, e2, if_neg nI_10, if_neg nI_10]
  rcases film_cases hB hR hG.1 v2 with ⟨e1, e2⟩ | ⟨e1, e2, f, hf, rfl⟩
  · rw [e1, e2, if_pos nI_0, if_pos nI_0]
    exact ⟨_, _, rfl, Or.inl ⟨1, zU Y 0 0 (nI 1), nI 0, rfl, by decide, by decide, rfl, zU_s _ _ _ _, h.u0 _, (FX.rf X).r, (FY.u0 Y _).r⟩⟩
  rw [e1, e2, if_neg nI_10, if_neg nI_10]
  rcases place_cases v3 v4 with ⟨e1, e2 | ⟨e2, e3⟩⟩ | ⟨e1, e2, e3, ⟨d, hd, rfl⟩, st, hst, rfl⟩
  · rw [e1, e2, if_pos nI_0, if_pos nI_0]
    exact ⟨_, _, rfl, Or.inl ⟨2, zU Y 0 0 (nI 2), nI 0, rfl, by decide, by decide, rfl, zU_s _ _ _ _, h.u0 _, (FX.rf X).r, (FY.u0 Y _).r⟩⟩
  · rw [e1, e2, e3, if_neg nI_10, if_pos nI_0, if_pos nI_0]
    exact ⟨_, _, rfl, Or.inl ⟨2, zU Y 0 0 (nI 2), nI 0, rfl, by decide, by decide, rfl, zU_s _ _ _ _, h.u0 _, (FX.rf X).r, (FY.u0 Y _).r⟩⟩
  rw [e1, e2, e3, if_neg nI_10, if_neg nI_10, if_neg nI_10]
  obtain ⟨X1, et, h1, hF, hX1⟩ := z_take h (-1) hf hd
  have hm := newM_b hG.1 d hf
  obtain ⟨r, v, er, -, eb, em, h2, -⟩ := z_look h1 hF hf hd hx hst (mi := newM a f d) (by omega) (by omega)
  have hr9 : r ≤ 9 := by rw [er]; exact brk_9 _ _ _ _ _ _ _
  have hX2 : FXr X (zU X1 146 3 v) := hX1.r.tr (FX.u146 X1 3 v).r
  have hY2 := (FY.look Y (-1) x f d st (st + newM a f d) v).r
  unfold f_X6_breaksNew
  rw [et, Option.bind_some, n_newMinutes h1.1 hG.1 hf (by omega), Option.bind_some, nI_add, eb, Option.bind_some, m_newMinutes hR hG.1 hf (by omega) (fun z => ((f_X6_breaks Y (nI x) (nI f) (nI d) (nI st) z (-1 : Int32)).bind fun q_7 => some (q_7.1, q_7.2))), em, Option.bind_some, Option.bind_some]
  have ed : zU X1 146 3 v 146 3 = v := zU_s _ _ _ _
  have ed2 : zU (mPut Y (-1) x f d st (st + newM a f d)) 0 21 v 0 21 = v := zU_s _ _ _ _
  generalize zU X1 146 3 v = X2 at h2 hX2 ed ⊢
  generalize zU (mPut Y (-1) x f d st (st + newM a f d)) 0 21 v = Y2 at h2 hY2 ed2 ⊢
  by_cases c : r = 0
  · subst c
    have hbr : (brk a (-1) f d x st (st + newM a f d)).1 = 0 := er.symm
    rw [if_pos (show (nI 0, X2).1 = 0 from nI_0), if_pos (show (nI 0, Y2).1 = 0 from nI_0), show f_X4_size (nI 0, X2).2 8 360 = nI (a 4) from n_size (n_nS h2.1), show (nI 0, Y2).2 1 (nI 4).toNatClampNeg = nI (a 4) from h2.2.1.lo (k := 4) (by decide)]
    by_cases c30 : a 4 = 30
    · rw [c30, if_neg (nI_nlt (by omega) (by omega)), if_pos rfl]
      obtain ⟨r1, r2, r3⟩ := h2.refuse (r := 10) (by decide) (by decide) (nI 30) (nI 3)
      exact ⟨_, _, rfl, Or.inl ⟨4, _, nI 0, rfl, by decide, by decide, rfl, zU_s (zU (zU Y2 0 8 (nI 10)) 0 9 (nI 30)) 0 0 (nI 3), r1, hX2.tr r2, hY2.tr r3⟩⟩
    · rw [if_pos (nI_lt (by omega) (by omega)), if_neg (fun z => c30 ((nI_eq (by omega) (by decide)).mp z))]
      refine ⟨nI 0, X2, rfl, Or.inr ⟨rfl, Y2, h2, hX2, hY2, fun Xk Yr er2 hk => ?_⟩⟩
      obtain ⟨X', eX, xB, xG, xr⟩ := n_addShow hk.1 hk.2.2.1 hx hf hd hst (by omega) hbr
      have hFX : FX Xk X' := FX.of (fun r k1 => xr r (by omega) (by omega))
      have hkR := hk.2.1
      rw [show f_X6_remembers (nI 0, Y2).2 = some Yr from er2, Option.bind_some, m_bestReel hkR hk.2.2.1.1 hf (by omega), Option.bind_some, show Yr 1 (nI 4).toNatClampNeg = nI (a 4) from hkR.lo (k := 4) (by decide)]
      simp only [pk_mul, nI_add, zlet_eq]
      have i0 := nI_ix (n := 158 + 9 * a 4 + 0) (by omega)
      have i1 := nI_ix (n := 158 + 9 * a 4 + 1) (by omega)
      have i2 := nI_ix (n := 158 + 9 * a 4 + 2) (by omega)
      have i3 := nI_ix (n := 158 + 9 * a 4 + 3) (by omega)
      have i4 := nI_ix (n := 158 + 9 * a 4 + 4) (by omega)
      have i5 := nI_ix (n := 158 + 9 * a 4 + 5) (by omega)
      have i6 := nI_ix (n := 158 + 9 * a 4 + 6) (by omega)
      have i7 := nI_ix (n := 158 + 9 * a 4 + 7) (by omega)
      have i8 := nI_ix (n := 158 + 9 * a 4 + 8) (by omega)
      simp only [i0, i1, i2, i3, i4, i5, i6, i7, i8, if_false]
      rw [nI_clamp (n := 158 + 9 * a 4 + 0) (by omega), nI_clamp (n := 158 + 9 * a 4 + 1) (by omega), nI_clamp (n := 158 + 9 * a 4 + 2) (by omega), nI_clamp (n := 158 + 9 * a 4 + 3) (by omega), nI_clamp (n := 158 + 9 * a 4 + 4) (by omega), nI_clamp (n := 158 + 9 * a 4 + 5) (by omega), nI_clamp (n := 158 + 9 * a 4 + 6) (by omega), nI_clamp (n := 158 + 9 * a 4 + 7) (by omega), nI_clamp (n := 158 + 9 * a 4 + 8) (by omega), show (nI 4).toNatClampNeg = 4 from rfl, show (nI 13).toNatClampNeg = 13 from rfl]
      have s0 : sp (158 + 9 * a 4 + 0) = false := sp_mid (by omega) (by omega)
      have s1 : sp (158 + 9 * a 4 + 1) = false := sp_mid (by omega) (by omega)
      have s2 : sp (158 + 9 * a 4 + 2) = false := sp_mid (by omega) (by omega)
      have s3 : sp (158 + 9 * a 4 + 3) = false := sp_mid (by omega) (by omega)
      have s4 : sp (158 + 9 * a 4 + 4) = false := sp_mid (by omega) (by omega)
      have s5 : sp (158 + 9 * a 4 + 5) = false := sp_mid (by omega) (by omega)
      have s6 : sp (158 + 9 * a 4 + 6) = false := sp_mid (by omega) (by omega)
      have s7 : sp (158 + 9 * a 4 + 7) = false := sp_mid (by omega) (by omega)
      have s8 : sp (158 + 9 * a 4 + 8) = false := sp_mid (by omega) (by omega)
      have hR5 := (((((hkR.put (k := 158 + 9 * a 4 + 0) (n := x) (en_n s0).symm).put (k := 158 + 9 * a 4 + 1) (n := f) (en_n s1).symm).put (k := 158 + 9 * a 4 + 2) (n := d) (en_n s2).symm).put (k := 158 + 9 * a 4 + 3) (n := st) (en_n s3).symm).put (k := 158 + 9 * a 4 + 4) (n := (bestR a f d)) (en_n s4).symm)
      have hl5 : ∀ j, j < 158 + 9 * a 4 → (up (up (up (up (up a (158 + 9 * a 4 + 0) x) (158 + 9 * a 4 + 1) f) (158 + 9 * a 4 + 2) d) (158 + 9 * a 4 + 3) st) (158 + 9 * a 4 + 4) (bestR a f d)) j = a j := fun j hj => by rw [up_n _ (by omega), up_n _ (by omega), up_n _ (by omega), up_n _ (by omega), up_n _ (by omega)]
      have hG5 := Gd_lo hk.2.2.1.1 hl5
      rw [m_lengthOf hR5 hG5, Option.bind_some, lenR_cg hk.2.2.1.1 (hl5 3 (by omega)) (fun j k1 k2 => hl5 j (by omega))]
      have e13 : (zU (zU (zU (zU (zU (zU Yr 1 (158 + 9 * a 4 + 0) (nI x)) 1 (158 + 9 * a 4 + 1) (nI f)) 1 (158 + 9 * a 4 + 2) (nI d)) 1 (158 + 9 * a 4 + 3) (nI st)) 1 (158 + 9 * a 4 + 4) (nI (bestR a f d))) 1 (158 + 9 * a 4 + 5) (nI (lenR a (nI (bestR a f d))))) 1 13 = nI (a 13) := by rw [zU_k _ _ _ _ (by omega), zU_k _ _ _ _ (by omega), zU_k _ _ _ _ (by omega), zU_k _ _ _ _ (by omega), zU_k _ _ _ _ (by omega), zU_k _ _ _ _ (by omega)]; exact hkR.lo (by decide)
      rw [e13]
      have e44 : (zU (zU (zU (zU (zU (zU (zU (zU (zU Yr 1 (158 + 9 * a 4 + 0) (nI x)) 1 (158 + 9 * a 4 + 1) (nI f)) 1 (158 + 9 * a 4 + 2) (nI d)) 1 (158 + 9 * a 4 + 3) (nI st)) 1 (158 + 9 * a 4 + 4) (nI (bestR a f d))) 1 (158 + 9 * a 4 + 5) (nI (lenR a (nI (bestR a f d))))) 1 (158 + 9 * a 4 + 6) (nI (a 13))) 1 (158 + 9 * a 4 + 7) (nI 0)) 1 (158 + 9 * a 4 + 8) (nI 0)) 1 4 = nI (a 4) := by rw [zU_k _ _ _ _ (by omega), zU_k _ _ _ _ (by omega), zU_k _ _ _ _ (by omega), zU_k _ _ _ _ (by omega), zU_k _ _ _ _ (by omega), zU_k _ _ _ _ (by omega), zU_k _ _ _ _ (by omega), zU_k _ _ _ _ (by omega), zU_k _ _ _ _ (by omega)]; exact hkR.lo (by decide)
      rw [e44, nI_add]
      have yR : RM (zU (zU (zU (zU (zU (zU (zU (zU (zU (zU Yr 1 (158 + 9 * a 4 + 0) (nI x)) 1 (158 + 9 * a 4 + 1) (nI f)) 1 (158 + 9 * a 4 + 2) (nI d)) 1 (158 + 9 * a 4 + 3) (nI st)) 1 (158 + 9 * a 4 + 4) (nI (bestR a f d))) 1 (158 + 9 * a 4 + 5) (nI (lenR a (nI (bestR a f d))))) 1 (158 + 9 * a 4 + 6) (nI (a 13))) 1 (158 + 9 * a 4 + 7) (nI 0)) 1 (158 + 9 * a 4 + 8) (nI 0)) 1 4 (nI (a 4 + 1)) 1) (pln a x f d st) := ((((hR5.put (k := 158 + 9 * a 4 + 5) (n := (lenR a (nI (bestR a f d)))) (en_n s5).symm).put (k := 158 + 9 * a 4 + 6) (n := (a 13)) (en_n s6).symm).put (k := 158 + 9 * a 4 + 7) (n := 0) (en_n s7).symm).put (k := 158 + 9 * a 4 + 8) (n := 0) (en_n s8).symm).put (k := 4) (n := a 4 + 1) (en_n (sp_lo (by decide))).symm
      have hFY : FY Yr (zU (zU (zU (zU (zU (zU (zU (zU (zU (zU Yr 1 (158 + 9 * a 4 + 0) (nI x)) 1 (158 + 9 * a 4 + 1) (nI f)) 1 (158 + 9 * a 4 + 2) (nI d)) 1 (158 + 9 * a 4 + 3) (nI st)) 1 (158 + 9 * a 4 + 4) (nI (bestR a f d))) 1 (158 + 9 * a 4 + 5) (nI (lenR a (nI (bestR a f d))))) 1 (158 + 9 * a 4 + 6) (nI (a 13))) 1 (158 + 9 * a 4 + 7) (nI 0)) 1 (158 + 9 * a 4 + 8) (nI 0)) 1 4 (nI (a 4 + 1))) := ⟨fun r hr => by rw [zU_r _ _ _ _ (by omega), zU_r _ _ _ _ (by omega), zU_r _ _ _ _ (by omega), zU_r _ _ _ _ (by omega), zU_r _ _ _ _ (by omega), zU_r _ _ _ _ (by omega), zU_r _ _ _ _ (by omega), zU_r _ _ _ _ (by omega), zU_r _ _ _ _ (by omega), zU_r _ _ _ _ (by omega)], fun k _ _ => by rw [zU_r _ _ _ _ (by decide), zU_r _ _ _ _ (by decide), zU_r _ _ _ _ (by decide), zU_r _ _ _ _ (by decide), zU_r _ _ _ _ (by decide), zU_r _ _ _ _ (by decide), zU_r _ _ _ _ (by decide), zU_r _ _ _ _ (by decide), zU_r _ _ _ _ (by decide), zU_r _ _ _ _ (by decide)]⟩
      clear e44 e13 hG5 hl5 hR5
      generalize zU (zU (zU (zU (zU (zU (zU (zU (zU (zU Yr 1 (158 + 9 * a 4 + 0) (nI x)) 1 (158 + 9 * a 4 + 1) (nI f)) 1 (158 + 9 * a 4 + 2) (nI d)) 1 (158 + 9 * a 4 + 3) (nI st)) 1 (158 + 9 * a 4 + 4) (nI (bestR a f d))) 1 (158 + 9 * a 4 + 5) (nI (lenR a (nI (bestR a f d))))) 1 (158 + 9 * a 4 + 6) (nI (a 13))) 1 (158 + 9 * a 4 + 7) (nI 0)) 1 (158 + 9 * a 4 + 8) (nI 0)) 1 4 (nI (a 4 + 1)) = Y' at yR hFY ⊢
      have hk2 := hk.fr xB yR xG hFX (hk.con.fr (xr 147 (by decide) (by decide))) hFY
      exact ⟨nI (a 4), X', zU Y' 0 0 (nI 0), _, eX, rfl, zU_s _ _ _ _, hk2.u0 _, hFX.r, (hFY.tr (FY.u0 Y' _)).r⟩
  · dsimp only
    rw [if_neg (nI_ne0 (by omega) (by omega)), if_neg (nI_ne0 (by omega) (by omega)), ed, ed2]
    obtain ⟨r1, r2, r3⟩ := h2.refuse (r := r) (by omega) (by omega) v (nI 3)
    exact ⟨_, _, rfl, Or.inl ⟨4, _, nI 0, rfl, by decide, by decide, rfl, zU_s (zU (zU Y2 0 8 (nI r)) 0 9 v) 0 0 (nI 3), r1, hX2.tr r2, hY2.tr r3⟩⟩
def K315 (c : Nat) : Nat := match c with
  | 0 => 0
  | 3 => 1
  | 1 => 2
  | _ => 3
theorem sim_plan (h : zInv 0 X Y a) (v1 v2 v3 v4 : Int32) : zSim X Y K315 (f_X5_plan X v1 v2 v3 v4) (f_X6_plan Y v1 v2 v3 v4) := by
  obtain ⟨fv, X1, ef, hc⟩ := plan_core h v1 v2 v3 v4
  -- which faults come
  have hw : fv = nI 0 ∨ fv = nI 1 ∨ fv = nI 2 ∨ fv = nI 4 := by
    unfold f_X5_faultOfPlan at ef
    split at ef
    · cases ef; exact Or.inr (Or.inl rfl)
    split at ef
    · cases ef; exact Or.inr (Or.inl rfl)
    split at ef
    · cases ef; exact Or.inr (Or.inr (Or.inl rfl))
    split at ef
    · cases ef; exact Or.inr (Or.inr (Or.inl rfl))
    obtain ⟨z1, -, ef⟩ := Option.bind_eq_some_iff.mp ef
    obtain ⟨z2, -, ef⟩ := Option.bind_eq_some_iff.mp ef
    obtain ⟨z3, -, ef⟩ := Option.bind_eq_some_iff.mp ef
    split at ef
    · split at ef
      · cases ef; exact Or.inl rfl
      · cases ef; exact Or.inr (Or.inr (Or.inr rfl))
    · cases ef; exact Or.inr (Or.inr (Or.inr rfl))
  unfold f_X5_plan
  rw [ef, Option.bind_some]
  rcases hc with ⟨n, Y1, b, e1, l1, l2, e2, e3, hI, -, hy⟩ | ⟨e1, Z1, hI, hx, hy, hgo⟩
  · have hn : n = 1 ∨ n = 2 ∨ n = 4 := by
      rw [e1] at hw
      rcases hw with z | z | z | z
      · have := (nI_eq (by omega) (by decide)).mp z; omega
      · exact Or.inl ((nI_eq (by omega) (by decide)).mp z)
      · exact Or.inr (Or.inl ((nI_eq (by omega) (by decide)).mp z))
      · exact Or.inr (Or.inr ((nI_eq (by omega) (by decide)).mp z))
    subst e1
    rw [e2]
    rcases hn with rfl | rfl | rfl
    · exact ⟨3, 0, b, X1, Y1, a, rfl, rfl, e3, fun z => absurd z (by decide), hI, hy.txt⟩
    · exact ⟨1, 0, b, X1, Y1, a, rfl, rfl, e3, fun z => absurd z (by decide), hI, hy.txt⟩
    · exact ⟨5, 0, b, X1, Y1, a, rfl, rfl, e3, fun z => absurd z (by decide), hI, hy.txt⟩
  · subst e1
    dsimp only
    rw [if_neg (by decide), if_neg (by decide), if_neg (by decide)]
    obtain ⟨Yr, er, hk, hT, -⟩ := z_keep hI
    obtain ⟨v, X', Y', a', c1, c2, c3, c4, c5, c6⟩ := hgo (f_X0_keep X1) Yr er hk
    have c1' : f_X3_addShow (f_X0_keep X1) v1 v2 v3 v4 = some (v, X') := c1
    rw [zlet_eq, c1', Option.bind_some, c2]
    exact ⟨0, v, v, X', Y', a', rfl, rfl, c3, fun _ => rfl, c4, (hy.txt.tr hT).tr c6.txt⟩
end PC
