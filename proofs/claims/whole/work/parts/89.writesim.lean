/-! write: both sides agree -/
section WRS
variable {X Y : Nat → Nat → Int32} {a : Nat → Nat} {t : Nat → Nat} {k : Nat}
theorem nxt_ok {h d m : Nat} : ∀ (n s : Nat) (o : Option Nat), (∀ z, o = some z → inP a h d z = true ∧ m ≤ shw a z 3) → ∀ z, nxt a h d m s n o = some z → inP a h d z = true ∧ m ≤ shw a z 3
  | 0, s, o, ho, z, hz => ho z hz
  | n + 1, s, o, ho, z, hz => nxt_ok n (s + 1) _ (fun y hy => by
      unfold nxS at hy
      split at hy
      · rename_i c
        cases hy
        exact ⟨c.1, c.2.1⟩
      · exact ho y hy) z hz
theorem nxA_ok {h d m z : Nat} (hz : nxA a h d m = some z) : inP a h d z = true ∧ m ≤ shw a z 3 := nxt_ok (a 4) 0 none (fun z h => by cases h) z hz
/-- how many shows stand there from m on -/
def cnA (a : Nat → Nat) (h d m : Nat) : Nat := zsm (fun s => if inP a h d s = true ∧ m ≤ shw a s 3 then 1 else 0) 0 (a 4)
theorem zsm_mono {f g : Nat → Nat} : ∀ (n s : Nat), (∀ x, f x ≤ g x) → zsm f s n ≤ zsm g s n
  | 0, _, _ => Nat.le_refl _
  | n + 1, s, h => Nat.add_le_add (h s) (zsm_mono n (s + 1) h)
theorem zsm_lt {f g : Nat → Nat} : ∀ (n s x : Nat), (∀ x, f x ≤ g x) → s ≤ x → x < s + n → f x < g x → zsm f s n < zsm g s n
  | 0, s, x, _, h1, h2, _ => by omega
  | n + 1, s, x, h, h1, h2, h3 => by
    rw [zsm, zsm]
    by_cases c : x = s
    · subst c
      have := zsm_mono n (x + 1) h
      omega
    · have := zsm_lt n (s + 1) x h (by omega) (by omega) h3
      have := h s
      omega
theorem zsm_bd {f : Nat → Nat} : ∀ (n s : Nat), (∀ x, f x ≤ 1) → zsm f s n ≤ n
  | 0, _, _ => Nat.le_refl _
  | n + 1, s, h => by
    rw [zsm]
    have := zsm_bd n (s + 1) h
    have := h s
    omega
theorem cnA_le (h d m : Nat) : cnA a h d m ≤ a 4 := zsm_bd (a 4) 0 (fun x => by split <;> omega)
theorem cnA_lt {h d m z : Nat} (hz : nxA a h d m = some z) : cnA a h d (shw a z 3 + 1) < cnA a h d m := by
  obtain ⟨h1, h2⟩ := nxA_ok hz
  refine zsm_lt (a 4) 0 z (fun x => ?_) (Nat.zero_le _) (by have := nxA_lt hz; omega) ?_
  · show (if inP a h d x = true ∧ shw a z 3 + 1 ≤ shw a x 3 then 1 else 0) ≤ if inP a h d x = true ∧ m ≤ shw a x 3 then 1 else 0
    by_cases c : inP a h d x = true ∧ shw a z 3 + 1 ≤ shw a x 3
    · rw [if_pos c, if_pos ⟨c.1, by omega⟩]; exact Nat.le_refl _
    · rw [if_neg c]; exact Nat.zero_le _
  · show (if inP a h d z = true ∧ shw a z 3 + 1 ≤ shw a z 3 then 1 else 0) < if inP a h d z = true ∧ m ≤ shw a z 3 then 1 else 0
    rw [if_neg (fun q => by omega), if_pos ⟨h1, h2⟩]
    decide
/-- a show's pieces -/
def zpN (v : Nat) : zPc := (sb_dg v, sb_dec v)
def shP (a : Nat → Nat) (h s : Nat) : List zPc := [zpN (shw a s 3), zpC 45, zpN (endA a s), zpS zT449, zpN (shw a s 1), zpC 32, zpN (shw a s 7), zpC 47, zpN (hal a h 0)]
theorem zpI_nI {v : Nat} (hv : v < 10000) : zpI (nI v) = zpN v := by
  unfold zpI zpN
  rw [nI_clamp (by omega)]
theorem zok_of {v : Nat} (hv : v < 10000) : zok (nI v) := ⟨nI_pos (by omega), fun q => by rw [nI_leI (by omega) (by omega)] at q; omega⟩
theorem hal_lt (hG : Gd a) {x : Nat} (hx : x < a 1) : hal a x 0 ≤ 400 := by
  have := hG.2.1 x hx
  omega
theorem n_shP (h : zRB X 1 a) (hG : Gd a) {s : Nat} (hs : s < a 4) : zShw X (nI s) = some (shP a (shw a s 0) s) := by
  have hS := hG.2.2.2.2 s hs
  have h2 := hG.c2
  have hh := hal_lt hG hS.1
  unfold zShw
  rw [n_shw h hG hs (by decide), n_end h hG hs, n_shw h hG hs (by decide), n_tic h hG hs, n_seatsOf h hG hs, if_pos ⟨zok_of (by omega), zok_of (by omega), zok_of (by omega), zok_of (by omega), zok_of (by omega)⟩, zpI_nI (by omega), zpI_nI (by omega), zpI_nI (by omega), zpI_nI (by omega), zpI_nI (by omega)]
  rfl
theorem sb_dg3 {v : Nat} (hv : v < 1000) : sb_dg v ≤ 3 := by
  unfold sb_dg
  split
  · omega
  · split
    · omega
    · first | omega | (rw [if_pos hv]; omega)
theorem shP_len (hG : Gd a) {s h : Nat} (hs : s < a 4) (hh : h < a 1) : zlen (shP a h s) ≤ 20 := by
  have hS := hG.2.2.2.2 s hs
  have h2 := hG.c2
  have q1 := sb_dg3 (v := shw a s 3) (by omega)
  have q2 := sb_dg3 (v := endA a s) (by omega)
  have q3 : sb_dg (shw a s 1) = 1 := zdg1 (by omega)
  have q4 := sb_dg3 (v := shw a s 7) (by omega)
  have q5 := sb_dg3 (v := hal a h 0) (by have := hal_lt hG hh; omega)
  simp only [shP, zlen, zpN, zpC, zpS, List.map_cons, List.map_nil, List.sum_cons, List.sum_nil, List.length_cons, List.length_nil]
  omega
theorem FW.rm {Y Y' : Nat → Nat → Int32} (h : FW Y Y') (hR : RM (Y 1) a) : RM (Y' 1) a := by rw [h.1 1 (by decide) (by decide)]; exact hR
theorem w_show (hR : RM (Y 1) a) (hG : Gd a) {s x : Nat} (d : Int32) (hs : s < a 4) (hx : x < a 1) (hw : wr t k Y) (hk : k + zlen (shP a x s) ≤ 1200) : ∃ Y9, (∀ (kc : (Nat → Nat → Int32) → Option (Int32 × (Nat → Nat → Int32))) (fu : Nat), f_X6_write_L67 kc (nI x) d (fu + 1) Y (nI s) = (f_X6_nextShow Y9 (nI x) d (nI (shw a s 3))).bind fun q => if q = (-1 : Int32) then kc Y9 else (f_X6_writesWord zT359 Y9).bind fun Y2 => f_X6_write_L67 kc (nI x) d fu Y2 q) ∧ wr (zcatT t k (shP a x s)) (k + zlen (shP a x s)) Y9 ∧ FW Y Y9 := by
  have hS := hG.2.2.2.2 s hs
  have h4 := hG.c4
  have h2 := hG.c2
  have h1 := hG.c1
  have hh := hal_lt hG hx
  have el : k + zlen (shP a x s) = k + sb_dg (shw a s 3) + 1 + sb_dg (endA a s) + 2 + sb_dg (shw a s 1) + 1 + sb_dg (shw a s 7) + 1 + sb_dg (hal a x 0) := by
    simp only [shP, zlen, zpN, zpC, zpS, List.map_cons, List.map_nil, List.sum_cons, List.sum_nil, List.length_cons, List.length_nil]
    omega
  rw [el] at hk ⊢
  have b1 := (sb_dg_in (shw a s 3)).1
  obtain ⟨Y1, e1, w1, f1⟩ := w_num hw (v := shw a s 3) (by omega) (by omega)
  obtain ⟨Y2, e2, w2, f2⟩ := w_letter w1 (c := 45) (by decide) (by omega)
  have g2 := f1.tr f2
  obtain ⟨Y3, e3, w3, f3⟩ := w_num w2 (v := endA a s) (by omega) (by omega)
  have g3 := g2.tr f3
  obtain ⟨Y4, e4, w4, f4⟩ := w_word w3 zch_449 (by decide) (by show _ + 2 ≤ _; omega)
  have g4 := g3.tr f4
  obtain ⟨Y5, e5, w5, f5⟩ := w_num w4 (v := shw a s 1) (by omega) (by show _ + 2 + _ ≤ _; omega)
  have g5 := g4.tr f5
  obtain ⟨Y6, e6, w6, f6⟩ := w_letter w5 (c := 32) (by decide) (by show _ + 2 + _ < _; omega)
  have g6 := g5.tr f6
  obtain ⟨Y7, e7, w7, f7⟩ := w_num w6 (v := shw a s 7) (by omega) (by show _ + 2 + _ + 1 + _ ≤ _; omega)
  have g7 := g6.tr f7
  obtain ⟨Y8, e8, w8, f8⟩ := w_letter w7 (c := 47) (by decide) (by show _ + 2 + _ + 1 + _ < _; omega)
  have g8 := g7.tr f8
  obtain ⟨Y9, e9, w9, f9⟩ := w_num w8 (v := hal a x 0) (by omega) (by show _ + 2 + _ + 1 + _ + 1 + _ ≤ _; omega)
  have g9 := g8.tr f9
  refine ⟨Y9, fun kc fu => ?_, w9, g9⟩
  rw [f_X6_write_L67, if_neg (z_m1 (by omega)), m_shw hR (by omega) (by decide), Option.bind_some, e1, Option.bind_some, e2, Option.bind_some, m_endOf (g2.rm hR) hG hs, Option.bind_some, e3, Option.bind_some, e4, Option.bind_some, m_shw (g4.rm hR) (by omega) (by decide), Option.bind_some, e5, Option.bind_some, e6, Option.bind_some, m_shw (g6.rm hR) (by omega) (by decide), Option.bind_some, e7, Option.bind_some, e8, Option.bind_some, m_hal (g8.rm hR) (by omega) (by decide), Option.bind_some, e9, Option.bind_some, m_shw (g9.rm hR) (by omega) (by decide), Option.bind_some]
theorem wr_loop (h : zRB X 1 a) (hG : Gd a) {x d : Nat} (hx : x < a 1) (hd : d < 60) : ∀ (c i m : Nat) (t : Nat → Nat) (k : Nat) (Y : Nat → Nat → Int32) (fu fu2 : Nat), cnA a x d m ≤ c → i + cnA a x d m ≤ 30 → m ≤ 960 → c < fu → c < fu2 → RM (Y 1) a → wr t k Y → k + 22 * c ≤ 1100 →
    ∃ qs Y9, f_X5_write_L102 X (nI x) (nI d) fu (nI i) (enO (nxA a x d m)) = some (if (nxA a x d m).isSome = true ∧ 0 < i then zpS zT359 :: qs else qs) ∧ (∀ kc, f_X6_write_L67 kc (nI x) (nI d) fu2 Y (enO (nxA a x d m)) = kc Y9) ∧ wr (zcatT t k qs) (k + zlen qs) Y9 ∧ FW Y Y9 ∧ zlen qs ≤ 22 * c := by
  have h1 := hG.c1
  have h4 := hG.c4
  have nil : ∀ (f i : Nat), f_X5_write_L102 X (nI x) (nI d) (f + 1) (nI i) (-1 : Int32) = some [] := by
    intro f i
    rw [f_X5_write_L102]
    by_cases c : nI 30 ≤ nI i
    · rw [if_pos c]
    · rw [if_neg c, if_pos rfl]
  intro c
  induction c with
  | zero =>
    intro i m t k Y fu fu2 hc hi hm hf hf2 hR hw hk
    obtain ⟨f, rfl, -⟩ := fu_s hf
    obtain ⟨f2, rfl, -⟩ := fu_s hf2
    cases hz : nxA a x d m with
    | some z => have := cnA_lt hz; omega
    | none =>
      refine ⟨[], Y, nil f i, fun kc => ?_, hw, FW.rf Y, Nat.zero_le _⟩
      rw [f_X6_write_L67, if_pos (show enO none = (-1 : Int32) from rfl)]
  | succ c ih =>
    intro i m t k Y fu fu2 hc hi hm hf hf2 hR hw hk
    obtain ⟨f, rfl, hfa⟩ := fu_s hf
    obtain ⟨f2, rfl, hfb⟩ := fu_s hf2
    have hfa := hfa c rfl
    have hfb := hfb c rfl
    cases hz : nxA a x d m with
    | none =>
      refine ⟨[], Y, nil f i, fun kc => ?_, hw, FW.rf Y, Nat.zero_le _⟩
      rw [f_X6_write_L67, if_pos (show enO none = (-1 : Int32) from rfl)]
    | some s =>
      have hlt := cnA_lt hz
      obtain ⟨hin, hms⟩ := nxA_ok hz
      have hs := nxA_lt hz
      have hS := hG.2.2.2.2 s hs
      have hx0 : shw a s 0 = x := (inP_iff.mp hin).1
      have hsl := shP_len hG (s := s) hs hx
      have hsp := n_shP h hG hs
      rw [hx0] at hsp
      obtain ⟨Y9, e9, w9, g9⟩ := w_show (t := t) (k := k) hR hG (nI d) hs hx hw (by omega)
      have en1 : nI (shw a s 3) = nI (shw a s 3 + 1) - nI 1 := by rw [pk_sub (show 1 ≤ shw a s 3 + 1 by omega), Nat.add_sub_cancel]
      have hsa := n_showAfter h hG (ha := x) (d := d) (m := shw a s 3 + 1) (by omega) (by omega) (by omega) en1
      have hnx := m_nextShow (g9.rm hR) hG (ha := x) (d := d) (m := shw a s 3 + 1) (by omega) (by omega) (by omega) en1
      have cl : ∀ r, f_X5_write_L102 X (nI x) (nI d) f (nI (i + 1)) (enO (nxA a x d (shw a s 3 + 1))) = some r → f_X5_write_L102 X (nI x) (nI d) (f + 1) (nI i) (nI s) = some (if (some s).isSome = true ∧ 0 < i then zpS zT359 :: (shP a x s ++ r) else shP a x s ++ r) := by
        intro r hr
        rw [f_X5_write_L102, if_neg (nI_ge (by omega) (by decide)), if_neg (z_m1 (by omega)), hsp, Option.bind_some, n_shw h hG hs (by decide), hsa, Option.bind_some, nI_1, hr, Option.bind_some]
        by_cases c9 : 0 < i
        · rw [if_neg (fun q => by rw [show (0 : Int32) = nI 0 from rfl, nI_leI (by omega) (by decide)] at q; omega), if_pos ⟨rfl, c9⟩]
          rfl
        · rw [if_pos (by rw [show i = 0 by omega]; decide), if_neg (fun q => c9 q.2)]
          rfl
      show ∃ qs Y9, f_X5_write_L102 X (nI x) (nI d) (f + 1) (nI i) (nI s) = _ ∧ (∀ kc, f_X6_write_L67 kc (nI x) (nI d) (f2 + 1) Y (nI s) = _) ∧ _
      cases hz2 : nxA a x d (shw a s 3 + 1) with
      | none =>
        rw [hz2] at hnx cl
        obtain ⟨f', rfl, -⟩ := fu_s (m := 0) (fu := f) (by omega)
        refine ⟨shP a x s ++ [], Y9, cl [] (nil f' (i + 1)), fun kc => ?_, by rw [List.append_nil]; exact w9, g9, by rw [List.append_nil]; omega⟩
        rw [e9 kc f2, hnx, Option.bind_some, if_pos (show enO none = (-1 : Int32) from rfl)]
      | some s2 =>
        rw [hz2] at hnx
        have hs2 := nxA_lt hz2
        obtain ⟨Y10, e10, w10, g10⟩ := w_word w9 zch_359 (by decide) (by show _ + 2 ≤ _; omega)
        have g0 := g9.tr g10
        obtain ⟨qs, Y11, r1, r2, r3, r4, r5⟩ := ih (i + 1) (shw a s 3 + 1) _ _ Y10 f f2 (by omega) (by omega) (by omega) hfa hfb (g0.rm hR) w10 (by show _ + 2 + _ ≤ _; omega)
        rw [hz2] at r1 r2
        rw [if_pos ⟨rfl, Nat.succ_pos i⟩] at r1
        rw [hz2] at cl
        refine ⟨shP a x s ++ (zpS zT359 :: qs), Y11, cl _ r1, fun kc => ?_, ?_, g0.tr r4, ?_⟩
        · rw [e9 kc f2, hnx, Option.bind_some]
          show (if nI s2 = (-1 : Int32) then _ else _) = _
          rw [if_neg (z_m1 (by omega)), e10, Option.bind_some]
          exact r2 kc
        · rw [zcatT_app, zlen_app, zlen_cons, ← Nat.add_assoc, ← Nat.add_assoc]
          exact r3
        · rw [zlen_app, zlen_cons]
          have : (zpS zT359).1 = 2 := rfl
          omega
theorem wr_tail (h : zRB X 1 a) (hG : Gd a) {x d : Nat} (hx : x < a 1) (hd : d < 60) (hR : RM (Y 1) a) (hw : wr t k Y) (hk : k ≤ 8) : ∃ v3 r Y9, f_X3_showAfter X (nI x) (nI d) (-1 : Int32) = some v3 ∧ f_X5_write_L102 X (nI x) (nI d) zFuel (nI 0) v3 = some r ∧
    (∀ kc, ((f_X6_nextShow Y (nI x) (nI d) (-1 : Int32)).bind fun q => if q = (-1 : Int32) then (f_X6_writesWord zT357 Y).bind fun Z => f_X6_write_L67 kc (nI x) (nI d) zFuel Z q else f_X6_write_L67 kc (nI x) (nI d) zFuel Y q) = kc Y9) ∧
    wr (zcatT t k ((if v3 = (-1 : Int32) then [zpS zT357] else []) ++ r)) (k + zlen ((if v3 = (-1 : Int32) then [zpS zT357] else []) ++ r)) Y9 ∧ FW Y Y9 ∧ zlen ((if v3 = (-1 : Int32) then [zpS zT357] else []) ++ r) ≤ 664 := by
  have h1 := hG.c1
  have h4 := hG.c4
  have em : (-1 : Int32) = nI 0 - nI 1 := by decide
  have hc := cnA_le (a := a) x d 0
  cases hz : nxA a x d 0 with
  | none =>
    obtain ⟨Y1, e1, w1, g1⟩ := w_word hw zch_357 (by decide) (by show _ + 4 ≤ _; omega)
    obtain ⟨qs, Y9, r1, r2, r3, r4, r5⟩ := wr_loop h hG hx hd 30 0 0 _ _ Y1 zFuel zFuel (by omega) (by omega) (by omega) (by decide) (by decide) (g1.rm hR) w1 (by show _ + 4 + _ ≤ _; omega)
    rw [if_neg (fun q => absurd q.2 (by decide))] at r1
    rw [hz] at r1 r2
    refine ⟨_, qs, Y9, by rw [n_showAfter h hG (m := 0) (by omega) (by omega) (by decide) em, hz], r1, fun kc => ?_, ?_, g1.tr r4, ?_⟩
    · rw [m_nextShow hR hG (m := 0) (by omega) (by omega) (by decide) em, hz, Option.bind_some, if_pos (show enO none = (-1 : Int32) from rfl), e1, Option.bind_some]
      exact r2 kc
    · rw [if_pos (show enO none = (-1 : Int32) from rfl), List.singleton_append, zlen_cons, ← Nat.add_assoc]
      exact r3
    · rw [if_pos (show enO none = (-1 : Int32) from rfl), List.singleton_append, zlen_cons]
      have : (zpS zT357).1 = 4 := rfl
      omega
  | some s =>
    have hs := nxA_lt hz
    obtain ⟨qs, Y9, r1, r2, r3, r4, r5⟩ := wr_loop h hG hx hd 30 0 0 _ _ Y zFuel zFuel (by omega) (by omega) (by omega) (by decide) (by decide) hR hw (by omega)
    rw [if_neg (fun q => absurd q.2 (by decide))] at r1
    rw [hz] at r1 r2
    have hne : ¬ enO (some s) = (-1 : Int32) := z_m1 (by omega)
    refine ⟨_, qs, Y9, by rw [n_showAfter h hG (m := 0) (by omega) (by omega) (by decide) em, hz], r1, fun kc => ?_, ?_, r4, ?_⟩
    · rw [m_nextShow hR hG (m := 0) (by omega) (by omega) (by decide) em, hz, Option.bind_some, if_neg hne]
      exact r2 kc
    · rw [if_neg hne, List.nil_append]
      exact r3
    · rw [if_neg hne, List.nil_append]
      omega
theorem sim_write (h : zInv 0 X Y a) (v1 v2 : Int32) : ∃ (code : Nat) (ps : List zPc) (b : Int32) (Y' : Nat → Nat → Int32), f_X5_write X v1 v2 = some (code, ps) ∧ zlen ps ≤ 800 ∧ f_X6_write Y v1 v2 = some (b, Y') ∧ Y' 0 0 = nI (K31 code) ∧ (code ≠ 0 → Y' = zU Y 0 0 (nI (K31 code))) ∧
    (code = 0 → b = nI (zlen ps) ∧ zInv 0 X Y' a ∧ zTOut (zcatT (fun _ => 0) 0 ps) (zlen ps) Y' ∧ Y' 5 = Y 5 ∧ Y' 0 11 = Y 0 11) := by
  have hG := h.2.2.1.1
  unfold f_X5_write f_X6_write f_X6_fails f_X6_done
  simp only [zlet_eq]
  rcases hall_cases h.1 h.2.1 hG v1 with ⟨e1, e2⟩ | ⟨e1, e2, x, hx, rfl⟩
  · rw [e1, e2, if_pos nI_0, if_pos nI_0]
    exact ⟨3, [], _, _, rfl, Nat.zero_le _, rfl, zU_s _ _ _ _, fun _ => rfl, fun q => absurd q (by decide)⟩
  rw [e1, e2, if_neg nI_10, if_neg nI_10]
  rcases day_cases v2 with ⟨e1, e2⟩ | ⟨e1, e2, d, hd, rfl⟩
  · rw [e1, e2, if_pos nI_0, if_pos nI_0]
    exact ⟨1, [], _, _, rfl, Nat.zero_le _, rfl, zU_s _ _ _ _, fun _ => rfl, fun q => absurd q (by decide)⟩
  rw [e1, e2, if_neg nI_10, if_neg nI_10]
  obtain ⟨Z, hZ⟩ : ∃ Z, Z = zU Y 0 14 (nI 0) := ⟨_, rfl⟩
  rw [← hZ]
  have hFZ : FW Y Z := by
    rw [hZ]
    exact ⟨fun r q1 q2 => zU_r _ _ _ _ q1, fun j q => zU_k _ _ _ _ q⟩
  have hwZ : wr (fun _ => 0) 0 Z := by
    rw [hZ]
    exact ⟨zU_s _ _ _ _, fun j hj => absurd hj (Nat.not_lt_zero j)⟩
  have hRZ := hFZ.rm h.2.1
  rw [n_isClosed h.1 hG hx (by omega), m_isClosed hRZ hG hx (by omega), Option.bind_some]
  have fin : ∀ (ps : List zPc) (Y9 : Nat → Nat → Int32), FW Y Y9 → wr (zcatT (fun _ => 0) 0 ps) (zlen ps) Y9 → zlen ps ≤ 800 → (zU Y9 0 0 (nI 0)) 0 0 = nI (K31 0) ∧ ((0 : Nat) ≠ 0 → zU Y9 0 0 (nI 0) = zU Y 0 0 (nI (K31 0))) ∧ ((0 : Nat) = 0 → Y9 0 14 = nI (zlen ps) ∧ zInv 0 X (zU Y9 0 0 (nI 0)) a ∧ zTOut (zcatT (fun _ => 0) 0 ps) (zlen ps) (zU Y9 0 0 (nI 0)) ∧ zU Y9 0 0 (nI 0) 5 = Y 5 ∧ zU Y9 0 0 (nI 0) 0 11 = Y 0 11) := by
    intro ps Y9 hF hw hl
    refine ⟨zU_s _ _ _ _, fun q => absurd rfl q, fun _ => ⟨hw.1, ?_, ⟨hl, ?_, fun j hj => ?_⟩, ?_, ?_⟩⟩
    · refine h.yx ?_ ?_ ?_ (fun j hj => ?_)
      · rw [zU_r _ _ _ _ (by decide)]; exact hF.1 1 (by decide) (by decide)
      · rw [zU_r _ _ _ _ (by decide)]; exact hF.1 2 (by decide) (by decide)
      · rw [zU_r _ _ _ _ (by decide)]; exact hF.1 3 (by decide) (by decide)
      · rw [zU_k _ _ _ _ (by omega)]; exact hF.2 j (by omega)
    · rw [zU_k _ _ _ _ (by decide)]; exact hw.1
    · rw [zU_r _ _ _ _ (by decide)]; exact hw.2 j hj
    · rw [zU_r _ _ _ _ (by decide)]; exact hF.1 5 (by decide) (by decide)
    · rw [zU_k _ _ _ _ (by decide)]; exact hF.2 11 (by decide)
  by_cases cl : hal a x 3 ≠ 0 ∧ hal a x 3 ≤ d + 1
  · rw [if_pos cl, if_neg nI_10, if_neg nI_10]
    obtain ⟨Z1, z1, z2, z3⟩ := w_word hwZ zch_351 (by decide) (by decide)
    have hF1 := hFZ.tr z3
    obtain ⟨v3, r, Y9, q1, q2, q3, q4, q5, q6⟩ := wr_tail h.1 hG hx hd (z3.rm hRZ) z2 (by decide)
    rw [q1, Option.bind_some, q2, Option.bind_some, z1, Option.bind_some, q3]
    obtain ⟨p1, p2, p3⟩ := fin ([zpS zT351] ++ ((if v3 = (-1 : Int32) then [zpS zT357] else []) ++ r)) Y9 (hF1.tr q5) (by rw [List.singleton_append, zlen_cons]; rw [show (zpS zT351).1 = 0 + zT351.length from by decide]; exact q4) (by rw [List.singleton_append, zlen_cons]; have : (zpS zT351).1 = 8 := rfl; omega)
    exact ⟨0, _, _, _, rfl, by rw [List.singleton_append, zlen_cons]; have : (zpS zT351).1 = 8 := rfl; omega, rfl, p1, p2, p3⟩
  · rw [if_neg cl, if_pos nI_0, if_pos nI_0]
    obtain ⟨v3, r, Y9, q1, q2, q3, q4, q5, q6⟩ := wr_tail h.1 hG hx hd hRZ hwZ (by decide)
    rw [q1, Option.bind_some, q2, Option.bind_some, q3]
    rw [Nat.zero_add] at q4
    obtain ⟨p1, p2, p3⟩ := fin ([] ++ ((if v3 = (-1 : Int32) then [zpS zT357] else []) ++ r)) Y9 (hFZ.tr q5) (by rw [List.nil_append]; exact q4) (by rw [List.nil_append]; omega)
    exact ⟨0, _, _, _, rfl, by rw [List.nil_append]; omega, rfl, p1, p2, p3⟩
end WRS
