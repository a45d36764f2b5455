/-! THE CLASS'S write (laid by wip/whole/mkx5.py) -/
/-- pieces of a text: their lengths, their letters -/
abbrev zPc : Type := Nat × (Nat → Nat)
def zlen (ps : List zPc) : Nat := (ps.map Prod.fst).sum
def zcatT : (Nat → Nat) → Nat → List zPc → (Nat → Nat)
  | t, _, [] => t
  | t, k, (m, s) :: r => zcatT (sb_cat t k s) (k + m) r
def zcps : Nat → Nat → List zPc → Nat
  | n, _, [] => n
  | n, k, (m, _) :: r => zcps (zcp n (k + m)) (k + m) r
theorem zlen_app (a b : List zPc) : zlen (a ++ b) = zlen a + zlen b := by
  unfold zlen
  rw [List.map_append, List.sum_append]
theorem zlen_cons (p : zPc) (b : List zPc) : zlen (p :: b) = p.1 + zlen b := by
  unfold zlen
  rw [List.map_cons, List.sum_cons]
theorem zcatT_app : ∀ (a b : List zPc) (t : Nat → Nat) (k : Nat), zcatT t k (a ++ b) = zcatT (zcatT t k a) (k + zlen a) b
  | [], b, t, k => rfl
  | (m, s) :: a, b, t, k => by
    rw [List.cons_append, zcatT, zcatT, zcatT_app a b, zlen_cons, Nat.add_assoc]
theorem zcps_bd : ∀ (ps : List zPc) (n k : Nat), 16 ≤ n → n ≤ 1600 → k + zlen ps ≤ 800 → n ≤ zcps n k ps ∧ zcps n k ps ≤ 1600 ∧ (k ≤ n → k + zlen ps ≤ zcps n k ps)
  | [], n, k, h1, h2, h3 => ⟨Nat.le_refl _, h2, fun h => h⟩
  | (m, s) :: ps, n, k, h1, h2, h3 => by
    rw [zlen_cons] at h3 ⊢
    have h3' : k + m + zlen ps ≤ 800 := by have : (m, s).1 = m := rfl; omega
    have q := zstep (n := n) (m := k + m) h1 h2 (by omega)
    have ih := zcps_bd ps (zcp n (k + m)) (k + m) q.2.1 q.2.2.1 h3'
    rw [zcps]
    have e : (m, s).1 = m := rfl
    exact ⟨Nat.le_trans q.2.2.2.1 ih.1, ih.2.1, fun _ => by have := ih.2.2 q.1; omega⟩
abbrev zok (v : Int32) : Prop := ¬ v < 0 ∧ ¬ nI 10000 ≤ v
theorem zok_nI {v : Int32} (h : zok v) : v.toNatClampNeg < 10000 ∧ v = nI v.toNatClampNeg := by
  rcases pk_ix v (show 10000 < 2 ^ 31 by decide) with h1 | h1 | ⟨i, hi, rfl⟩
  · exact absurd h1 h.1
  · exact absurd h1 h.2
  · rw [nI_clamp (by omega)]
    exact ⟨hi, rfl⟩
def zpI (v : Int32) : zPc := (sb_dg v.toNatClampNeg, sb_dec v.toNatClampNeg)
def zpC (c : Nat) : zPc := (1, fun _ => c)
def zpS (ls : List Int32) : zPc := (ls.length, zu ls)
def zShw (X : Nat → Nat → Int32) (v : Int32) : Option (List zPc) :=
  if zok (f_X4_get X 8 360 v (nI 3)) ∧ zok (f_X4_get X 8 360 v (nI 4)) ∧ zok (f_X4_get X 8 360 v (nI 1)) ∧ zok (f_X4_get X 8 360 v (nI 5)) ∧ zok (f_X3_seatsOf X v) then
    some [zpI (f_X4_get X 8 360 v (nI 3)), zpC 45, zpI (f_X4_get X 8 360 v (nI 4)), zpS zT449, zpI (f_X4_get X 8 360 v (nI 1)), zpC 32, zpI (f_X4_get X 8 360 v (nI 5)), zpC 47, zpI (f_X3_seatsOf X v)] else none
theorem c_show (l : Launch) (D : va_G) (cy : Nat → ClassId) (ad : Nat → Nat) (E : va_W) (X : Nat → Nat → Int32) (vS : Int32) (v n k : Nat) (z : Int32) (f : Nat → Int32) (t : Nat → Nat) (hL0 : sb_Lat t k f) (hf0 : sb_Fit f) (hkn0 : k ≤ n) (h16 : 16 ≤ n) (hb : n ≤ 1600) {ps : List zPc} (h : zShw X vS = some ps) (hk9 : k + zlen ps ≤ 800) : zMt l yX5_appendShow cX5_appendShow 2 none (zrt 8 (zcps n k ps / 8 - n / 8) (2 * zcps n k ps - 2 * n)) D (zTy cy) zE5 (zW cy ad shC (tB cy (ad 153) v n z k f ++ E) X) [.ref (ad 0), .int vS] (zcps n k ps / 8 - n / 8) (2 * zcps n k ps - 2 * n) (tV D (zTy cy) (fun w => ∃ v2 f2, w = zW cy ad shC (tB cy (ad 153) v2 (zcps n k ps) z (k + zlen ps) f2 ++ E) X ∧ sb_Lat (zcatT t k ps) (k + zlen ps) f2 ∧ sb_Fit f2)) := by
  unfold zShw at h
  by_cases c : zok (f_X4_get X 8 360 vS (nI 3)) ∧ zok (f_X4_get X 8 360 vS (nI 4)) ∧ zok (f_X4_get X 8 360 vS (nI 1)) ∧ zok (f_X4_get X 8 360 vS (nI 5)) ∧ zok (f_X3_seatsOf X vS)
  · rw [if_pos c] at h
    obtain rfl := Option.some.inj h
    obtain ⟨c3, c4, c1, c5, c9⟩ := c
    obtain ⟨x3, y3⟩ := zok_nI c3
    obtain ⟨x4, y4⟩ := zok_nI c4
    obtain ⟨x1, y1⟩ := zok_nI c1
    obtain ⟨x5, y5⟩ := zok_nI c5
    obtain ⟨x9, y9⟩ := zok_nI c9
    have el : k + zlen [zpI (f_X4_get X 8 360 vS (nI 3)), zpC 45, zpI (f_X4_get X 8 360 vS (nI 4)), zpS zT449, zpI (f_X4_get X 8 360 vS (nI 1)), zpC 32, zpI (f_X4_get X 8 360 vS (nI 5)), zpC 47, zpI (f_X3_seatsOf X vS)] = k + sb_dg (f_X4_get X 8 360 vS (nI 3)).toNatClampNeg + 1 + sb_dg (f_X4_get X 8 360 vS (nI 4)).toNatClampNeg + 2 + sb_dg (f_X4_get X 8 360 vS (nI 1)).toNatClampNeg + 1 + sb_dg (f_X4_get X 8 360 vS (nI 5)).toNatClampNeg + 1 + sb_dg (f_X3_seatsOf X vS).toNatClampNeg := by
      simp only [zlen, zpI, zpC, zpS, List.map_cons, List.map_nil, List.sum_cons, List.sum_nil, List.length_cons, List.length_nil]
      omega
    rw [el] at hk9 ⊢
    exact c_X5_appendShow l D cy ad E X vS v n k z f t hL0 hf0 hkn0 h16 hb _ _ _ _ _ x3 y3 x4 y4 x1 y1 x5 y5 x9 y9 _ _ _ _ _ _ _ _ _ _ _ _ _ _ _ _ _ _ rfl rfl rfl rfl rfl rfl rfl rfl rfl rfl rfl rfl rfl rfl rfl rfl rfl rfl hk9
  · rw [if_neg c] at h
    exact absurd h (by simp)
def f_X5_write_L102 (X : Nat → Nat → Int32) (v1 v2 : Int32) : Nat → Int32 → Int32 → Option (List zPc)
  | 0, _, _ => none
  | fu + 1, v4, v3 => if nI 30 ≤ v4 then some [] else if v3 = (-1 : Int32) then some [] else (zShw X v3).bind fun ps => (f_X3_showAfter X v1 v2 (f_X4_get X 8 360 v3 (nI 3))).bind fun v9 => (f_X5_write_L102 X v1 v2 fu (v4 + 1) v9).bind fun r => some ((if v4 ≤ 0 then [] else [zpS zT359]) ++ (ps ++ r))
def f_X5_write (X : Nat → Nat → Int32) (v1 v2 : Int32) : Option (Nat × List zPc) :=
  if f_X4_isRow X 2 24 v1 = 0 then some (3, []) else if f_X5_isDay v2 = 0 then some (1, []) else (f_X3_showAfter X v1 v2 (-1 : Int32)).bind fun v3 => (f_X5_write_L102 X v1 v2 zFuel (nI 0) v3).bind fun r => some (0, (if f_X3_isClosed X v1 v2 = 0 then [] else [zpS zT351]) ++ ((if v3 = (-1 : Int32) then [zpS zT357] else []) ++ r))
/-- what stands in the builder: the text t of k letters -/
def zBd (cy : Nat → ClassId) (ad : Nat → Nat) (E : va_W) (X : Nat → Nat → Int32) (t : Nat → Nat) (k : Nat) (w : va_W) : Prop := ∃ v n z f, w = zW cy ad shC (tB cy (ad 153) v n z k f ++ E) X ∧ sb_Lat t k f ∧ sb_Fit f ∧ k ≤ n ∧ 16 ≤ n ∧ n ≤ 1600
set_option maxRecDepth 100000 in
set_option maxHeartbeats 8000000 in
theorem w_X5_write_end {p : Program} {e : Env} {s : State} {m : MethodId} {args : Array Value} {below : List Frame} {meth : Method} {c : Code} {A : Nat → Prop} (l : Launch) (D : va_G) (cy : Nat → ClassId) (ad : Nat → Nat) (E : va_W) (X : Nat → Nat → Int32) (v1 v2 : Int32) (code : Nat) (hco : code = 0) (T : Nat → Nat) (K : Nat) (W0 : va_W) (C : zC p s m args meth c cX5_write 5 RX5 D (zTy cy) A) (hE : zE5 A s s.heap) (hr : meth.sig.returnType = (some .int)) (v3 v4 : Int32) (v n k : Nat) (z : Int32) (f : Nat → Int32) (hL : sb_Lat T K f) (hf : sb_Fit f) (hkn : K ≤ n) (h16 : 16 ≤ n) (hb : n ≤ 1600) : zG p l e (zrmy 14 200 3200) s m args below meth c 5 D A (n / 8) (2 * n) (zQy below args s (fun r w => code = 0 ∧ r = nI K ∧ zBd cy ad E X T K w) (fun c w => c = code ∧ code ≠ 0 ∧ w = W0) D (zTy cy) A 200 3200) (zW cy ad shC (tB cy (ad 153) v n z K f ++ E) X) 163 [(4, .int v4), (3, .int v3), (0, .ref (ad 0)), (1, .int v1), (2, .int v2)] [] := by
  refine g_aload_n (j := 2) C dX5_write_163 rfl rfl ?_
  refine g_getr (k := 6) (N := 11) C sC_0 rfl zin_RX5 (by decide) rfl zfl_RX5_47 rfl dX5_write_164 ?_
  refine zG.less (ws' := (tB cy (ad 153) v n z K f ++ (z_rend cy ad X 0 shC ++ E))) (l' := (zW cy ad shC (tB cy (ad 153) v n z K f ++ E) X)) (zpT _ _ _) (List.Sublist.refl _) ?_
  refine t_Vi (As := []) (rest := []) zEn_ge hE.1.1 C (c_length l D cy (z_rend cy ad X 0 shC ++ E) (ad 153) v n K z f) zml_RX5_364 zcv_J4_length_8abf5 (zRec.of C (ci := 1) (q0 := 0) rfl rfl) rfl rfl ⟨Nat.le_of_ble_eq_true rfl, Nat.le_of_ble_eq_true rfl⟩ rfl rfl (Nat.le_of_ble_eq_true rfl) ⟨by show n / 8 + 0 ≤ 200; omega, by show 2 * n + 0 ≤ 3200; omega⟩ dX5_write_167 ?_
  intro r w h9
  obtain ⟨rfl, rfl⟩ := h9
  refine zG.less (ws' := (zW cy ad shC (tB cy (ad 153) v n z K f ++ E) X)) (l' := (tB cy (ad 153) v n z K f ++ (z_rend cy ad X 0 shC ++ E))) (zpT _ _ _).symm (List.Sublist.refl _) ?_
  exact y_xret C hr rfl ⟨hco, rfl, v, n, z, f, rfl, hL, hf, hkn, h16, hb⟩ (by show n / 8 + 0 ≤ 200; omega) (by show 2 * n + 0 ≤ 3200; omega) dX5_write_170
set_option maxRecDepth 100000 in
set_option maxHeartbeats 8000000 in
theorem w_X5_write_130 {p : Program} {e : Env} {s : State} {m : MethodId} {args : Array Value} {below : List Frame} {meth : Method} {c : Code} {A : Nat → Prop} (l : Launch) (D : va_G) (cy : Nat → ClassId) (ad : Nat → Nat) (E : va_W) (X : Nat → Nat → Int32) (v1 v2 : Int32) (code : Nat) (hco : code = 0) (T : Nat → Nat) (K : Nat) (W0 : va_W) (C : zC p s m args meth c cX5_write 5 RX5 D (zTy cy) A) (hE : zE5 A s s.heap) (hr : meth.sig.returnType = (some .int)) {fu : Nat} (ih : ∀ (v4 v3 : Int32) (v n k : Nat) (z : Int32) (f : Nat → Int32) (t : Nat → Nat) (ps : List zPc), f_X5_write_L102 X v1 v2 fu v4 v3 = some ps → sb_Lat t k f → sb_Fit f → k ≤ n → 16 ≤ n → n ≤ 1600 → k + zlen ps = K → K ≤ 800 → zcatT t k ps = T → zG p l e (zrmy 14 200 3200) s m args below meth c 5 D A (n / 8) (2 * n) (zQy below args s (fun r w => code = 0 ∧ r = nI K ∧ zBd cy ad E X T K w) (fun c w => c = code ∧ code ≠ 0 ∧ w = W0) D (zTy cy) A 200 3200) (zW cy ad shC (tB cy (ad 153) v n z k f ++ E) X) 102 [(4, .int v4), (3, .int v3), (0, .ref (ad 0)), (1, .int v1), (2, .int v2)] []) (v3 v4 : Int32) (v n k : Nat) (z : Int32) (f : Nat → Int32) (t : Nat → Nat) (hL : sb_Lat t k f) (hf : sb_Fit f) (hkn : k ≤ n) (h16 : 16 ≤ n) (hb : n ≤ 1600) {ps r : List zPc} {v9 : Int32} (hps : zShw X v3 = some ps) (hv9 : f_X3_showAfter X v1 v2 (f_X4_get X 8 360 v3 (nI 3)) = some v9) (hr9 : f_X5_write_L102 X v1 v2 fu (v4 + 1) v9 = some r) (hK : k + zlen (ps ++ r) = K) (hK8 : K ≤ 800) (hT : zcatT t k (ps ++ r) = T) : zG p l e (zrmy 14 200 3200) s m args below meth c 5 D A (n / 8) (2 * n) (zQy below args s (fun r w => code = 0 ∧ r = nI K ∧ zBd cy ad E X T K w) (fun c w => c = code ∧ code ≠ 0 ∧ w = W0) D (zTy cy) A 200 3200) (zW cy ad shC (tB cy (ad 153) v n z k f ++ E) X) 130 [(4, .int v4), (3, .int v3), (0, .ref (ad 0)), (1, .int v1), (2, .int v2)] [] := by
  rw [zlen_app] at hK
  rw [zcatT_app] at hT
  have hbd := zcps_bd ps n k h16 hb (by omega)
  refine g_aload_n (j := 2) C dX5_write_130 rfl rfl ?_
  refine g_iload_n (j := 1) C dX5_write_131 rfl rfl ?_
  refine t_Vv (As := [.int v3]) (rest := []) zE5_ge hE C (c_show l D cy ad E X v3 v n k z f t hL hf hkn h16 hb hps (by omega)) zml_RX5_361 zcv_X5_appendShow (zRec.of C rfl (zW_get X sC_0)) rfl rfl ⟨Nat.le_of_ble_eq_true rfl, Nat.le_of_ble_eq_true rfl⟩ rfl rfl (Nat.le_of_ble_eq_true rfl) ⟨by show n / 8 + (zcps n k ps / 8 - n / 8) ≤ 200; omega, by show 2 * n + (2 * zcps n k ps - 2 * n) ≤ 3200; omega⟩ dX5_write_132 ?_
  intro w h9
  obtain ⟨v8, f8, rfl, hL8, hf8⟩ := h9
  refine zG.wide (k := zcps n k ps / 8) (n := 2 * zcps n k ps) (by show n / 8 + (zcps n k ps / 8 - n / 8) ≤ _; omega) (by show 2 * n + (2 * zcps n k ps - 2 * n) ≤ _; omega) ?_
  refine g_aload_n (j := 2) C dX5_write_135 rfl rfl ?_
  refine g_getr (k := 0) (N := 11) C sC_0 rfl zin_RX5 (by decide) rfl zfl_RX5_10 rfl dX5_write_136 ?_
  refine g_iload_n (j := 3) C dX5_write_139 rfl rfl ?_
  refine g_iload_n (j := 4) C dX5_write_140 rfl rfl ?_
  refine g_aload_n (j := 2) C dX5_write_141 rfl rfl ?_
  refine g_getr (k := 0) (N := 11) C sC_0 rfl zin_RX5 (by decide) rfl zfl_RX5_10 rfl dX5_write_142 ?_
  refine g_getr (k := 3) (N := 8) C sC_1 rfl zin_RX3 (by decide) rfl zfl_RX5_210 rfl dX5_write_145 ?_
  refine g_iload_n (j := 1) C dX5_write_148 rfl rfl ?_
  refine g_iconst (v := (nI 3)) C dX5_write_149 (by decide) ?_
  refine g_vi (ws' := (zW cy ad shC (tB cy (ad 153) v8 (zcps n k ps) z (k + zlen ps) f8 ++ E) X)) (As := [.int v3, .int (nI 3)]) (rest := [.int v2, .int v1, .ref (ad 1)]) (res := (f_X4_get X 8 360 v3 (nI 3))) C (c_X4_get l D cy ad (tB cy (ad 153) v8 (zcps n k ps) z (k + zlen ps) f8 ++ E) X 8 360 sC_8 sC_9 (by decide) v3 (nI 3)) zml_RX5_126 zcv_X4_get (zW_get _ sC_8) rfl rfl rfl ⟨Nat.le_of_ble_eq_true rfl, Nat.le_of_ble_eq_true rfl⟩ rfl rfl (Nat.le_of_ble_eq_true rfl) ⟨by show zcps n k ps / 8 + 0 ≤ 200; omega, by show 2 * zcps n k ps + 0 ≤ 3200; omega⟩ dX5_write_150 ?_
  refine g_vi (ws' := (zW cy ad shC (tB cy (ad 153) v8 (zcps n k ps) z (k + zlen ps) f8 ++ E) X)) (As := [.int v1, .int v2, .int (f_X4_get X 8 360 v3 (nI 3))]) (rest := []) (res := v9) C (c_X3_showAfter l D cy ad (tB cy (ad 153) v8 (zcps n k ps) z (k + zlen ps) f8 ++ E) X v1 v2 (f_X4_get X 8 360 v3 (nI 3)) hv9) zml_RX5_302 zcv_X3_showAfter (zW_get _ sC_1) rfl rfl rfl ⟨Nat.le_of_ble_eq_true rfl, Nat.le_of_ble_eq_true rfl⟩ rfl rfl (Nat.le_of_ble_eq_true rfl) ⟨by show zcps n k ps / 8 + 0 + 0 ≤ 200; omega, by show 2 * zcps n k ps + 0 + 0 ≤ 3200; omega⟩ dX5_write_153 ?_
  refine g_istore_n (L' := [(3, .int v9), (4, .int v4), (0, .ref (ad 0)), (1, .int v1), (2, .int v2)]) C dX5_write_156 rfl (by decide) rfl ?_
  refine g_iinc (k := 1) (L' := [(4, .int (v4 + 1)), (3, .int v9), (0, .ref (ad 0)), (1, .int v1), (2, .int v2)]) C dX5_write_157 rfl (z_iinc (by decide)) (by decide) rfl ?_
  refine g_goto C dX5_write_160 (tgt := 102) (by decide) ?_
  exact ih (v4 + 1) v9 v8 (zcps n k ps) (k + zlen ps) z f8 _ r hr9 hL8 hf8 (hbd.2.2 hkn) (by omega) hbd.2.1 (by omega) hK8 hT
set_option maxRecDepth 100000 in
set_option maxHeartbeats 8000000 in
theorem w_X5_write_L102 {p : Program} {e : Env} {s : State} {m : MethodId} {args : Array Value} {below : List Frame} {meth : Method} {c : Code} {A : Nat → Prop} (l : Launch) (D : va_G) (cy : Nat → ClassId) (ad : Nat → Nat) (E : va_W) (X : Nat → Nat → Int32) (v1 v2 : Int32) (code : Nat) (hco : code = 0) (T : Nat → Nat) (K : Nat) (W0 : va_W) (C : zC p s m args meth c cX5_write 5 RX5 D (zTy cy) A) (hE : zE5 A s s.heap) (hr : meth.sig.returnType = (some .int)) : ∀ (fu : Nat) (v4 v3 : Int32) (v n k : Nat) (z : Int32) (f : Nat → Int32) (t : Nat → Nat) (ps : List zPc), f_X5_write_L102 X v1 v2 fu v4 v3 = some ps → sb_Lat t k f → sb_Fit f → k ≤ n → 16 ≤ n → n ≤ 1600 → k + zlen ps = K → K ≤ 800 → zcatT t k ps = T → zG p l e (zrmy 14 200 3200) s m args below meth c 5 D A (n / 8) (2 * n) (zQy below args s (fun r w => code = 0 ∧ r = nI K ∧ zBd cy ad E X T K w) (fun c w => c = code ∧ code ≠ 0 ∧ w = W0) D (zTy cy) A 200 3200) (zW cy ad shC (tB cy (ad 153) v n z k f ++ E) X) 102 [(4, .int v4), (3, .int v3), (0, .ref (ad 0)), (1, .int v1), (2, .int v2)] [] := by
  intro fu
  induction fu with
  | zero => intro v4 v3 v n k z f t ps h; simp [f_X5_write_L102] at h
  | succ fu ih =>
    intro v4 v3 v n k z f t ps h hL hf hkn h16 hb hK hK8 hT
    rw [f_X5_write_L102] at h
    refine g_iload (j := 0) C dX5_write_102 rfl ?_
    refine g_bipush (v := (nI 30)) C dX5_write_104 (by decide) ?_
    refine g_icmp_ge C dX5_write_106 (tgt := 163) (by decide) (fun h1 => ?_) (fun h1 => ?_)
    · replace h := (if_pos h1).symm.trans h
      obtain rfl := Option.some.inj h
      have hk9 : k = K := by have : zlen [] = 0 := rfl; omega
      subst hk9
      have hT9 : t = T := hT
      subst hT9
      exact w_X5_write_end l D cy ad E X v1 v2 code hco t k W0 C hE hr v3 v4 v n 0 z f hL hf hkn h16 hb
    · replace h := (if_neg h1).symm.trans h
      refine g_iload_n (j := 1) C dX5_write_109 rfl rfl ?_
      refine g_iconst (v := (-1 : Int32)) C dX5_write_110 (by decide) ?_
      refine g_icmp_eq C dX5_write_111 (tgt := 163) (by decide) (fun h2 => ?_) (fun h2 => ?_)
      · replace h := (if_pos h2).symm.trans h
        obtain rfl := Option.some.inj h
        have hk9 : k = K := by have : zlen [] = 0 := rfl; omega
        subst hk9
        have hT9 : t = T := hT
        subst hT9
        exact w_X5_write_end l D cy ad E X v1 v2 code hco t k W0 C hE hr v3 v4 v n 0 z f hL hf hkn h16 hb
      · replace h := (if_neg h2).symm.trans h
        obtain ⟨p9, hps, h⟩ := bind_isome h
        obtain ⟨v9, hv9, h⟩ := bind_isome h
        obtain ⟨r, hr9, h⟩ := bind_isome h
        obtain rfl := Option.some.inj h
        refine g_iload (j := 0) C dX5_write_114 rfl ?_
        refine g_if_le C dX5_write_116 (tgt := 130) (by decide) (fun h3 => ?_) (fun h3 => ?_)
        · rw [if_pos h3, List.nil_append] at hK hT
          exact w_X5_write_130 l D cy ad E X v1 v2 code hco T K W0 C hE hr ih v3 v4 v n k z f t hL hf hkn h16 hb hps hv9 hr9 hK hK8 hT
        · rw [if_neg h3, List.singleton_append] at hK hT
          rw [zlen_cons] at hK
          obtain ⟨aS, hS1, hS2⟩ := hE.2.2.2.1.2.2.1
          have e9 : (zpS zT359).1 = zT359.length := rfl
          have q9 := zstep (n := n) (m := k + zT359.length) h16 hb (by omega)
          refine g_aload_n (j := 2) C dX5_write_119 rfl rfl ?_
          refine g_getr (k := 6) (N := 11) C sC_0 rfl zin_RX5 (by decide) rfl zfl_RX5_47 rfl dX5_write_120 ?_
          refine p_ldcSW C hS1 dX5_write_123 ?_
          refine zG.less (ws' := (tB cy (ad 153) v n z k f ++ (z_rend cy ad X 0 shC ++ E))) (l' := (zW cy ad shC (tB cy (ad 153) v n z k f ++ E) X)) (zpT _ _ _) (List.Sublist.refl _) ?_
          refine t_Vr (As := [.ref aS]) (rest := []) (zES_ge _ _) ⟨hE.1.1, hS2⟩ C (d_appS l D cy (z_rend cy ad X 0 shC ++ E) (ad 153) v n k z f aS zT359 (by decide) zu_359.2 (zu zT359) zu_359.1 t hL hf hkn (by omega) (k + zT359.length) (zcp n (k + zT359.length)) rfl rfl) zml_RX5_353 zcv_J4_append_15ec4 (zRec.of C (ci := 1) (q0 := 0) rfl rfl) rfl rfl ⟨Nat.le_of_ble_eq_true rfl, Nat.le_of_ble_eq_true rfl⟩ rfl rfl (Nat.le_of_ble_eq_true rfl) ⟨by show n / 8 + zmc n (k + zT359.length) ≤ 200; omega, by show 2 * n + zms n (k + zT359.length) ≤ 3200; omega⟩ dX5_write_126 ?_
          intro r w h9
          obtain ⟨rfl, v8, f8, rfl, hL8, hf8⟩ := h9
          refine zG.less (ws' := (zW cy ad shC (tB cy (ad 153) v8 (zcp n (k + zT359.length)) z (k + zT359.length) f8 ++ E) X)) (l' := (tB cy (ad 153) v8 (zcp n (k + zT359.length)) z (k + zT359.length) f8 ++ (z_rend cy ad X 0 shC ++ E))) (zpT _ _ _).symm (List.Sublist.refl _) ?_
          refine zG.wide (k := zcp n (k + zT359.length) / 8) (n := 2 * zcp n (k + zT359.length)) (by show n / 8 + zmc n (k + zT359.length) ≤ _; omega) (by show 2 * n + zms n (k + zT359.length) ≤ _; omega) ?_
          refine g_pop C dX5_write_129 rfl ?_
          exact w_X5_write_130 l D cy ad E X v1 v2 code hco T K W0 C hE hr ih v3 v4 v8 _ _ z f8 _ hL8 hf8 q9.1 q9.2.1 q9.2.2.1 hps hv9 hr9 (by omega) hK8 hT
set_option maxRecDepth 100000 in
set_option maxHeartbeats 8000000 in
theorem w_X5_write_99 {p : Program} {e : Env} {s : State} {m : MethodId} {args : Array Value} {below : List Frame} {meth : Method} {c : Code} {A : Nat → Prop} (l : Launch) (D : va_G) (cy : Nat → ClassId) (ad : Nat → Nat) (E : va_W) (X : Nat → Nat → Int32) (v1 v2 : Int32) (code : Nat) (hco : code = 0) (T : Nat → Nat) (K : Nat) (W0 : va_W) (C : zC p s m args meth c cX5_write 5 RX5 D (zTy cy) A) (hE : zE5 A s s.heap) (hr : meth.sig.returnType = (some .int)) (v3 : Int32) (r : List zPc) (hr9 : f_X5_write_L102 X v1 v2 zFuel (nI 0) v3 = some r) (hK8 : K ≤ 800) : ∀ (v n k : Nat) (z : Int32) (f : Nat → Int32) (t : Nat → Nat), sb_Lat t k f → sb_Fit f → k ≤ n → 16 ≤ n → n ≤ 1600 →  k + zlen r = K → zcatT t k r = T → zG p l e (zrmy 14 200 3200) s m args below meth c 5 D A (n / 8) (2 * n) (zQy below args s (fun r w => code = 0 ∧ r = nI K ∧ zBd cy ad E X T K w) (fun c w => c = code ∧ code ≠ 0 ∧ w = W0) D (zTy cy) A 200 3200) (zW cy ad shC (tB cy (ad 153) v n z k f ++ E) X) 99 [(3, .int v3), (0, .ref (ad 0)), (1, .int v1), (2, .int v2)] [] := by
  intro v n k z f t hL hf hkn h16 hb hK hT
  refine g_iconst (v := (nI 0)) C dX5_write_99 (by decide) ?_
  refine g_istore (L' := [(4, .int (nI 0)), (3, .int v3), (0, .ref (ad 0)), (1, .int v1), (2, .int v2)]) C dX5_write_100 (by decide) rfl ?_
  exact w_X5_write_L102 l D cy ad E X v1 v2 code hco T K W0 C hE hr zFuel (nI 0) v3 v n k z f t r hr9 hL hf hkn h16 hb hK hK8 hT
set_option maxRecDepth 100000 in
set_option maxHeartbeats 8000000 in
theorem w_X5_write_72 {p : Program} {e : Env} {s : State} {m : MethodId} {args : Array Value} {below : List Frame} {meth : Method} {c : Code} {A : Nat → Prop} (l : Launch) (D : va_G) (cy : Nat → ClassId) (ad : Nat → Nat) (E : va_W) (X : Nat → Nat → Int32) (v1 v2 : Int32) (code : Nat) (hco : code = 0) (T : Nat → Nat) (K : Nat) (W0 : va_W) (C : zC p s m args meth c cX5_write 5 RX5 D (zTy cy) A) (hE : zE5 A s s.heap) (hr : meth.sig.returnType = (some .int)) (v3 : Int32) (hv3 : f_X3_showAfter X v1 v2 (-1 : Int32) = some v3) (r : List zPc) (hr9 : f_X5_write_L102 X v1 v2 zFuel (nI 0) v3 = some r) (hK8 : K ≤ 800) : ∀ (v n k : Nat) (z : Int32) (f : Nat → Int32) (t : Nat → Nat), sb_Lat t k f → sb_Fit f → k ≤ n → 16 ≤ n → n ≤ 1600 →  k + zlen ((if v3 = (-1 : Int32) then [zpS zT357] else []) ++ r) = K → zcatT t k ((if v3 = (-1 : Int32) then [zpS zT357] else []) ++ r) = T → zG p l e (zrmy 14 200 3200) s m args below meth c 5 D A (n / 8) (2 * n) (zQy below args s (fun r w => code = 0 ∧ r = nI K ∧ zBd cy ad E X T K w) (fun c w => c = code ∧ code ≠ 0 ∧ w = W0) D (zTy cy) A 200 3200) (zW cy ad shC (tB cy (ad 153) v n z k f ++ E) X) 72 [(0, .ref (ad 0)), (1, .int v1), (2, .int v2)] [] := by
  intro v n k z f t hL hf hkn h16 hb hK hT
  refine g_aload_n (j := 0) C dX5_write_72 rfl rfl ?_
  refine g_getr (k := 0) (N := 11) C sC_0 rfl zin_RX5 (by decide) rfl zfl_RX5_10 rfl dX5_write_73 ?_
  refine g_iload_n (j := 1) C dX5_write_76 rfl rfl ?_
  refine g_iload_n (j := 2) C dX5_write_77 rfl rfl ?_
  refine g_iconst (v := (-1 : Int32)) C dX5_write_78 (by decide) ?_
  refine g_vi (ws' := (zW cy ad shC (tB cy (ad 153) v n z k f ++ E) X)) (As := [.int v1, .int v2, .int (-1 : Int32)]) (rest := []) (res := v3) C (c_X3_showAfter l D cy ad (tB cy (ad 153) v n z k f ++ E) X v1 v2 (-1 : Int32) hv3) zml_RX5_302 zcv_X3_showAfter (zW_get _ sC_1) rfl rfl rfl ⟨Nat.le_of_ble_eq_true rfl, Nat.le_of_ble_eq_true rfl⟩ rfl rfl (Nat.le_of_ble_eq_true rfl) ⟨by show n / 8 + 0 ≤ 200; omega, by show 2 * n + 0 ≤ 3200; omega⟩ dX5_write_79 ?_
  refine g_istore_n (L' := [(3, .int v3), (0, .ref (ad 0)), (1, .int v1), (2, .int v2)]) C dX5_write_82 rfl (by decide) rfl ?_
  refine g_iload_n (j := 0) C dX5_write_83 rfl rfl ?_
  refine g_iconst (v := (-1 : Int32)) C dX5_write_84 (by decide) ?_
  refine g_icmp_ne C dX5_write_85 (tgt := 99) (by decide) (fun h2 => ?_) (fun h2 => ?_)
  · rw [if_neg h2, List.nil_append] at hK hT
    exact w_X5_write_99 l D cy ad E X v1 v2 code hco T K W0 C hE hr v3 r hr9 hK8 v n k z f t hL hf hkn h16 hb hK hT
  · rw [if_pos h2, List.singleton_append] at hK hT
    rw [zlen_cons] at hK
    obtain ⟨aS, hS1, hS2⟩ := hE.2.2.2.1.2.1
    have e9 : (zpS zT357).1 = zT357.length := rfl
    have q9 := zstep (n := n) (m := k + zT357.length) h16 hb (by omega)
    refine g_aload_n (j := 1) C dX5_write_88 rfl rfl ?_
    refine g_getr (k := 6) (N := 11) C sC_0 rfl zin_RX5 (by decide) rfl zfl_RX5_47 rfl dX5_write_89 ?_
    refine p_ldcSW C hS1 dX5_write_92 ?_
    refine zG.less (ws' := (tB cy (ad 153) v n z k f ++ (z_rend cy ad X 0 shC ++ E))) (l' := (zW cy ad shC (tB cy (ad 153) v n z k f ++ E) X)) (zpT _ _ _) (List.Sublist.refl _) ?_
    refine t_Vr (As := [.ref aS]) (rest := []) (zES_ge _ _) ⟨hE.1.1, hS2⟩ C (d_appS l D cy (z_rend cy ad X 0 shC ++ E) (ad 153) v n k z f aS zT357 (by decide) zu_357.2 (zu zT357) zu_357.1 t hL hf hkn (by omega) (k + zT357.length) (zcp n (k + zT357.length)) rfl rfl) zml_RX5_353 zcv_J4_append_15ec4 (zRec.of C (ci := 1) (q0 := 0) rfl rfl) rfl rfl ⟨Nat.le_of_ble_eq_true rfl, Nat.le_of_ble_eq_true rfl⟩ rfl rfl (Nat.le_of_ble_eq_true rfl) ⟨by show n / 8 + zmc n (k + zT357.length) ≤ 200; omega, by show 2 * n + zms n (k + zT357.length) ≤ 3200; omega⟩ dX5_write_95 ?_
    intro r w h9
    obtain ⟨rfl, v8, f8, rfl, hL8, hf8⟩ := h9
    refine zG.less (ws' := (zW cy ad shC (tB cy (ad 153) v8 (zcp n (k + zT357.length)) z (k + zT357.length) f8 ++ E) X)) (l' := (tB cy (ad 153) v8 (zcp n (k + zT357.length)) z (k + zT357.length) f8 ++ (z_rend cy ad X 0 shC ++ E))) (zpT _ _ _).symm (List.Sublist.refl _) ?_
    refine zG.wide (k := zcp n (k + zT357.length) / 8) (n := 2 * zcp n (k + zT357.length)) (by show n / 8 + zmc n (k + zT357.length) ≤ _; omega) (by show 2 * n + zms n (k + zT357.length) ≤ _; omega) ?_
    refine g_pop C dX5_write_98 rfl ?_
    exact w_X5_write_99 l D cy ad E X v1 v2 code hco T K W0 C hE hr v3 r hr9 hK8 v8 _ _ z f8 _ hL8 hf8 q9.1 q9.2.1 q9.2.2.1 (by omega) hT
set_option maxRecDepth 100000 in
set_option maxHeartbeats 8000000 in
theorem w_X5_write_49 {p : Program} {e : Env} {s : State} {m : MethodId} {args : Array Value} {below : List Frame} {meth : Method} {c : Code} {A : Nat → Prop} (l : Launch) (D : va_G) (cy : Nat → ClassId) (ad : Nat → Nat) (E : va_W) (X : Nat → Nat → Int32) (v1 v2 : Int32) (code : Nat) (hco : code = 0) (T : Nat → Nat) (K : Nat) (W0 : va_W) (C : zC p s m args meth c cX5_write 5 RX5 D (zTy cy) A) (hE : zE5 A s s.heap) (hr : meth.sig.returnType = (some .int)) (v3 : Int32) (hv3 : f_X3_showAfter X v1 v2 (-1 : Int32) = some v3) (r : List zPc) (hr9 : f_X5_write_L102 X v1 v2 zFuel (nI 0) v3 = some r) (hK8 : K ≤ 800) (v n : Nat) (z2 : Int32) (f : Nat → Int32) (hf : sb_Fit f) (h16 : 16 ≤ n) (hb : n ≤ 1600) (hK : zlen ((if f_X3_isClosed X v1 v2 = 0 then [] else [zpS zT351]) ++ ((if v3 = (-1 : Int32) then [zpS zT357] else []) ++ r)) = K) (hT : zcatT (fun _ => 0) 0 ((if f_X3_isClosed X v1 v2 = 0 then [] else [zpS zT351]) ++ ((if v3 = (-1 : Int32) then [zpS zT357] else []) ++ r)) = T) : zG p l e (zrmy 14 200 3200) s m args below meth c 5 D A (n / 8) (2 * n) (zQy below args s (fun r w => code = 0 ∧ r = nI K ∧ zBd cy ad E X T K w) (fun c w => c = code ∧ code ≠ 0 ∧ w = W0) D (zTy cy) A 200 3200) (zW cy ad shC (tB cy (ad 153) v n z2 0 f ++ E) X) 49 [(0, .ref (ad 0)), (1, .int v1), (2, .int v2)] [] := by
  have hL0 : sb_Lat (fun _ => 0) 0 f := fun j hj => absurd hj (Nat.not_lt_zero j)
  refine g_aload_n (j := 0) C dX5_write_49 rfl rfl ?_
  refine g_getr (k := 0) (N := 11) C sC_0 rfl zin_RX5 (by decide) rfl zfl_RX5_10 rfl dX5_write_50 ?_
  refine g_iload_n (j := 1) C dX5_write_53 rfl rfl ?_
  refine g_iload_n (j := 2) C dX5_write_54 rfl rfl ?_
  refine g_vi (ws' := (zW cy ad shC (tB cy (ad 153) v n z2 0 f ++ E) X)) (As := [.int v1, .int v2]) (rest := []) (res := (f_X3_isClosed X v1 v2)) C (c_X3_isClosed l D cy ad (tB cy (ad 153) v n z2 0 f ++ E) X v1 v2) zml_RX5_347 zcv_X3_isClosed (zW_get _ sC_1) rfl rfl rfl ⟨Nat.le_of_ble_eq_true rfl, Nat.le_of_ble_eq_true rfl⟩ rfl rfl (Nat.le_of_ble_eq_true rfl) ⟨by show n / 8 + 0 ≤ 200; omega, by show 2 * n + 0 ≤ 3200; omega⟩ dX5_write_55 ?_
  refine g_if_eq C dX5_write_58 (tgt := 72) (by decide) (fun h2 => ?_) (fun h2 => ?_)
  · rw [if_pos h2, List.nil_append] at hK hT
    exact w_X5_write_72 l D cy ad E X v1 v2 code hco T K W0 C hE hr v3 hv3 r hr9 hK8 v n 0 z2 f _ hL0 hf (Nat.zero_le _) h16 hb (by omega) hT
  · rw [if_neg h2, List.singleton_append] at hK hT
    rw [zlen_cons] at hK
    obtain ⟨aS, hS1, hS2⟩ := hE.2.2.2.1.1
    have e9 : (zpS zT351).1 = zT351.length := rfl
    have q9 := zstep (n := n) (m := 0 + zT351.length) h16 hb (by omega)
    refine g_aload_n (j := 0) C dX5_write_61 rfl rfl ?_
    refine g_getr (k := 6) (N := 11) C sC_0 rfl zin_RX5 (by decide) rfl zfl_RX5_47 rfl dX5_write_62 ?_
    refine p_ldcSW C hS1 dX5_write_65 ?_
    refine zG.less (ws' := (tB cy (ad 153) v n z2 0 f ++ (z_rend cy ad X 0 shC ++ E))) (l' := (zW cy ad shC (tB cy (ad 153) v n z2 0 f ++ E) X)) (zpT _ _ _) (List.Sublist.refl _) ?_
    refine t_Vr (As := [.ref aS]) (rest := []) (zES_ge _ _) ⟨hE.1.1, hS2⟩ C (d_appS l D cy (z_rend cy ad X 0 shC ++ E) (ad 153) v n 0 z2 f aS zT351 (by decide) zu_351.2 (zu zT351) zu_351.1 (fun _ => 0) hL0 hf (Nat.zero_le _) (by omega) (0 + zT351.length) (zcp n (0 + zT351.length)) rfl rfl) zml_RX5_353 zcv_J4_append_15ec4 (zRec.of C (ci := 1) (q0 := 0) rfl rfl) rfl rfl ⟨Nat.le_of_ble_eq_true rfl, Nat.le_of_ble_eq_true rfl⟩ rfl rfl (Nat.le_of_ble_eq_true rfl) ⟨by show n / 8 + 0 + zmc n (0 + zT351.length) ≤ 200; omega, by show 2 * n + 0 + zms n (0 + zT351.length) ≤ 3200; omega⟩ dX5_write_68 ?_
    intro r w h9
    obtain ⟨rfl, v8, f8, rfl, hL8, hf8⟩ := h9
    refine zG.less (ws' := (zW cy ad shC (tB cy (ad 153) v8 (zcp n (0 + zT351.length)) z2 (0 + zT351.length) f8 ++ E) X)) (l' := (tB cy (ad 153) v8 (zcp n (0 + zT351.length)) z2 (0 + zT351.length) f8 ++ (z_rend cy ad X 0 shC ++ E))) (zpT _ _ _).symm (List.Sublist.refl _) ?_
    refine zG.wide (k := zcp n (0 + zT351.length) / 8) (n := 2 * zcp n (0 + zT351.length)) (by show n / 8 + 0 + zmc n (0 + zT351.length) ≤ _; omega) (by show 2 * n + 0 + zms n (0 + zT351.length) ≤ _; omega) ?_
    refine g_pop C dX5_write_71 rfl ?_
    exact w_X5_write_72 l D cy ad E X v1 v2 code hco T K W0 C hE hr v3 hv3 r hr9 hK8 v8 _ _ z2 f8 _ hL8 hf8 q9.1 q9.2.1 q9.2.2.1 (by omega) hT
set_option maxRecDepth 100000 in
set_option maxHeartbeats 8000000 in
theorem c_X5_write (l : Launch) (hlt : l.stackTraces = false) (D : va_G) (cy : Nat → ClassId) (ad : Nat → Nat) (E : va_W) (X : Nat → Nat → Int32) (v1 v2 : Int32) (v n k : Nat) (z : Int32) (f : Nat → Int32) (t : Nat → Nat) (hL : sb_Lat t k f) (hf : sb_Fit f) (hkn : k ≤ n) (h16 : 16 ≤ n) (hb : n ≤ 1600) {res : Nat × List zPc} (h : f_X5_write X v1 v2 = some res) (hK8 : zlen res.2 ≤ 800) : zMy l yX5_write cX5_write 5 (some .int) (zrmy 14 200 3200) D (zTy cy) zE5 (zW cy ad shC (tB cy (ad 153) v n z k f ++ E) X) [.ref (ad 0), .int v1, .int v2] 200 3200 (fun r w => res.1 = 0 ∧ r = nI (zlen res.2) ∧ zBd cy ad E X (zcatT (fun _ => 0) 0 res.2) (zlen res.2) w) (fun c w => c = res.1 ∧ res.1 ≠ 0 ∧ w = (zW cy ad shC (tB cy (ad 153) v n z k f ++ E) X)) := by
  refine zMy.of (by decide) (Nat.le_of_ble_eq_true rfl) ?_
  intro p e s m below meth c A C hr hE hout
  unfold f_X5_write at h
  refine zG_L (L' := [(0, .ref (ad 0)), (1, .int v1), (2, .int v2)]) rfl ?_
  refine g_aload_n (j := 0) C dX5_write_0 rfl rfl ?_
  refine g_getr (k := 0) (N := 11) C sC_0 rfl zin_RX5 (by decide) rfl zfl_RX5_10 rfl dX5_write_1 ?_
  refine g_getr (k := 0) (N := 8) C sC_1 rfl zin_RX3 (by decide) rfl zfl_RX5_75 rfl dX5_write_4 ?_
  refine g_iload_n (j := 1) C dX5_write_7 rfl rfl ?_
  refine g_vi (ws' := (zW cy ad shC (tB cy (ad 153) v n z k f ++ E) X)) (As := [.int v1]) (rest := []) (res := (f_X4_isRow X 2 24 v1)) C (c_X4_isRow l D cy ad (tB cy (ad 153) v n z k f ++ E) X 2 24 sC_2 sC_3 (by decide) v1) zml_RX5_116 zcv_X4_isRow (zW_get _ sC_2) rfl rfl rfl ⟨Nat.le_of_ble_eq_true rfl, Nat.le_of_ble_eq_true rfl⟩ rfl rfl (Nat.le_of_ble_eq_true rfl) ⟨Nat.zero_le _, Nat.zero_le _⟩ dX5_write_8 ?_
  refine g_if_ne C dX5_write_11 (tgt := 24) (by decide) (fun h1 => ?_) (fun h1 => ?_)
  · replace h := (if_neg h1).symm.trans h
    refine g_iload_n (j := 2) C dX5_write_24 rfl rfl ?_
    refine g_si (ws' := (zW cy ad shC (tB cy (ad 153) v n z k f ++ E) X)) (As := [.int v2]) (rest := []) (res := (f_X5_isDay v2)) C (c_X5_isDay l D cy (zW cy ad shC (tB cy (ad 153) v n z k f ++ E) X) v2) zml_RX5_108 zcs_X5_isDay rfl rfl ⟨Nat.le_of_ble_eq_true rfl, Nat.le_of_ble_eq_true rfl⟩ rfl rfl (Nat.le_of_ble_eq_true rfl) ⟨Nat.zero_le _, Nat.zero_le _⟩ dX5_write_25 ?_
    refine g_if_ne C dX5_write_28 (tgt := 41) (by decide) (fun h2 => ?_) (fun h2 => ?_)
    · replace h := (if_neg h2).symm.trans h
      obtain ⟨v3, hv3, h⟩ := bind_isome h
      obtain ⟨r, hr9, h⟩ := bind_isome h
      obtain rfl := Option.some.inj h
      refine g_aload_n (j := 0) C dX5_write_41 rfl rfl ?_
      refine g_getr (k := 6) (N := 11) C sC_0 rfl zin_RX5 (by decide) rfl zfl_RX5_47 rfl dX5_write_42 ?_
      refine g_iconst (v := (nI 0)) C dX5_write_45 (by decide) ?_
      refine zG.less (ws' := (tB cy (ad 153) v n z k f ++ (z_rend cy ad X 0 shC ++ E))) (l' := (zW cy ad shC (tB cy (ad 153) v n z k f ++ E) X)) (zpT _ _ _) (List.Sublist.refl _) ?_
      refine t_Vv (As := [.int (nI 0)]) (rest := []) zEn_ge hE.1.1 C (c_setLen l D cy (z_rend cy ad X 0 shC ++ E) (ad 153) v n k z f (by omega) (by omega)) zml_RX5_343 zcv_J4_setLength_d00df (zRec.of C (ci := 1) (q0 := 0) rfl rfl) rfl rfl ⟨Nat.le_of_ble_eq_true rfl, Nat.le_of_ble_eq_true rfl⟩ rfl rfl (Nat.le_of_ble_eq_true rfl) ⟨Nat.zero_le _, Nat.zero_le _⟩ dX5_write_46 ?_
      intro w h9
      obtain ⟨z2, rfl⟩ := h9
      refine zG.less (ws' := (zW cy ad shC (tB cy (ad 153) v n z2 0 f ++ E) X)) (l' := (tB cy (ad 153) v n z2 0 f ++ (z_rend cy ad X 0 shC ++ E))) (zpT _ _ _).symm (List.Sublist.refl _) ?_
      refine zG.wide (k := n / 8) (n := 2 * n) (Nat.zero_le _) (Nat.zero_le _) ?_
      exact w_X5_write_49 l D cy ad E X v1 v2 0 rfl _ _ ((zW cy ad shC (tB cy (ad 153) v n z k f ++ E) X)) C hE hr v3 hv3 r hr9 hK8 v n z2 f hf h16 hb rfl rfl
    · replace h := (if_pos h2).symm.trans h
      obtain rfl := Option.some.inj h
      exact y_throw 1 ⟨rfl, by decide, rfl⟩ C hE.2.1 (hE.2.1.1 _ (List.mem_of_getElem? (i := 14) rfl)) hlt hout (by decide) ⟨by decide +kernel, by decide +kernel⟩ zcl_68 zini_1 zat_72 zgw_72 dX5_write_31 dX5_write_34 dX5_write_35 dX5_write_37 dX5_write_40 ⟨Nat.le_of_ble_eq_true rfl, Nat.le_of_ble_eq_true rfl⟩ (by show 0 + 0 + 1 ≤ 200; omega) (by show 0 + 0 + 6 ≤ 3200; omega) (by show 0 + 0 + 1 ≤ 200; omega) (by show 0 + 0 + 6 ≤ 3200; omega)
  · replace h := (if_pos h1).symm.trans h
    obtain rfl := Option.some.inj h
    exact y_throw 3 ⟨rfl, by decide, rfl⟩ C hE.2.1 (hE.2.1.1 _ (List.mem_of_getElem? (i := 11) rfl)) hlt hout (by decide) ⟨by decide +kernel, by decide +kernel⟩ zcl_119 zini_3 zat_123 zgw_123 dX5_write_14 dX5_write_17 dX5_write_18 dX5_write_20 dX5_write_23 ⟨Nat.le_of_ble_eq_true rfl, Nat.le_of_ble_eq_true rfl⟩ (by show 0 + 1 ≤ 200; omega) (by show 0 + 6 ≤ 3200; omega) (by show 0 + 1 ≤ 200; omega) (by show 0 + 6 ≤ 3200; omega)
