/-! THE CONSTRUCTORS (laid by wip/whole/mkctor.py) -/
theorem zol_RX4_3 : Cond.methodLink RX4 3 objectInit ∈ zAll := zg (z_t1 (List.mem_of_getElem? (i := 50) (by decide +kernel))) (by decide +kernel)
theorem znr_int : Cond.arrayClass .int ∈ zAll := zg (z_t1 (List.mem_of_getElem? (i := 67) (by decide +kernel))) (by decide +kernel)
set_option maxRecDepth 100000 in
set_option maxHeartbeats 8000000 in
theorem c_X4_init (l : Launch) (D : va_G) (cy : Nat → ClassId) (E : va_W) (a mr cl N : Nat) (hN : mr * cl = N) (hb : N ≤ 100000) : zMt l yX4_init cX4_init 3 none (zrt 2 1 N) D (zTy cy) zEi ((a, .inr (8, [.null, .int 0, .int 0, .int 0])) :: E) [.ref a, .int (nI mr), .int (nI cl)] 1 N (tV D (zTy cy) (fun w => ∃ q1, w = ((q1, .inl (cy 0, N, .inl (fun _ => 0))) :: (a, .inr (8, [.ref q1, .int (nI cl), .int (nI mr), .int (nI 0)])) :: E))) := by
  refine zMt.ofI (by decide) (Nat.le_of_ble_eq_true rfl) ?_
  intro p e s m below meth c A C hr hE hnm
  refine zG_L (L' := [(0, .ref a), (1, .int (nI mr)), (2, .int (nI cl))]) rfl ?_
  refine g_aload_n (j := 0) C dX4_init_0 rfl rfl ?_
  refine n_obj C zol_RX4_3 (Nat.le_of_ble_eq_true rfl) (Nat.le_of_ble_eq_true rfl) dX4_init_1 ?_
  refine g_aload_n (j := 0) C dX4_init_4 rfl rfl ?_
  refine g_iconst (v := (nI 0)) C dX4_init_5 (by decide) ?_
  refine p_put (q0 := 0) (k := 3) (ci := 8) (N := 4) (ty := .int) (ty0 := tyX4) (v := .int (nI 0)) (ws' := ((a, .inr (8, [.null, .int 0, .int 0, .int (nI 0)])) :: E)) C rfl rfl zin_RX4 (by decide) zfl_RX4_9 tyX4_ok nmX4 rfl (by decide +kernel) rfl rfl (Nat.le_of_ble_eq_true rfl) rfl dX4_init_6 ?_
  refine g_aload_n (j := 0) C dX4_init_9 rfl rfl ?_
  refine g_iload_n (j := 1) C dX4_init_10 rfl rfl ?_
  refine n_putF C hnm (q0 := 0) (k := 2) (ci := 8) (N := 4) (ty := .int) (ty0 := tyX4) (v := .int (nI mr)) (ws' := ((a, .inr (8, [.null, .int 0, .int (nI mr), .int (nI 0)])) :: E)) rfl rfl zin_RX4 (by decide) zfl_RX4_15 tyX4_ok nmX4 rfl rfl (by decide +kernel) rfl rfl (Nat.le_of_ble_eq_true rfl) rfl dX4_init_11 ?_
  refine g_aload_n (j := 0) C dX4_init_14 rfl rfl ?_
  refine g_iload_n (j := 2) C dX4_init_15 rfl rfl ?_
  refine n_putF C hnm (q0 := 0) (k := 1) (ci := 8) (N := 4) (ty := .int) (ty0 := tyX4) (v := .int (nI cl)) (ws' := ((a, .inr (8, [.null, .int (nI cl), .int (nI mr), .int (nI 0)])) :: E)) rfl rfl zin_RX4 (by decide) zfl_RX4_18 tyX4_ok nmX4 rfl rfl (by decide +kernel) rfl rfl (Nat.le_of_ble_eq_true rfl) rfl dX4_init_16 ?_
  refine g_aload_n (j := 0) C dX4_init_19 rfl rfl ?_
  refine g_iload_n (j := 1) C dX4_init_20 rfl rfl ?_
  refine g_iload_n (j := 2) C dX4_init_21 rfl rfl ?_
  refine g_imul C dX4_init_22 ?_
  refine g_iconst (v := (nI 0)) C dX4_init_23 (by decide) ?_
  refine g_mmax C zml_RX4_21 (Nat.le_of_ble_eq_true rfl) (Nat.le_of_ble_eq_true rfl) (Nat.zero_le _) (Nat.zero_le _) dX4_init_24 ?_
  refine p_num (y := (nI N)) (by rw [pk_mul, hN, nI_0]; exact if_neg (nI_pos (by omega))) ?_
  refine n_newa (k := 0) (ty := .int) (a0 := (N, .inl (fun _ => 0))) (N := N) C rfl (fun _ h => nomatch h) rfl znr_int (fun _ => rfl) (nI_pos (by omega)) (nI_clamp (by omega)) (by show N * 4 ≤ _; omega) (Nat.le_of_ble_eq_true rfl) (by show 0 + N ≤ N; omega) dX4_init_27 (fun q1 => ?_)
  refine n_putF C hnm (q0 := 1) (k := 0) (ci := 8) (N := 4) (ty := (.array .int)) (ty0 := tyX4) (v := .ref q1) (ws' := ((q1, .inl (cy 0, N, .inl (fun _ => 0))) :: (a, .inr (8, [.ref q1, .int (nI cl), .int (nI mr), .int (nI 0)])) :: E)) rfl rfl zin_RX4 (by decide) zfl_RX4_27 tyX4_ok nmX4 rfl rfl (by decide +kernel) rfl rfl (Nat.le_of_ble_eq_true rfl) rfl dX4_init_29 ?_
  exact t_vret C hr ⟨q1, rfl⟩ (Nat.le_of_ble_eq_true rfl) (by show 0 + N ≤ N; omega) dX4_init_32
set_option maxRecDepth 100000 in
set_option maxHeartbeats 8000000 in
theorem c_X4_put0 (l : Launch) (D : va_G) (cy : Nat → ClassId) (E : va_W) (b q j : Nat) (x : Int32) (f : Nat → Int32) (hj : j < 26) : zMt l yX4_put cX4_put 5 none (zrt 1 0 0) D (zTy cy) zEi ((q, .inl (cy 0, 26, .inl f)) :: (b, .inr (8, [.ref q, .int (nI 26), .int (nI 1), .int (nI 0)])) :: E) [.ref b, .int (nI 0), .int (nI j), .int x] 0 0 (tV D (zTy cy) (fun w => w = ((q, .inl (cy 0, 26, .inl (upd f j x))) :: (b, .inr (8, [.ref q, .int (nI 26), .int (nI 1), .int (nI 0)])) :: E))) := by
  refine zMt.of (by decide) (Nat.le_of_ble_eq_true rfl) ?_
  intro p e s m below meth c A C hr hE
  refine zG_L (L' := [(0, .ref b), (1, .int (nI 0)), (2, .int (nI j)), (3, .int x)]) rfl ?_
  refine g_iload_n (j := 1) C dX4_put_0 rfl rfl ?_
  refine g_aload_n (j := 0) C dX4_put_1 rfl rfl ?_
  refine p_get (q0 := 1) (k := 1) (ci := 8) (N := 4) (v := .int (nI 26)) C rfl rfl zin_RX4 (by decide) zfl_RX4_18 rfl dX4_put_2 ?_
  refine g_imul C dX4_put_5 ?_
  refine g_iload_n (j := 2) C dX4_put_6 rfl rfl ?_
  refine g_iadd C dX4_put_7 ?_
  refine p_num (y := (nI j)) (by rw [pk_mul, nI_add, Nat.zero_mul, Nat.zero_add]) ?_
  refine g_istore (L' := [(4, .int (nI j)), (0, .ref b), (1, .int (nI 0)), (2, .int (nI j)), (3, .int x)]) C dX4_put_8 (by decide) rfl ?_
  refine g_iload (j := 0) C dX4_put_10 rfl ?_
  refine g_if_lt C dX4_put_12 (tgt := 33) (by decide) (fun h9 => absurd h9 (nI_pos (by omega))) (fun _ => ?_)
  refine g_iload (j := 0) C dX4_put_15 rfl ?_
  refine g_aload_n (j := 1) C dX4_put_17 rfl rfl ?_
  refine p_get (q0 := 1) (k := 0) (ci := 8) (N := 4) (v := .ref q) C rfl rfl zin_RX4 (by decide) zfl_RX4_27 rfl dX4_put_18 ?_
  refine n_alen (q0 := 0) (k := 0) (ty := .int) C rfl rfl dX4_put_21 ?_
  refine p_num (y := nI 26) rfl ?_
  refine g_icmp_ge C dX4_put_22 (tgt := 33) (by decide) (fun h9 => absurd h9 (nI_ge (by omega) (by decide))) (fun _ => ?_)
  refine g_aload_n (j := 1) C dX4_put_25 rfl rfl ?_
  refine p_get (q0 := 1) (k := 0) (ci := 8) (N := 4) (v := .ref q) C rfl rfl zin_RX4 (by decide) zfl_RX4_27 rfl dX4_put_26 ?_
  refine g_iload (j := 0) C dX4_put_29 rfl ?_
  refine g_iload_n (j := 4) C dX4_put_31 rfl rfl ?_
  refine n_iast (q0 := 0) (n := 26) (ws' := ((q, .inl (cy 0, 26, .inl (upd f j x))) :: (b, .inr (8, [.ref q, .int (nI 26), .int (nI 1), .int (nI 0)])) :: E)) C rfl (nI_in hj (by decide)) (by rw [nI_clamp (by omega)]; rfl) dX4_put_32 ?_
  exact t_vret C hr rfl (Nat.le_of_ble_eq_true rfl) (Nat.le_of_ble_eq_true rfl) dX4_put_33
/-- the first settings and limits, after n of them are put -/
def zPl (n : Nat) : Nat := if n < 6 then n else n + 4
def zVl (n : Nat) : Int32 := if n < 6 then [nI 10, nI 2, nI 15, nI 10, nI 60, nI 10].getD n 0 else nI 3
def zF : Nat → Nat → Int32
  | 0 => fun _ => 0
  | n + 1 => upd (zF n) (zPl n) (zVl n)
/-- a State's cells as its constructor leaves them -/
def zStB (cy : Nat → ClassId) (w : Nat → Nat) : va_W := [(w 0, .inr (7, [.ref (w 1), .ref (w 3), .ref (w 5), .ref (w 7), .ref (w 9), .ref (w 11), .int (nI 0), .int (nI 0)])), (w 1, .inr (8, [.ref (w 2), .int (nI 4), .int (nI 6), .int (nI 0)])), (w 2, .inl (cy 0, 24, .inl (fun _ => 0))), (w 3, .inr (8, [.ref (w 4), .int (nI 12), .int (nI 8), .int (nI 0)])), (w 4, .inl (cy 0, 96, .inl (fun _ => 0))), (w 5, .inr (8, [.ref (w 6), .int (nI 4), .int (nI 10), .int (nI 0)])), (w 6, .inl (cy 0, 40, .inl (fun _ => 0))), (w 7, .inr (8, [.ref (w 8), .int (nI 12), .int (nI 30), .int (nI 0)])), (w 8, .inl (cy 0, 360, .inl (fun _ => 0))), (w 9, .inr (8, [.ref (w 10), .int (nI 5), .int (nI 30), .int (nI 0)])), (w 10, .inl (cy 0, 150, .inl (fun _ => 0))), (w 11, .inr (8, [.ref (w 12), .int (nI 26), .int (nI 1), .int (nI 0)])), (w 12, .inl (cy 0, 26, .inl (zF 22)))]
theorem zol_RX3_3 : Cond.methodLink RX3 3 objectInit ∈ zAll := zg (z_t1 (List.mem_of_getElem? (i := 44) (by decide +kernel))) (by decide +kernel)
theorem zkl_RX3_9 : Cond.classLink RX3 9 RX4 ∈ zAll := zg (z_t1 (List.mem_of_getElem? (i := 45) (by decide +kernel))) (by decide +kernel)
theorem zns_RX4 : Cond.instantiable RX4 4 ∈ zAll := zg (z_t1 (List.mem_of_getElem? (i := 46) (by decide +kernel))) (by decide +kernel)
theorem zni_RX4 : Cond.initialized RX4 ∈ zAll := zg (z_t1 (List.mem_of_getElem? (i := 3) (by decide +kernel))) (by decide +kernel)
theorem zci_X4_init : zCalI yX4_init cX4_init 3 2 := ⟨zg (z_t1 (List.mem_of_getElem? (i := 48) (by decide +kernel))) (by decide +kernel), zg (z_t1 (List.mem_of_getElem? (i := 3) (by decide +kernel))) (by decide +kernel), zg (z_t1 (List.mem_of_getElem? (i := 49) (by decide +kernel))) (by decide +kernel), rfl, by decide +kernel⟩
set_option maxRecDepth 100000 in
set_option maxHeartbeats 8000000 in
theorem c_X3_init (l : Launch) (D : va_G) (cy : Nat → ClassId) (E : va_W) (a : Nat) : zMt l yX3_init cX3_init 2 none (zrt 4 12 720) D (zTy cy) zEi ((a, .inr (7, [.null, .null, .null, .null, .null, .null, .int 0, .int 0])) :: E) [.ref a] 12 720 (tV D (zTy cy) (fun w => ∃ wd : Nat → Nat, wd 0 = a ∧ w = zStB cy wd ++ E)) := by
  refine zMt.ofI (by decide) (Nat.le_of_ble_eq_true rfl) ?_
  intro p e s m below meth c A C hr hE hnm
  obtain ⟨tf, hZf, hTf⟩ := hE.2.1
  refine zG_L (L' := [(0, .ref a)]) rfl ?_
  refine g_aload_n (j := 0) C dX3_init_0 rfl rfl ?_
  refine n_obj C zol_RX3_3 (Nat.le_of_ble_eq_true rfl) (Nat.le_of_ble_eq_true rfl) dX3_init_1 ?_
  refine g_aload_n (j := 0) C dX3_init_4 rfl rfl ?_
  refine n_new (ci := 8) (N := 4) (ty0 := tyX4) (fs := [.null, .int 0, .int 0, .int 0]) C zin_RX4 tyX4_ok zkl_RX3_9 zns_RX4 zni_RX4 rfl (by decide) (Nat.le_of_ble_eq_true rfl) (Nat.le_of_ble_eq_true rfl) dX3_init_5 (fun q1 => ?_)
  refine g_dup C dX3_init_8 rfl ?_
  refine g_bipush (v := (nI 6)) C dX3_init_9 (by decide) ?_
  refine g_iconst (v := (nI 4)) C dX3_init_11 (by decide) ?_
  refine n_init (As := [.int (nI 6), .int (nI 4)]) (rest := [.ref q1, .ref a]) zEi_ge hE C (c_X4_init l D cy ((a, .inr (7, [.null, .null, .null, .null, .null, .null, .int 0, .int 0])) :: E) q1 6 4 24 rfl (by decide)) zml_RX3_11 zci_X4_init rfl rfl ⟨Nat.le_of_ble_eq_true rfl, Nat.le_of_ble_eq_true rfl⟩ rfl rfl (Nat.le_of_ble_eq_true rfl) ⟨Nat.le_of_ble_eq_true rfl, Nat.le_of_ble_eq_true rfl⟩ dX3_init_12 ?_
  intro w h
  obtain ⟨q2, rfl⟩ := h
  refine n_putF C hnm (q0 := 2) (k := 0) (ci := 7) (N := 8) (ty := (.object "CinemaProgramme$Table")) (ty0 := tyX3) (v := .ref q1) (ws' := ((q2, .inl (cy 0, 24, .inl (fun _ => 0))) :: (q1, .inr (8, [.ref q2, .int (nI 4), .int (nI 6), .int (nI 0)])) :: (a, .inr (7, [.ref q1, .null, .null, .null, .null, .null, .int 0, .int 0])) :: E)) rfl rfl zin_RX3 (by decide) zfl_RX3_14 tyX3_ok nmX3 rfl rfl (by decide +kernel) rfl rfl (Nat.le_of_ble_eq_true rfl) rfl dX3_init_15 ?_
  refine g_aload_n (j := 0) C dX3_init_18 rfl rfl ?_
  refine n_new (ci := 8) (N := 4) (ty0 := tyX4) (fs := [.null, .int 0, .int 0, .int 0]) C zin_RX4 tyX4_ok zkl_RX3_9 zns_RX4 zni_RX4 rfl (by decide) (Nat.le_of_ble_eq_true rfl) (Nat.le_of_ble_eq_true rfl) dX3_init_19 (fun q3 => ?_)
  refine g_dup C dX3_init_22 rfl ?_
  refine g_bipush (v := (nI 8)) C dX3_init_23 (by decide) ?_
  refine g_bipush (v := (nI 12)) C dX3_init_25 (by decide) ?_
  refine n_init (As := [.int (nI 8), .int (nI 12)]) (rest := [.ref q3, .ref a]) zEi_ge hE C (c_X4_init l D cy ((q2, .inl (cy 0, 24, .inl (fun _ => 0))) :: (q1, .inr (8, [.ref q2, .int (nI 4), .int (nI 6), .int (nI 0)])) :: (a, .inr (7, [.ref q1, .null, .null, .null, .null, .null, .int 0, .int 0])) :: E) q3 8 12 96 rfl (by decide)) zml_RX3_11 zci_X4_init rfl rfl ⟨Nat.le_of_ble_eq_true rfl, Nat.le_of_ble_eq_true rfl⟩ rfl rfl (Nat.le_of_ble_eq_true rfl) ⟨Nat.le_of_ble_eq_true rfl, Nat.le_of_ble_eq_true rfl⟩ dX3_init_27 ?_
  intro w h
  obtain ⟨q4, rfl⟩ := h
  refine n_putF C hnm (q0 := 4) (k := 1) (ci := 7) (N := 8) (ty := (.object "CinemaProgramme$Table")) (ty0 := tyX3) (v := .ref q3) (ws' := ((q4, .inl (cy 0, 96, .inl (fun _ => 0))) :: (q3, .inr (8, [.ref q4, .int (nI 12), .int (nI 8), .int (nI 0)])) :: (q2, .inl (cy 0, 24, .inl (fun _ => 0))) :: (q1, .inr (8, [.ref q2, .int (nI 4), .int (nI 6), .int (nI 0)])) :: (a, .inr (7, [.ref q1, .ref q3, .null, .null, .null, .null, .int 0, .int 0])) :: E)) rfl rfl zin_RX3 (by decide) zfl_RX3_20 tyX3_ok nmX3 rfl rfl (by decide +kernel) rfl rfl (Nat.le_of_ble_eq_true rfl) rfl dX3_init_30 ?_
  refine g_aload_n (j := 0) C dX3_init_33 rfl rfl ?_
  refine n_new (ci := 8) (N := 4) (ty0 := tyX4) (fs := [.null, .int 0, .int 0, .int 0]) C zin_RX4 tyX4_ok zkl_RX3_9 zns_RX4 zni_RX4 rfl (by decide) (Nat.le_of_ble_eq_true rfl) (Nat.le_of_ble_eq_true rfl) dX3_init_34 (fun q5 => ?_)
  refine g_dup C dX3_init_37 rfl ?_
  refine g_bipush (v := (nI 10)) C dX3_init_38 (by decide) ?_
  refine g_iconst (v := (nI 4)) C dX3_init_40 (by decide) ?_
  refine n_init (As := [.int (nI 10), .int (nI 4)]) (rest := [.ref q5, .ref a]) zEi_ge hE C (c_X4_init l D cy ((q4, .inl (cy 0, 96, .inl (fun _ => 0))) :: (q3, .inr (8, [.ref q4, .int (nI 12), .int (nI 8), .int (nI 0)])) :: (q2, .inl (cy 0, 24, .inl (fun _ => 0))) :: (q1, .inr (8, [.ref q2, .int (nI 4), .int (nI 6), .int (nI 0)])) :: (a, .inr (7, [.ref q1, .ref q3, .null, .null, .null, .null, .int 0, .int 0])) :: E) q5 10 4 40 rfl (by decide)) zml_RX3_11 zci_X4_init rfl rfl ⟨Nat.le_of_ble_eq_true rfl, Nat.le_of_ble_eq_true rfl⟩ rfl rfl (Nat.le_of_ble_eq_true rfl) ⟨Nat.le_of_ble_eq_true rfl, Nat.le_of_ble_eq_true rfl⟩ dX3_init_41 ?_
  intro w h
  obtain ⟨q6, rfl⟩ := h
  refine n_putF C hnm (q0 := 6) (k := 2) (ci := 7) (N := 8) (ty := (.object "CinemaProgramme$Table")) (ty0 := tyX3) (v := .ref q5) (ws' := ((q6, .inl (cy 0, 40, .inl (fun _ => 0))) :: (q5, .inr (8, [.ref q6, .int (nI 4), .int (nI 10), .int (nI 0)])) :: (q4, .inl (cy 0, 96, .inl (fun _ => 0))) :: (q3, .inr (8, [.ref q4, .int (nI 12), .int (nI 8), .int (nI 0)])) :: (q2, .inl (cy 0, 24, .inl (fun _ => 0))) :: (q1, .inr (8, [.ref q2, .int (nI 4), .int (nI 6), .int (nI 0)])) :: (a, .inr (7, [.ref q1, .ref q3, .ref q5, .null, .null, .null, .int 0, .int 0])) :: E)) rfl rfl zin_RX3 (by decide) zfl_RX3_23 tyX3_ok nmX3 rfl rfl (by decide +kernel) rfl rfl (Nat.le_of_ble_eq_true rfl) rfl dX3_init_44 ?_
  refine g_aload_n (j := 0) C dX3_init_47 rfl rfl ?_
  refine n_new (ci := 8) (N := 4) (ty0 := tyX4) (fs := [.null, .int 0, .int 0, .int 0]) C zin_RX4 tyX4_ok zkl_RX3_9 zns_RX4 zni_RX4 rfl (by decide) (Nat.le_of_ble_eq_true rfl) (Nat.le_of_ble_eq_true rfl) dX3_init_48 (fun q7 => ?_)
  refine g_dup C dX3_init_51 rfl ?_
  refine g_bipush (v := (nI 30)) C dX3_init_52 (by decide) ?_
  refine g_bipush (v := (nI 12)) C dX3_init_54 (by decide) ?_
  refine n_init (As := [.int (nI 30), .int (nI 12)]) (rest := [.ref q7, .ref a]) zEi_ge hE C (c_X4_init l D cy ((q6, .inl (cy 0, 40, .inl (fun _ => 0))) :: (q5, .inr (8, [.ref q6, .int (nI 4), .int (nI 10), .int (nI 0)])) :: (q4, .inl (cy 0, 96, .inl (fun _ => 0))) :: (q3, .inr (8, [.ref q4, .int (nI 12), .int (nI 8), .int (nI 0)])) :: (q2, .inl (cy 0, 24, .inl (fun _ => 0))) :: (q1, .inr (8, [.ref q2, .int (nI 4), .int (nI 6), .int (nI 0)])) :: (a, .inr (7, [.ref q1, .ref q3, .ref q5, .null, .null, .null, .int 0, .int 0])) :: E) q7 30 12 360 rfl (by decide)) zml_RX3_11 zci_X4_init rfl rfl ⟨Nat.le_of_ble_eq_true rfl, Nat.le_of_ble_eq_true rfl⟩ rfl rfl (Nat.le_of_ble_eq_true rfl) ⟨Nat.le_of_ble_eq_true rfl, Nat.le_of_ble_eq_true rfl⟩ dX3_init_56 ?_
  intro w h
  obtain ⟨q8, rfl⟩ := h
  refine n_putF C hnm (q0 := 8) (k := 3) (ci := 7) (N := 8) (ty := (.object "CinemaProgramme$Table")) (ty0 := tyX3) (v := .ref q7) (ws' := ((q8, .inl (cy 0, 360, .inl (fun _ => 0))) :: (q7, .inr (8, [.ref q8, .int (nI 12), .int (nI 30), .int (nI 0)])) :: (q6, .inl (cy 0, 40, .inl (fun _ => 0))) :: (q5, .inr (8, [.ref q6, .int (nI 4), .int (nI 10), .int (nI 0)])) :: (q4, .inl (cy 0, 96, .inl (fun _ => 0))) :: (q3, .inr (8, [.ref q4, .int (nI 12), .int (nI 8), .int (nI 0)])) :: (q2, .inl (cy 0, 24, .inl (fun _ => 0))) :: (q1, .inr (8, [.ref q2, .int (nI 4), .int (nI 6), .int (nI 0)])) :: (a, .inr (7, [.ref q1, .ref q3, .ref q5, .ref q7, .null, .null, .int 0, .int 0])) :: E)) rfl rfl zin_RX3 (by decide) zfl_RX3_26 tyX3_ok nmX3 rfl rfl (by decide +kernel) rfl rfl (Nat.le_of_ble_eq_true rfl) rfl dX3_init_59 ?_
  refine g_aload_n (j := 0) C dX3_init_62 rfl rfl ?_
  refine n_new (ci := 8) (N := 4) (ty0 := tyX4) (fs := [.null, .int 0, .int 0, .int 0]) C zin_RX4 tyX4_ok zkl_RX3_9 zns_RX4 zni_RX4 rfl (by decide) (Nat.le_of_ble_eq_true rfl) (Nat.le_of_ble_eq_true rfl) dX3_init_63 (fun q9 => ?_)
  refine g_dup C dX3_init_66 rfl ?_
  refine g_bipush (v := (nI 30)) C dX3_init_67 (by decide) ?_
  refine g_iconst (v := (nI 5)) C dX3_init_69 (by decide) ?_
  refine n_init (As := [.int (nI 30), .int (nI 5)]) (rest := [.ref q9, .ref a]) zEi_ge hE C (c_X4_init l D cy ((q8, .inl (cy 0, 360, .inl (fun _ => 0))) :: (q7, .inr (8, [.ref q8, .int (nI 12), .int (nI 30), .int (nI 0)])) :: (q6, .inl (cy 0, 40, .inl (fun _ => 0))) :: (q5, .inr (8, [.ref q6, .int (nI 4), .int (nI 10), .int (nI 0)])) :: (q4, .inl (cy 0, 96, .inl (fun _ => 0))) :: (q3, .inr (8, [.ref q4, .int (nI 12), .int (nI 8), .int (nI 0)])) :: (q2, .inl (cy 0, 24, .inl (fun _ => 0))) :: (q1, .inr (8, [.ref q2, .int (nI 4), .int (nI 6), .int (nI 0)])) :: (a, .inr (7, [.ref q1, .ref q3, .ref q5, .ref q7, .null, .null, .int 0, .int 0])) :: E) q9 30 5 150 rfl (by decide)) zml_RX3_11 zci_X4_init rfl rfl ⟨Nat.le_of_ble_eq_true rfl, Nat.le_of_ble_eq_true rfl⟩ rfl rfl (Nat.le_of_ble_eq_true rfl) ⟨Nat.le_of_ble_eq_true rfl, Nat.le_of_ble_eq_true rfl⟩ dX3_init_70 ?_
  intro w h
  obtain ⟨q10, rfl⟩ := h
  refine n_putF C hnm (q0 := 10) (k := 4) (ci := 7) (N := 8) (ty := (.object "CinemaProgramme$Table")) (ty0 := tyX3) (v := .ref q9) (ws' := ((q10, .inl (cy 0, 150, .inl (fun _ => 0))) :: (q9, .inr (8, [.ref q10, .int (nI 5), .int (nI 30), .int (nI 0)])) :: (q8, .inl (cy 0, 360, .inl (fun _ => 0))) :: (q7, .inr (8, [.ref q8, .int (nI 12), .int (nI 30), .int (nI 0)])) :: (q6, .inl (cy 0, 40, .inl (fun _ => 0))) :: (q5, .inr (8, [.ref q6, .int (nI 4), .int (nI 10), .int (nI 0)])) :: (q4, .inl (cy 0, 96, .inl (fun _ => 0))) :: (q3, .inr (8, [.ref q4, .int (nI 12), .int (nI 8), .int (nI 0)])) :: (q2, .inl (cy 0, 24, .inl (fun _ => 0))) :: (q1, .inr (8, [.ref q2, .int (nI 4), .int (nI 6), .int (nI 0)])) :: (a, .inr (7, [.ref q1, .ref q3, .ref q5, .ref q7, .ref q9, .null, .int 0, .int 0])) :: E)) rfl rfl zin_RX3 (by decide) zfl_RX3_29 tyX3_ok nmX3 rfl rfl (by decide +kernel) rfl rfl (Nat.le_of_ble_eq_true rfl) rfl dX3_init_73 ?_
  refine g_aload_n (j := 0) C dX3_init_76 rfl rfl ?_
  refine n_new (ci := 8) (N := 4) (ty0 := tyX4) (fs := [.null, .int 0, .int 0, .int 0]) C zin_RX4 tyX4_ok zkl_RX3_9 zns_RX4 zni_RX4 rfl (by decide) (Nat.le_of_ble_eq_true rfl) (Nat.le_of_ble_eq_true rfl) dX3_init_77 (fun q11 => ?_)
  refine g_dup C dX3_init_80 rfl ?_
  refine g_iconst (v := (nI 1)) C dX3_init_81 (by decide) ?_
  refine g_bipush (v := (nI 26)) C dX3_init_82 (by decide) ?_
  refine n_init (As := [.int (nI 1), .int (nI 26)]) (rest := [.ref q11, .ref a]) zEi_ge hE C (c_X4_init l D cy ((q10, .inl (cy 0, 150, .inl (fun _ => 0))) :: (q9, .inr (8, [.ref q10, .int (nI 5), .int (nI 30), .int (nI 0)])) :: (q8, .inl (cy 0, 360, .inl (fun _ => 0))) :: (q7, .inr (8, [.ref q8, .int (nI 12), .int (nI 30), .int (nI 0)])) :: (q6, .inl (cy 0, 40, .inl (fun _ => 0))) :: (q5, .inr (8, [.ref q6, .int (nI 4), .int (nI 10), .int (nI 0)])) :: (q4, .inl (cy 0, 96, .inl (fun _ => 0))) :: (q3, .inr (8, [.ref q4, .int (nI 12), .int (nI 8), .int (nI 0)])) :: (q2, .inl (cy 0, 24, .inl (fun _ => 0))) :: (q1, .inr (8, [.ref q2, .int (nI 4), .int (nI 6), .int (nI 0)])) :: (a, .inr (7, [.ref q1, .ref q3, .ref q5, .ref q7, .ref q9, .null, .int 0, .int 0])) :: E) q11 1 26 26 rfl (by decide)) zml_RX3_11 zci_X4_init rfl rfl ⟨Nat.le_of_ble_eq_true rfl, Nat.le_of_ble_eq_true rfl⟩ rfl rfl (Nat.le_of_ble_eq_true rfl) ⟨Nat.le_of_ble_eq_true rfl, Nat.le_of_ble_eq_true rfl⟩ dX3_init_84 ?_
  intro w h
  obtain ⟨q12, rfl⟩ := h
  refine n_putF C hnm (q0 := 12) (k := 5) (ci := 7) (N := 8) (ty := (.object "CinemaProgramme$Table")) (ty0 := tyX3) (v := .ref q11) (ws' := ((q12, .inl (cy 0, 26, .inl (fun _ => 0))) :: (q11, .inr (8, [.ref q12, .int (nI 26), .int (nI 1), .int (nI 0)])) :: (q10, .inl (cy 0, 150, .inl (fun _ => 0))) :: (q9, .inr (8, [.ref q10, .int (nI 5), .int (nI 30), .int (nI 0)])) :: (q8, .inl (cy 0, 360, .inl (fun _ => 0))) :: (q7, .inr (8, [.ref q8, .int (nI 12), .int (nI 30), .int (nI 0)])) :: (q6, .inl (cy 0, 40, .inl (fun _ => 0))) :: (q5, .inr (8, [.ref q6, .int (nI 4), .int (nI 10), .int (nI 0)])) :: (q4, .inl (cy 0, 96, .inl (fun _ => 0))) :: (q3, .inr (8, [.ref q4, .int (nI 12), .int (nI 8), .int (nI 0)])) :: (q2, .inl (cy 0, 24, .inl (fun _ => 0))) :: (q1, .inr (8, [.ref q2, .int (nI 4), .int (nI 6), .int (nI 0)])) :: (a, .inr (7, [.ref q1, .ref q3, .ref q5, .ref q7, .ref q9, .ref q11, .int 0, .int 0])) :: E)) rfl rfl zin_RX3 (by decide) zfl_RX3_32 tyX3_ok nmX3 rfl rfl (by decide +kernel) rfl rfl (Nat.le_of_ble_eq_true rfl) rfl dX3_init_87 ?_
  refine g_aload_n (j := 0) C dX3_init_90 rfl rfl ?_
  refine g_iconst (v := (nI 0)) C dX3_init_91 (by decide) ?_
  refine p_put (q0 := 12) (k := 6) (ci := 7) (N := 8) (ty := .int) (ty0 := tyX3) (v := .int (nI 0)) (ws' := ((q12, .inl (cy 0, 26, .inl (fun _ => 0))) :: (q11, .inr (8, [.ref q12, .int (nI 26), .int (nI 1), .int (nI 0)])) :: (q10, .inl (cy 0, 150, .inl (fun _ => 0))) :: (q9, .inr (8, [.ref q10, .int (nI 5), .int (nI 30), .int (nI 0)])) :: (q8, .inl (cy 0, 360, .inl (fun _ => 0))) :: (q7, .inr (8, [.ref q8, .int (nI 12), .int (nI 30), .int (nI 0)])) :: (q6, .inl (cy 0, 40, .inl (fun _ => 0))) :: (q5, .inr (8, [.ref q6, .int (nI 4), .int (nI 10), .int (nI 0)])) :: (q4, .inl (cy 0, 96, .inl (fun _ => 0))) :: (q3, .inr (8, [.ref q4, .int (nI 12), .int (nI 8), .int (nI 0)])) :: (q2, .inl (cy 0, 24, .inl (fun _ => 0))) :: (q1, .inr (8, [.ref q2, .int (nI 4), .int (nI 6), .int (nI 0)])) :: (a, .inr (7, [.ref q1, .ref q3, .ref q5, .ref q7, .ref q9, .ref q11, .int (nI 0), .int 0])) :: E)) C rfl rfl zin_RX3 (by decide) zfl_RX3_35 tyX3_ok nmX3 rfl (by decide +kernel) rfl rfl (Nat.le_of_ble_eq_true rfl) rfl dX3_init_92 ?_
  refine g_aload_n (j := 0) C dX3_init_95 rfl rfl ?_
  refine g_iconst (v := (nI 0)) C dX3_init_96 (by decide) ?_
  refine p_put (q0 := 12) (k := 7) (ci := 7) (N := 8) (ty := .int) (ty0 := tyX3) (v := .int (nI 0)) (ws' := ((q12, .inl (cy 0, 26, .inl (fun _ => 0))) :: (q11, .inr (8, [.ref q12, .int (nI 26), .int (nI 1), .int (nI 0)])) :: (q10, .inl (cy 0, 150, .inl (fun _ => 0))) :: (q9, .inr (8, [.ref q10, .int (nI 5), .int (nI 30), .int (nI 0)])) :: (q8, .inl (cy 0, 360, .inl (fun _ => 0))) :: (q7, .inr (8, [.ref q8, .int (nI 12), .int (nI 30), .int (nI 0)])) :: (q6, .inl (cy 0, 40, .inl (fun _ => 0))) :: (q5, .inr (8, [.ref q6, .int (nI 4), .int (nI 10), .int (nI 0)])) :: (q4, .inl (cy 0, 96, .inl (fun _ => 0))) :: (q3, .inr (8, [.ref q4, .int (nI 12), .int (nI 8), .int (nI 0)])) :: (q2, .inl (cy 0, 24, .inl (fun _ => 0))) :: (q1, .inr (8, [.ref q2, .int (nI 4), .int (nI 6), .int (nI 0)])) :: (a, .inr (7, [.ref q1, .ref q3, .ref q5, .ref q7, .ref q9, .ref q11, .int (nI 0), .int (nI 0)])) :: E)) C rfl rfl zin_RX3 (by decide) zfl_RX3_39 tyX3_ok nmX3 rfl (by decide +kernel) rfl rfl (Nat.le_of_ble_eq_true rfl) rfl dX3_init_97 ?_
  refine g_iconst (v := (nI 0)) C dX3_init_100 (by decide) ?_
  refine g_istore_n (L' := [(1, .int (nI 0)), (0, .ref a)]) C dX3_init_101 rfl (by decide) rfl ?_
  refine g_iload_n (j := 0) C dX3_init_102 rfl rfl ?_
  refine n_getsN (v := .ref tf) C hZf hE.2.2.1 dX3_init_103 ?_
  refine p_tlen (N := 6) C hTf dX3_init_106 ?_
  refine g_icmp_ge C dX3_init_107 (tgt := 130) (by decide) (fun h9 => absurd h9 (by decide)) (fun _ => ?_)
  refine g_aload_n (j := 1) C dX3_init_110 rfl rfl ?_
  refine p_get (q0 := 12) (k := 5) (ci := 7) (N := 8) (v := .ref q11) C rfl rfl zin_RX3 (by decide) zfl_RX3_32 rfl dX3_init_111 ?_
  refine g_iconst (v := (nI 0)) C dX3_init_114 (by decide) ?_
  refine g_iload_n (j := 0) C dX3_init_115 rfl rfl ?_
  refine n_getsN (v := .ref tf) C hZf hE.2.2.1 dX3_init_116 ?_
  refine g_iload_n (j := 0) C dX3_init_119 rfl rfl ?_
  refine p_ti (v := .int (nI 10)) C hTf (nI_in (by decide) (by decide)) (by rw [nI_clamp (by decide)]; rfl) dX3_init_120 ?_
  refine t_Vv (As := [.int (nI 0), .int (nI 0), .int (nI 10)]) (rest := []) zEi_ge hE C (c_X4_put0 l D cy ((q10, .inl (cy 0, 150, .inl (fun _ => 0))) :: (q9, .inr (8, [.ref q10, .int (nI 5), .int (nI 30), .int (nI 0)])) :: (q8, .inl (cy 0, 360, .inl (fun _ => 0))) :: (q7, .inr (8, [.ref q8, .int (nI 12), .int (nI 30), .int (nI 0)])) :: (q6, .inl (cy 0, 40, .inl (fun _ => 0))) :: (q5, .inr (8, [.ref q6, .int (nI 4), .int (nI 10), .int (nI 0)])) :: (q4, .inl (cy 0, 96, .inl (fun _ => 0))) :: (q3, .inr (8, [.ref q4, .int (nI 12), .int (nI 8), .int (nI 0)])) :: (q2, .inl (cy 0, 24, .inl (fun _ => 0))) :: (q1, .inr (8, [.ref q2, .int (nI 4), .int (nI 6), .int (nI 0)])) :: (a, .inr (7, [.ref q1, .ref q3, .ref q5, .ref q7, .ref q9, .ref q11, .int (nI 0), .int (nI 0)])) :: E) q11 q12 0 (nI 10) (fun _ => 0) (by decide)) zml_RX3_46 zcv_X4_put (zRec.of C (ci := 8) (q0 := 1) rfl rfl) rfl rfl ⟨Nat.le_of_ble_eq_true rfl, Nat.le_of_ble_eq_true rfl⟩ rfl rfl (Nat.le_of_ble_eq_true rfl) ⟨Nat.le_of_ble_eq_true rfl, Nat.le_of_ble_eq_true rfl⟩ dX3_init_121 ?_
  intro w h
  obtain rfl : w = ((q12, .inl (cy 0, 26, .inl (zF 1))) :: (q11, .inr (8, [.ref q12, .int (nI 26), .int (nI 1), .int (nI 0)])) :: (q10, .inl (cy 0, 150, .inl (fun _ => 0))) :: (q9, .inr (8, [.ref q10, .int (nI 5), .int (nI 30), .int (nI 0)])) :: (q8, .inl (cy 0, 360, .inl (fun _ => 0))) :: (q7, .inr (8, [.ref q8, .int (nI 12), .int (nI 30), .int (nI 0)])) :: (q6, .inl (cy 0, 40, .inl (fun _ => 0))) :: (q5, .inr (8, [.ref q6, .int (nI 4), .int (nI 10), .int (nI 0)])) :: (q4, .inl (cy 0, 96, .inl (fun _ => 0))) :: (q3, .inr (8, [.ref q4, .int (nI 12), .int (nI 8), .int (nI 0)])) :: (q2, .inl (cy 0, 24, .inl (fun _ => 0))) :: (q1, .inr (8, [.ref q2, .int (nI 4), .int (nI 6), .int (nI 0)])) :: (a, .inr (7, [.ref q1, .ref q3, .ref q5, .ref q7, .ref q9, .ref q11, .int (nI 0), .int (nI 0)])) :: E) := h
  refine g_iinc (k := 0) (L' := [(1, .int (nI 1)), (0, .ref a)]) C dX3_init_124 rfl (by decide) (by decide) rfl ?_
  refine g_goto C dX3_init_127 (tgt := 102) (by decide) ?_
  refine g_iload_n (j := 0) C dX3_init_102 rfl rfl ?_
  refine n_getsN (v := .ref tf) C hZf hE.2.2.1 dX3_init_103 ?_
  refine p_tlen (N := 6) C hTf dX3_init_106 ?_
  refine g_icmp_ge C dX3_init_107 (tgt := 130) (by decide) (fun h9 => absurd h9 (by decide)) (fun _ => ?_)
  refine g_aload_n (j := 1) C dX3_init_110 rfl rfl ?_
  refine p_get (q0 := 12) (k := 5) (ci := 7) (N := 8) (v := .ref q11) C rfl rfl zin_RX3 (by decide) zfl_RX3_32 rfl dX3_init_111 ?_
  refine g_iconst (v := (nI 0)) C dX3_init_114 (by decide) ?_
  refine g_iload_n (j := 0) C dX3_init_115 rfl rfl ?_
  refine n_getsN (v := .ref tf) C hZf hE.2.2.1 dX3_init_116 ?_
  refine g_iload_n (j := 0) C dX3_init_119 rfl rfl ?_
  refine p_ti (v := .int (nI 2)) C hTf (nI_in (by decide) (by decide)) (by rw [nI_clamp (by decide)]; rfl) dX3_init_120 ?_
  refine t_Vv (As := [.int (nI 0), .int (nI 1), .int (nI 2)]) (rest := []) zEi_ge hE C (c_X4_put0 l D cy ((q10, .inl (cy 0, 150, .inl (fun _ => 0))) :: (q9, .inr (8, [.ref q10, .int (nI 5), .int (nI 30), .int (nI 0)])) :: (q8, .inl (cy 0, 360, .inl (fun _ => 0))) :: (q7, .inr (8, [.ref q8, .int (nI 12), .int (nI 30), .int (nI 0)])) :: (q6, .inl (cy 0, 40, .inl (fun _ => 0))) :: (q5, .inr (8, [.ref q6, .int (nI 4), .int (nI 10), .int (nI 0)])) :: (q4, .inl (cy 0, 96, .inl (fun _ => 0))) :: (q3, .inr (8, [.ref q4, .int (nI 12), .int (nI 8), .int (nI 0)])) :: (q2, .inl (cy 0, 24, .inl (fun _ => 0))) :: (q1, .inr (8, [.ref q2, .int (nI 4), .int (nI 6), .int (nI 0)])) :: (a, .inr (7, [.ref q1, .ref q3, .ref q5, .ref q7, .ref q9, .ref q11, .int (nI 0), .int (nI 0)])) :: E) q11 q12 1 (nI 2) (zF 1) (by decide)) zml_RX3_46 zcv_X4_put (zRec.of C (ci := 8) (q0 := 1) rfl rfl) rfl rfl ⟨Nat.le_of_ble_eq_true rfl, Nat.le_of_ble_eq_true rfl⟩ rfl rfl (Nat.le_of_ble_eq_true rfl) ⟨Nat.le_of_ble_eq_true rfl, Nat.le_of_ble_eq_true rfl⟩ dX3_init_121 ?_
  intro w h
  obtain rfl : w = ((q12, .inl (cy 0, 26, .inl (zF 2))) :: (q11, .inr (8, [.ref q12, .int (nI 26), .int (nI 1), .int (nI 0)])) :: (q10, .inl (cy 0, 150, .inl (fun _ => 0))) :: (q9, .inr (8, [.ref q10, .int (nI 5), .int (nI 30), .int (nI 0)])) :: (q8, .inl (cy 0, 360, .inl (fun _ => 0))) :: (q7, .inr (8, [.ref q8, .int (nI 12), .int (nI 30), .int (nI 0)])) :: (q6, .inl (cy 0, 40, .inl (fun _ => 0))) :: (q5, .inr (8, [.ref q6, .int (nI 4), .int (nI 10), .int (nI 0)])) :: (q4, .inl (cy 0, 96, .inl (fun _ => 0))) :: (q3, .inr (8, [.ref q4, .int (nI 12), .int (nI 8), .int (nI 0)])) :: (q2, .inl (cy 0, 24, .inl (fun _ => 0))) :: (q1, .inr (8, [.ref q2, .int (nI 4), .int (nI 6), .int (nI 0)])) :: (a, .inr (7, [.ref q1, .ref q3, .ref q5, .ref q7, .ref q9, .ref q11, .int (nI 0), .int (nI 0)])) :: E) := h
  refine g_iinc (k := 0) (L' := [(1, .int (nI 2)), (0, .ref a)]) C dX3_init_124 rfl (by decide) (by decide) rfl ?_
  refine g_goto C dX3_init_127 (tgt := 102) (by decide) ?_
  refine g_iload_n (j := 0) C dX3_init_102 rfl rfl ?_
  refine n_getsN (v := .ref tf) C hZf hE.2.2.1 dX3_init_103 ?_
  refine p_tlen (N := 6) C hTf dX3_init_106 ?_
  refine g_icmp_ge C dX3_init_107 (tgt := 130) (by decide) (fun h9 => absurd h9 (by decide)) (fun _ => ?_)
  refine g_aload_n (j := 1) C dX3_init_110 rfl rfl ?_
  refine p_get (q0 := 12) (k := 5) (ci := 7) (N := 8) (v := .ref q11) C rfl rfl zin_RX3 (by decide) zfl_RX3_32 rfl dX3_init_111 ?_
  refine g_iconst (v := (nI 0)) C dX3_init_114 (by decide) ?_
  refine g_iload_n (j := 0) C dX3_init_115 rfl rfl ?_
  refine n_getsN (v := .ref tf) C hZf hE.2.2.1 dX3_init_116 ?_
  refine g_iload_n (j := 0) C dX3_init_119 rfl rfl ?_
  refine p_ti (v := .int (nI 15)) C hTf (nI_in (by decide) (by decide)) (by rw [nI_clamp (by decide)]; rfl) dX3_init_120 ?_
  refine t_Vv (As := [.int (nI 0), .int (nI 2), .int (nI 15)]) (rest := []) zEi_ge hE C (c_X4_put0 l D cy ((q10, .inl (cy 0, 150, .inl (fun _ => 0))) :: (q9, .inr (8, [.ref q10, .int (nI 5), .int (nI 30), .int (nI 0)])) :: (q8, .inl (cy 0, 360, .inl (fun _ => 0))) :: (q7, .inr (8, [.ref q8, .int (nI 12), .int (nI 30), .int (nI 0)])) :: (q6, .inl (cy 0, 40, .inl (fun _ => 0))) :: (q5, .inr (8, [.ref q6, .int (nI 4), .int (nI 10), .int (nI 0)])) :: (q4, .inl (cy 0, 96, .inl (fun _ => 0))) :: (q3, .inr (8, [.ref q4, .int (nI 12), .int (nI 8), .int (nI 0)])) :: (q2, .inl (cy 0, 24, .inl (fun _ => 0))) :: (q1, .inr (8, [.ref q2, .int (nI 4), .int (nI 6), .int (nI 0)])) :: (a, .inr (7, [.ref q1, .ref q3, .ref q5, .ref q7, .ref q9, .ref q11, .int (nI 0), .int (nI 0)])) :: E) q11 q12 2 (nI 15) (zF 2) (by decide)) zml_RX3_46 zcv_X4_put (zRec.of C (ci := 8) (q0 := 1) rfl rfl) rfl rfl ⟨Nat.le_of_ble_eq_true rfl, Nat.le_of_ble_eq_true rfl⟩ rfl rfl (Nat.le_of_ble_eq_true rfl) ⟨Nat.le_of_ble_eq_true rfl, Nat.le_of_ble_eq_true rfl⟩ dX3_init_121 ?_
  intro w h
  obtain rfl : w = ((q12, .inl (cy 0, 26, .inl (zF 3))) :: (q11, .inr (8, [.ref q12, .int (nI 26), .int (nI 1), .int (nI 0)])) :: (q10, .inl (cy 0, 150, .inl (fun _ => 0))) :: (q9, .inr (8, [.ref q10, .int (nI 5), .int (nI 30), .int (nI 0)])) :: (q8, .inl (cy 0, 360, .inl (fun _ => 0))) :: (q7, .inr (8, [.ref q8, .int (nI 12), .int (nI 30), .int (nI 0)])) :: (q6, .inl (cy 0, 40, .inl (fun _ => 0))) :: (q5, .inr (8, [.ref q6, .int (nI 4), .int (nI 10), .int (nI 0)])) :: (q4, .inl (cy 0, 96, .inl (fun _ => 0))) :: (q3, .inr (8, [.ref q4, .int (nI 12), .int (nI 8), .int (nI 0)])) :: (q2, .inl (cy 0, 24, .inl (fun _ => 0))) :: (q1, .inr (8, [.ref q2, .int (nI 4), .int (nI 6), .int (nI 0)])) :: (a, .inr (7, [.ref q1, .ref q3, .ref q5, .ref q7, .ref q9, .ref q11, .int (nI 0), .int (nI 0)])) :: E) := h
  refine g_iinc (k := 0) (L' := [(1, .int (nI 3)), (0, .ref a)]) C dX3_init_124 rfl (by decide) (by decide) rfl ?_
  refine g_goto C dX3_init_127 (tgt := 102) (by decide) ?_
  refine g_iload_n (j := 0) C dX3_init_102 rfl rfl ?_
  refine n_getsN (v := .ref tf) C hZf hE.2.2.1 dX3_init_103 ?_
  refine p_tlen (N := 6) C hTf dX3_init_106 ?_
  refine g_icmp_ge C dX3_init_107 (tgt := 130) (by decide) (fun h9 => absurd h9 (by decide)) (fun _ => ?_)
  refine g_aload_n (j := 1) C dX3_init_110 rfl rfl ?_
  refine p_get (q0 := 12) (k := 5) (ci := 7) (N := 8) (v := .ref q11) C rfl rfl zin_RX3 (by decide) zfl_RX3_32 rfl dX3_init_111 ?_
  refine g_iconst (v := (nI 0)) C dX3_init_114 (by decide) ?_
  refine g_iload_n (j := 0) C dX3_init_115 rfl rfl ?_
  refine n_getsN (v := .ref tf) C hZf hE.2.2.1 dX3_init_116 ?_
  refine g_iload_n (j := 0) C dX3_init_119 rfl rfl ?_
  refine p_ti (v := .int (nI 10)) C hTf (nI_in (by decide) (by decide)) (by rw [nI_clamp (by decide)]; rfl) dX3_init_120 ?_
  refine t_Vv (As := [.int (nI 0), .int (nI 3), .int (nI 10)]) (rest := []) zEi_ge hE C (c_X4_put0 l D cy ((q10, .inl (cy 0, 150, .inl (fun _ => 0))) :: (q9, .inr (8, [.ref q10, .int (nI 5), .int (nI 30), .int (nI 0)])) :: (q8, .inl (cy 0, 360, .inl (fun _ => 0))) :: (q7, .inr (8, [.ref q8, .int (nI 12), .int (nI 30), .int (nI 0)])) :: (q6, .inl (cy 0, 40, .inl (fun _ => 0))) :: (q5, .inr (8, [.ref q6, .int (nI 4), .int (nI 10), .int (nI 0)])) :: (q4, .inl (cy 0, 96, .inl (fun _ => 0))) :: (q3, .inr (8, [.ref q4, .int (nI 12), .int (nI 8), .int (nI 0)])) :: (q2, .inl (cy 0, 24, .inl (fun _ => 0))) :: (q1, .inr (8, [.ref q2, .int (nI 4), .int (nI 6), .int (nI 0)])) :: (a, .inr (7, [.ref q1, .ref q3, .ref q5, .ref q7, .ref q9, .ref q11, .int (nI 0), .int (nI 0)])) :: E) q11 q12 3 (nI 10) (zF 3) (by decide)) zml_RX3_46 zcv_X4_put (zRec.of C (ci := 8) (q0 := 1) rfl rfl) rfl rfl ⟨Nat.le_of_ble_eq_true rfl, Nat.le_of_ble_eq_true rfl⟩ rfl rfl (Nat.le_of_ble_eq_true rfl) ⟨Nat.le_of_ble_eq_true rfl, Nat.le_of_ble_eq_true rfl⟩ dX3_init_121 ?_
  intro w h
  obtain rfl : w = ((q12, .inl (cy 0, 26, .inl (zF 4))) :: (q11, .inr (8, [.ref q12, .int (nI 26), .int (nI 1), .int (nI 0)])) :: (q10, .inl (cy 0, 150, .inl (fun _ => 0))) :: (q9, .inr (8, [.ref q10, .int (nI 5), .int (nI 30), .int (nI 0)])) :: (q8, .inl (cy 0, 360, .inl (fun _ => 0))) :: (q7, .inr (8, [.ref q8, .int (nI 12), .int (nI 30), .int (nI 0)])) :: (q6, .inl (cy 0, 40, .inl (fun _ => 0))) :: (q5, .inr (8, [.ref q6, .int (nI 4), .int (nI 10), .int (nI 0)])) :: (q4, .inl (cy 0, 96, .inl (fun _ => 0))) :: (q3, .inr (8, [.ref q4, .int (nI 12), .int (nI 8), .int (nI 0)])) :: (q2, .inl (cy 0, 24, .inl (fun _ => 0))) :: (q1, .inr (8, [.ref q2, .int (nI 4), .int (nI 6), .int (nI 0)])) :: (a, .inr (7, [.ref q1, .ref q3, .ref q5, .ref q7, .ref q9, .ref q11, .int (nI 0), .int (nI 0)])) :: E) := h
  refine g_iinc (k := 0) (L' := [(1, .int (nI 4)), (0, .ref a)]) C dX3_init_124 rfl (by decide) (by decide) rfl ?_
  refine g_goto C dX3_init_127 (tgt := 102) (by decide) ?_
  refine g_iload_n (j := 0) C dX3_init_102 rfl rfl ?_
  refine n_getsN (v := .ref tf) C hZf hE.2.2.1 dX3_init_103 ?_
  refine p_tlen (N := 6) C hTf dX3_init_106 ?_
  refine g_icmp_ge C dX3_init_107 (tgt := 130) (by decide) (fun h9 => absurd h9 (by decide)) (fun _ => ?_)
  refine g_aload_n (j := 1) C dX3_init_110 rfl rfl ?_
  refine p_get (q0 := 12) (k := 5) (ci := 7) (N := 8) (v := .ref q11) C rfl rfl zin_RX3 (by decide) zfl_RX3_32 rfl dX3_init_111 ?_
  refine g_iconst (v := (nI 0)) C dX3_init_114 (by decide) ?_
  refine g_iload_n (j := 0) C dX3_init_115 rfl rfl ?_
  refine n_getsN (v := .ref tf) C hZf hE.2.2.1 dX3_init_116 ?_
  refine g_iload_n (j := 0) C dX3_init_119 rfl rfl ?_
  refine p_ti (v := .int (nI 60)) C hTf (nI_in (by decide) (by decide)) (by rw [nI_clamp (by decide)]; rfl) dX3_init_120 ?_
  refine t_Vv (As := [.int (nI 0), .int (nI 4), .int (nI 60)]) (rest := []) zEi_ge hE C (c_X4_put0 l D cy ((q10, .inl (cy 0, 150, .inl (fun _ => 0))) :: (q9, .inr (8, [.ref q10, .int (nI 5), .int (nI 30), .int (nI 0)])) :: (q8, .inl (cy 0, 360, .inl (fun _ => 0))) :: (q7, .inr (8, [.ref q8, .int (nI 12), .int (nI 30), .int (nI 0)])) :: (q6, .inl (cy 0, 40, .inl (fun _ => 0))) :: (q5, .inr (8, [.ref q6, .int (nI 4), .int (nI 10), .int (nI 0)])) :: (q4, .inl (cy 0, 96, .inl (fun _ => 0))) :: (q3, .inr (8, [.ref q4, .int (nI 12), .int (nI 8), .int (nI 0)])) :: (q2, .inl (cy 0, 24, .inl (fun _ => 0))) :: (q1, .inr (8, [.ref q2, .int (nI 4), .int (nI 6), .int (nI 0)])) :: (a, .inr (7, [.ref q1, .ref q3, .ref q5, .ref q7, .ref q9, .ref q11, .int (nI 0), .int (nI 0)])) :: E) q11 q12 4 (nI 60) (zF 4) (by decide)) zml_RX3_46 zcv_X4_put (zRec.of C (ci := 8) (q0 := 1) rfl rfl) rfl rfl ⟨Nat.le_of_ble_eq_true rfl, Nat.le_of_ble_eq_true rfl⟩ rfl rfl (Nat.le_of_ble_eq_true rfl) ⟨Nat.le_of_ble_eq_true rfl, Nat.le_of_ble_eq_true rfl⟩ dX3_init_121 ?_
  intro w h
  obtain rfl : w = ((q12, .inl (cy 0, 26, .inl (zF 5))) :: (q11, .inr (8, [.ref q12, .int (nI 26), .int (nI 1), .int (nI 0)])) :: (q10, .inl (cy 0, 150, .inl (fun _ => 0))) :: (q9, .inr (8, [.ref q10, .int (nI 5), .int (nI 30), .int (nI 0)])) :: (q8, .inl (cy 0, 360, .inl (fun _ => 0))) :: (q7, .inr (8, [.ref q8, .int (nI 12), .int (nI 30), .int (nI 0)])) :: (q6, .inl (cy 0, 40, .inl (fun _ => 0))) :: (q5, .inr (8, [.ref q6, .int (nI 4), .int (nI 10), .int (nI 0)])) :: (q4, .inl (cy 0, 96, .inl (fun _ => 0))) :: (q3, .inr (8, [.ref q4, .int (nI 12), .int (nI 8), .int (nI 0)])) :: (q2, .inl (cy 0, 24, .inl (fun _ => 0))) :: (q1, .inr (8, [.ref q2, .int (nI 4), .int (nI 6), .int (nI 0)])) :: (a, .inr (7, [.ref q1, .ref q3, .ref q5, .ref q7, .ref q9, .ref q11, .int (nI 0), .int (nI 0)])) :: E) := h
  refine g_iinc (k := 0) (L' := [(1, .int (nI 5)), (0, .ref a)]) C dX3_init_124 rfl (by decide) (by decide) rfl ?_
  refine g_goto C dX3_init_127 (tgt := 102) (by decide) ?_
  refine g_iload_n (j := 0) C dX3_init_102 rfl rfl ?_
  refine n_getsN (v := .ref tf) C hZf hE.2.2.1 dX3_init_103 ?_
  refine p_tlen (N := 6) C hTf dX3_init_106 ?_
  refine g_icmp_ge C dX3_init_107 (tgt := 130) (by decide) (fun h9 => absurd h9 (by decide)) (fun _ => ?_)
  refine g_aload_n (j := 1) C dX3_init_110 rfl rfl ?_
  refine p_get (q0 := 12) (k := 5) (ci := 7) (N := 8) (v := .ref q11) C rfl rfl zin_RX3 (by decide) zfl_RX3_32 rfl dX3_init_111 ?_
  refine g_iconst (v := (nI 0)) C dX3_init_114 (by decide) ?_
  refine g_iload_n (j := 0) C dX3_init_115 rfl rfl ?_
  refine n_getsN (v := .ref tf) C hZf hE.2.2.1 dX3_init_116 ?_
  refine g_iload_n (j := 0) C dX3_init_119 rfl rfl ?_
  refine p_ti (v := .int (nI 10)) C hTf (nI_in (by decide) (by decide)) (by rw [nI_clamp (by decide)]; rfl) dX3_init_120 ?_
  refine t_Vv (As := [.int (nI 0), .int (nI 5), .int (nI 10)]) (rest := []) zEi_ge hE C (c_X4_put0 l D cy ((q10, .inl (cy 0, 150, .inl (fun _ => 0))) :: (q9, .inr (8, [.ref q10, .int (nI 5), .int (nI 30), .int (nI 0)])) :: (q8, .inl (cy 0, 360, .inl (fun _ => 0))) :: (q7, .inr (8, [.ref q8, .int (nI 12), .int (nI 30), .int (nI 0)])) :: (q6, .inl (cy 0, 40, .inl (fun _ => 0))) :: (q5, .inr (8, [.ref q6, .int (nI 4), .int (nI 10), .int (nI 0)])) :: (q4, .inl (cy 0, 96, .inl (fun _ => 0))) :: (q3, .inr (8, [.ref q4, .int (nI 12), .int (nI 8), .int (nI 0)])) :: (q2, .inl (cy 0, 24, .inl (fun _ => 0))) :: (q1, .inr (8, [.ref q2, .int (nI 4), .int (nI 6), .int (nI 0)])) :: (a, .inr (7, [.ref q1, .ref q3, .ref q5, .ref q7, .ref q9, .ref q11, .int (nI 0), .int (nI 0)])) :: E) q11 q12 5 (nI 10) (zF 5) (by decide)) zml_RX3_46 zcv_X4_put (zRec.of C (ci := 8) (q0 := 1) rfl rfl) rfl rfl ⟨Nat.le_of_ble_eq_true rfl, Nat.le_of_ble_eq_true rfl⟩ rfl rfl (Nat.le_of_ble_eq_true rfl) ⟨Nat.le_of_ble_eq_true rfl, Nat.le_of_ble_eq_true rfl⟩ dX3_init_121 ?_
  intro w h
  obtain rfl : w = ((q12, .inl (cy 0, 26, .inl (zF 6))) :: (q11, .inr (8, [.ref q12, .int (nI 26), .int (nI 1), .int (nI 0)])) :: (q10, .inl (cy 0, 150, .inl (fun _ => 0))) :: (q9, .inr (8, [.ref q10, .int (nI 5), .int (nI 30), .int (nI 0)])) :: (q8, .inl (cy 0, 360, .inl (fun _ => 0))) :: (q7, .inr (8, [.ref q8, .int (nI 12), .int (nI 30), .int (nI 0)])) :: (q6, .inl (cy 0, 40, .inl (fun _ => 0))) :: (q5, .inr (8, [.ref q6, .int (nI 4), .int (nI 10), .int (nI 0)])) :: (q4, .inl (cy 0, 96, .inl (fun _ => 0))) :: (q3, .inr (8, [.ref q4, .int (nI 12), .int (nI 8), .int (nI 0)])) :: (q2, .inl (cy 0, 24, .inl (fun _ => 0))) :: (q1, .inr (8, [.ref q2, .int (nI 4), .int (nI 6), .int (nI 0)])) :: (a, .inr (7, [.ref q1, .ref q3, .ref q5, .ref q7, .ref q9, .ref q11, .int (nI 0), .int (nI 0)])) :: E) := h
  refine g_iinc (k := 0) (L' := [(1, .int (nI 6)), (0, .ref a)]) C dX3_init_124 rfl (by decide) (by decide) rfl ?_
  refine g_goto C dX3_init_127 (tgt := 102) (by decide) ?_
  refine g_iload_n (j := 0) C dX3_init_102 rfl rfl ?_
  refine n_getsN (v := .ref tf) C hZf hE.2.2.1 dX3_init_103 ?_
  refine p_tlen (N := 6) C hTf dX3_init_106 ?_
  refine g_icmp_ge C dX3_init_107 (tgt := 130) (by decide) (fun _ => ?_) (fun h9 => absurd (by decide) h9)
  refine g_iconst (v := (nI 0)) C dX3_init_130 (by decide) ?_
  refine g_istore_n (L' := [(1, .int (nI 0)), (0, .ref a)]) C dX3_init_131 rfl (by decide) rfl ?_
  refine g_iload_n (j := 0) C dX3_init_132 rfl rfl ?_
  refine g_bipush (v := (nI 16)) C dX3_init_133 (by decide) ?_
  refine g_icmp_ge C dX3_init_135 (tgt := 157) (by decide) (fun h9 => absurd h9 (by decide)) (fun _ => ?_)
  refine g_aload_n (j := 1) C dX3_init_138 rfl rfl ?_
  refine p_get (q0 := 12) (k := 5) (ci := 7) (N := 8) (v := .ref q11) C rfl rfl zin_RX3 (by decide) zfl_RX3_32 rfl dX3_init_139 ?_
  refine g_iconst (v := (nI 0)) C dX3_init_142 (by decide) ?_
  refine g_bipush (v := (nI 10)) C dX3_init_143 (by decide) ?_
  refine g_iload_n (j := 0) C dX3_init_145 rfl rfl ?_
  refine g_iadd C dX3_init_146 ?_
  refine p_num (y := (nI 10)) (by decide) ?_
  refine g_iconst (v := (nI 3)) C dX3_init_147 (by decide) ?_
  refine t_Vv (As := [.int (nI 0), .int (nI 10), .int (nI 3)]) (rest := []) zEi_ge hE C (c_X4_put0 l D cy ((q10, .inl (cy 0, 150, .inl (fun _ => 0))) :: (q9, .inr (8, [.ref q10, .int (nI 5), .int (nI 30), .int (nI 0)])) :: (q8, .inl (cy 0, 360, .inl (fun _ => 0))) :: (q7, .inr (8, [.ref q8, .int (nI 12), .int (nI 30), .int (nI 0)])) :: (q6, .inl (cy 0, 40, .inl (fun _ => 0))) :: (q5, .inr (8, [.ref q6, .int (nI 4), .int (nI 10), .int (nI 0)])) :: (q4, .inl (cy 0, 96, .inl (fun _ => 0))) :: (q3, .inr (8, [.ref q4, .int (nI 12), .int (nI 8), .int (nI 0)])) :: (q2, .inl (cy 0, 24, .inl (fun _ => 0))) :: (q1, .inr (8, [.ref q2, .int (nI 4), .int (nI 6), .int (nI 0)])) :: (a, .inr (7, [.ref q1, .ref q3, .ref q5, .ref q7, .ref q9, .ref q11, .int (nI 0), .int (nI 0)])) :: E) q11 q12 10 (nI 3) (zF 6) (by decide)) zml_RX3_46 zcv_X4_put (zRec.of C (ci := 8) (q0 := 1) rfl rfl) rfl rfl ⟨Nat.le_of_ble_eq_true rfl, Nat.le_of_ble_eq_true rfl⟩ rfl rfl (Nat.le_of_ble_eq_true rfl) ⟨Nat.le_of_ble_eq_true rfl, Nat.le_of_ble_eq_true rfl⟩ dX3_init_148 ?_
  intro w h
  obtain rfl : w = ((q12, .inl (cy 0, 26, .inl (zF 7))) :: (q11, .inr (8, [.ref q12, .int (nI 26), .int (nI 1), .int (nI 0)])) :: (q10, .inl (cy 0, 150, .inl (fun _ => 0))) :: (q9, .inr (8, [.ref q10, .int (nI 5), .int (nI 30), .int (nI 0)])) :: (q8, .inl (cy 0, 360, .inl (fun _ => 0))) :: (q7, .inr (8, [.ref q8, .int (nI 12), .int (nI 30), .int (nI 0)])) :: (q6, .inl (cy 0, 40, .inl (fun _ => 0))) :: (q5, .inr (8, [.ref q6, .int (nI 4), .int (nI 10), .int (nI 0)])) :: (q4, .inl (cy 0, 96, .inl (fun _ => 0))) :: (q3, .inr (8, [.ref q4, .int (nI 12), .int (nI 8), .int (nI 0)])) :: (q2, .inl (cy 0, 24, .inl (fun _ => 0))) :: (q1, .inr (8, [.ref q2, .int (nI 4), .int (nI 6), .int (nI 0)])) :: (a, .inr (7, [.ref q1, .ref q3, .ref q5, .ref q7, .ref q9, .ref q11, .int (nI 0), .int (nI 0)])) :: E) := h
  refine g_iinc (k := 0) (L' := [(1, .int (nI 1)), (0, .ref a)]) C dX3_init_151 rfl (by decide) (by decide) rfl ?_
  refine g_goto C dX3_init_154 (tgt := 132) (by decide) ?_
  refine g_iload_n (j := 0) C dX3_init_132 rfl rfl ?_
  refine g_bipush (v := (nI 16)) C dX3_init_133 (by decide) ?_
  refine g_icmp_ge C dX3_init_135 (tgt := 157) (by decide) (fun h9 => absurd h9 (by decide)) (fun _ => ?_)
  refine g_aload_n (j := 1) C dX3_init_138 rfl rfl ?_
  refine p_get (q0 := 12) (k := 5) (ci := 7) (N := 8) (v := .ref q11) C rfl rfl zin_RX3 (by decide) zfl_RX3_32 rfl dX3_init_139 ?_
  refine g_iconst (v := (nI 0)) C dX3_init_142 (by decide) ?_
  refine g_bipush (v := (nI 10)) C dX3_init_143 (by decide) ?_
  refine g_iload_n (j := 0) C dX3_init_145 rfl rfl ?_
  refine g_iadd C dX3_init_146 ?_
  refine p_num (y := (nI 11)) (by decide) ?_
  refine g_iconst (v := (nI 3)) C dX3_init_147 (by decide) ?_
  refine t_Vv (As := [.int (nI 0), .int (nI 11), .int (nI 3)]) (rest := []) zEi_ge hE C (c_X4_put0 l D cy ((q10, .inl (cy 0, 150, .inl (fun _ => 0))) :: (q9, .inr (8, [.ref q10, .int (nI 5), .int (nI 30), .int (nI 0)])) :: (q8, .inl (cy 0, 360, .inl (fun _ => 0))) :: (q7, .inr (8, [.ref q8, .int (nI 12), .int (nI 30), .int (nI 0)])) :: (q6, .inl (cy 0, 40, .inl (fun _ => 0))) :: (q5, .inr (8, [.ref q6, .int (nI 4), .int (nI 10), .int (nI 0)])) :: (q4, .inl (cy 0, 96, .inl (fun _ => 0))) :: (q3, .inr (8, [.ref q4, .int (nI 12), .int (nI 8), .int (nI 0)])) :: (q2, .inl (cy 0, 24, .inl (fun _ => 0))) :: (q1, .inr (8, [.ref q2, .int (nI 4), .int (nI 6), .int (nI 0)])) :: (a, .inr (7, [.ref q1, .ref q3, .ref q5, .ref q7, .ref q9, .ref q11, .int (nI 0), .int (nI 0)])) :: E) q11 q12 11 (nI 3) (zF 7) (by decide)) zml_RX3_46 zcv_X4_put (zRec.of C (ci := 8) (q0 := 1) rfl rfl) rfl rfl ⟨Nat.le_of_ble_eq_true rfl, Nat.le_of_ble_eq_true rfl⟩ rfl rfl (Nat.le_of_ble_eq_true rfl) ⟨Nat.le_of_ble_eq_true rfl, Nat.le_of_ble_eq_true rfl⟩ dX3_init_148 ?_
  intro w h
  obtain rfl : w = ((q12, .inl (cy 0, 26, .inl (zF 8))) :: (q11, .inr (8, [.ref q12, .int (nI 26), .int (nI 1), .int (nI 0)])) :: (q10, .inl (cy 0, 150, .inl (fun _ => 0))) :: (q9, .inr (8, [.ref q10, .int (nI 5), .int (nI 30), .int (nI 0)])) :: (q8, .inl (cy 0, 360, .inl (fun _ => 0))) :: (q7, .inr (8, [.ref q8, .int (nI 12), .int (nI 30), .int (nI 0)])) :: (q6, .inl (cy 0, 40, .inl (fun _ => 0))) :: (q5, .inr (8, [.ref q6, .int (nI 4), .int (nI 10), .int (nI 0)])) :: (q4, .inl (cy 0, 96, .inl (fun _ => 0))) :: (q3, .inr (8, [.ref q4, .int (nI 12), .int (nI 8), .int (nI 0)])) :: (q2, .inl (cy 0, 24, .inl (fun _ => 0))) :: (q1, .inr (8, [.ref q2, .int (nI 4), .int (nI 6), .int (nI 0)])) :: (a, .inr (7, [.ref q1, .ref q3, .ref q5, .ref q7, .ref q9, .ref q11, .int (nI 0), .int (nI 0)])) :: E) := h
  refine g_iinc (k := 0) (L' := [(1, .int (nI 2)), (0, .ref a)]) C dX3_init_151 rfl (by decide) (by decide) rfl ?_
  refine g_goto C dX3_init_154 (tgt := 132) (by decide) ?_
  refine g_iload_n (j := 0) C dX3_init_132 rfl rfl ?_
  refine g_bipush (v := (nI 16)) C dX3_init_133 (by decide) ?_
  refine g_icmp_ge C dX3_init_135 (tgt := 157) (by decide) (fun h9 => absurd h9 (by decide)) (fun _ => ?_)
  refine g_aload_n (j := 1) C dX3_init_138 rfl rfl ?_
  refine p_get (q0 := 12) (k := 5) (ci := 7) (N := 8) (v := .ref q11) C rfl rfl zin_RX3 (by decide) zfl_RX3_32 rfl dX3_init_139 ?_
  refine g_iconst (v := (nI 0)) C dX3_init_142 (by decide) ?_
  refine g_bipush (v := (nI 10)) C dX3_init_143 (by decide) ?_
  refine g_iload_n (j := 0) C dX3_init_145 rfl rfl ?_
  refine g_iadd C dX3_init_146 ?_
  refine p_num (y := (nI 12)) (by decide) ?_
  refine g_iconst (v := (nI 3)) C dX3_init_147 (by decide) ?_
  refine t_Vv (As := [.int (nI 0), .int (nI 12), .int (nI 3)]) (rest := []) zEi_ge hE C (c_X4_put0 l D cy ((q10, .inl (cy 0, 150, .inl (fun _ => 0))) :: (q9, .inr (8, [.ref q10, .int (nI 5), .int (nI 30), .int (nI 0)])) :: (q8, .inl (cy 0, 360, .inl (fun _ => 0))) :: (q7, .inr (8, [.ref q8, .int (nI 12), .int (nI 30), .int (nI 0)])) :: (q6, .inl (cy 0, 40, .inl (fun _ => 0))) :: (q5, .inr (8, [.ref q6, .int (nI 4), .int (nI 10), .int (nI 0)])) :: (q4, .inl (cy 0, 96, .inl (fun _ => 0))) :: (q3, .inr (8, [.ref q4, .int (nI 12), .int (nI 8), .int (nI 0)])) :: (q2, .inl (cy 0, 24, .inl (fun _ => 0))) :: (q1, .inr (8, [.ref q2, .int (nI 4), .int (nI 6), .int (nI 0)])) :: (a, .inr (7, [.ref q1, .ref q3, .ref q5, .ref q7, .ref q9, .ref q11, .int (nI 0), .int (nI 0)])) :: E) q11 q12 12 (nI 3) (zF 8) (by decide)) zml_RX3_46 zcv_X4_put (zRec.of C (ci := 8) (q0 := 1) rfl rfl) rfl rfl ⟨Nat.le_of_ble_eq_true rfl, Nat.le_of_ble_eq_true rfl⟩ rfl rfl (Nat.le_of_ble_eq_true rfl) ⟨Nat.le_of_ble_eq_true rfl, Nat.le_of_ble_eq_true rfl⟩ dX3_init_148 ?_
  intro w h
  obtain rfl : w = ((q12, .inl (cy 0, 26, .inl (zF 9))) :: (q11, .inr (8, [.ref q12, .int (nI 26), .int (nI 1), .int (nI 0)])) :: (q10, .inl (cy 0, 150, .inl (fun _ => 0))) :: (q9, .inr (8, [.ref q10, .int (nI 5), .int (nI 30), .int (nI 0)])) :: (q8, .inl (cy 0, 360, .inl (fun _ => 0))) :: (q7, .inr (8, [.ref q8, .int (nI 12), .int (nI 30), .int (nI 0)])) :: (q6, .inl (cy 0, 40, .inl (fun _ => 0))) :: (q5, .inr (8, [.ref q6, .int (nI 4), .int (nI 10), .int (nI 0)])) :: (q4, .inl (cy 0, 96, .inl (fun _ => 0))) :: (q3, .inr (8, [.ref q4, .int (nI 12), .int (nI 8), .int (nI 0)])) :: (q2, .inl (cy 0, 24, .inl (fun _ => 0))) :: (q1, .inr (8, [.ref q2, .int (nI 4), .int (nI 6), .int (nI 0)])) :: (a, .inr (7, [.ref q1, .ref q3, .ref q5, .ref q7, .ref q9, .ref q11, .int (nI 0), .int (nI 0)])) :: E) := h
  refine g_iinc (k := 0) (L' := [(1, .int (nI 3)), (0, .ref a)]) C dX3_init_151 rfl (by decide) (by decide) rfl ?_
  refine g_goto C dX3_init_154 (tgt := 132) (by decide) ?_
  refine g_iload_n (j := 0) C dX3_init_132 rfl rfl ?_
  refine g_bipush (v := (nI 16)) C dX3_init_133 (by decide) ?_
  refine g_icmp_ge C dX3_init_135 (tgt := 157) (by decide) (fun h9 => absurd h9 (by decide)) (fun _ => ?_)
  refine g_aload_n (j := 1) C dX3_init_138 rfl rfl ?_
  refine p_get (q0 := 12) (k := 5) (ci := 7) (N := 8) (v := .ref q11) C rfl rfl zin_RX3 (by decide) zfl_RX3_32 rfl dX3_init_139 ?_
  refine g_iconst (v := (nI 0)) C dX3_init_142 (by decide) ?_
  refine g_bipush (v := (nI 10)) C dX3_init_143 (by decide) ?_
  refine g_iload_n (j := 0) C dX3_init_145 rfl rfl ?_
  refine g_iadd C dX3_init_146 ?_
  refine p_num (y := (nI 13)) (by decide) ?_
  refine g_iconst (v := (nI 3)) C dX3_init_147 (by decide) ?_
  refine t_Vv (As := [.int (nI 0), .int (nI 13), .int (nI 3)]) (rest := []) zEi_ge hE C (c_X4_put0 l D cy ((q10, .inl (cy 0, 150, .inl (fun _ => 0))) :: (q9, .inr (8, [.ref q10, .int (nI 5), .int (nI 30), .int (nI 0)])) :: (q8, .inl (cy 0, 360, .inl (fun _ => 0))) :: (q7, .inr (8, [.ref q8, .int (nI 12), .int (nI 30), .int (nI 0)])) :: (q6, .inl (cy 0, 40, .inl (fun _ => 0))) :: (q5, .inr (8, [.ref q6, .int (nI 4), .int (nI 10), .int (nI 0)])) :: (q4, .inl (cy 0, 96, .inl (fun _ => 0))) :: (q3, .inr (8, [.ref q4, .int (nI 12), .int (nI 8), .int (nI 0)])) :: (q2, .inl (cy 0, 24, .inl (fun _ => 0))) :: (q1, .inr (8, [.ref q2, .int (nI 4), .int (nI 6), .int (nI 0)])) :: (a, .inr (7, [.ref q1, .ref q3, .ref q5, .ref q7, .ref q9, .ref q11, .int (nI 0), .int (nI 0)])) :: E) q11 q12 13 (nI 3) (zF 9) (by decide)) zml_RX3_46 zcv_X4_put (zRec.of C (ci := 8) (q0 := 1) rfl rfl) rfl rfl ⟨Nat.le_of_ble_eq_true rfl, Nat.le_of_ble_eq_true rfl⟩ rfl rfl (Nat.le_of_ble_eq_true rfl) ⟨Nat.le_of_ble_eq_true rfl, Nat.le_of_ble_eq_true rfl⟩ dX3_init_148 ?_
  intro w h
  obtain rfl : w = ((q12, .inl (cy 0, 26, .inl (zF 10))) :: (q11, .inr (8, [.ref q12, .int (nI 26), .int (nI 1), .int (nI 0)])) :: (q10, .inl (cy 0, 150, .inl (fun _ => 0))) :: (q9, .inr (8, [.ref q10, .int (nI 5), .int (nI 30), .int (nI 0)])) :: (q8, .inl (cy 0, 360, .inl (fun _ => 0))) :: (q7, .inr (8, [.ref q8, .int (nI 12), .int (nI 30), .int (nI 0)])) :: (q6, .inl (cy 0, 40, .inl (fun _ => 0))) :: (q5, .inr (8, [.ref q6, .int (nI 4), .int (nI 10), .int (nI 0)])) :: (q4, .inl (cy 0, 96, .inl (fun _ => 0))) :: (q3, .inr (8, [.ref q4, .int (nI 12), .int (nI 8), .int (nI 0)])) :: (q2, .inl (cy 0, 24, .inl (fun _ => 0))) :: (q1, .inr (8, [.ref q2, .int (nI 4), .int (nI 6), .int (nI 0)])) :: (a, .inr (7, [.ref q1, .ref q3, .ref q5, .ref q7, .ref q9, .ref q11, .int (nI 0), .int (nI 0)])) :: E) := h
  refine g_iinc (k := 0) (L' := [(1, .int (nI 4)), (0, .ref a)]) C dX3_init_151 rfl (by decide) (by decide) rfl ?_
  refine g_goto C dX3_init_154 (tgt := 132) (by decide) ?_
  refine g_iload_n (j := 0) C dX3_init_132 rfl rfl ?_
  refine g_bipush (v := (nI 16)) C dX3_init_133 (by decide) ?_
  refine g_icmp_ge C dX3_init_135 (tgt := 157) (by decide) (fun h9 => absurd h9 (by decide)) (fun _ => ?_)
  refine g_aload_n (j := 1) C dX3_init_138 rfl rfl ?_
  refine p_get (q0 := 12) (k := 5) (ci := 7) (N := 8) (v := .ref q11) C rfl rfl zin_RX3 (by decide) zfl_RX3_32 rfl dX3_init_139 ?_
  refine g_iconst (v := (nI 0)) C dX3_init_142 (by decide) ?_
  refine g_bipush (v := (nI 10)) C dX3_init_143 (by decide) ?_
  refine g_iload_n (j := 0) C dX3_init_145 rfl rfl ?_
  refine g_iadd C dX3_init_146 ?_
  refine p_num (y := (nI 14)) (by decide) ?_
  refine g_iconst (v := (nI 3)) C dX3_init_147 (by decide) ?_
  refine t_Vv (As := [.int (nI 0), .int (nI 14), .int (nI 3)]) (rest := []) zEi_ge hE C (c_X4_put0 l D cy ((q10, .inl (cy 0, 150, .inl (fun _ => 0))) :: (q9, .inr (8, [.ref q10, .int (nI 5), .int (nI 30), .int (nI 0)])) :: (q8, .inl (cy 0, 360, .inl (fun _ => 0))) :: (q7, .inr (8, [.ref q8, .int (nI 12), .int (nI 30), .int (nI 0)])) :: (q6, .inl (cy 0, 40, .inl (fun _ => 0))) :: (q5, .inr (8, [.ref q6, .int (nI 4), .int (nI 10), .int (nI 0)])) :: (q4, .inl (cy 0, 96, .inl (fun _ => 0))) :: (q3, .inr (8, [.ref q4, .int (nI 12), .int (nI 8), .int (nI 0)])) :: (q2, .inl (cy 0, 24, .inl (fun _ => 0))) :: (q1, .inr (8, [.ref q2, .int (nI 4), .int (nI 6), .int (nI 0)])) :: (a, .inr (7, [.ref q1, .ref q3, .ref q5, .ref q7, .ref q9, .ref q11, .int (nI 0), .int (nI 0)])) :: E) q11 q12 14 (nI 3) (zF 10) (by decide)) zml_RX3_46 zcv_X4_put (zRec.of C (ci := 8) (q0 := 1) rfl rfl) rfl rfl ⟨Nat.le_of_ble_eq_true rfl, Nat.le_of_ble_eq_true rfl⟩ rfl rfl (Nat.le_of_ble_eq_true rfl) ⟨Nat.le_of_ble_eq_true rfl, Nat.le_of_ble_eq_true rfl⟩ dX3_init_148 ?_
  intro w h
  obtain rfl : w = ((q12, .inl (cy 0, 26, .inl (zF 11))) :: (q11, .inr (8, [.ref q12, .int (nI 26), .int (nI 1), .int (nI 0)])) :: (q10, .inl (cy 0, 150, .inl (fun _ => 0))) :: (q9, .inr (8, [.ref q10, .int (nI 5), .int (nI 30), .int (nI 0)])) :: (q8, .inl (cy 0, 360, .inl (fun _ => 0))) :: (q7, .inr (8, [.ref q8, .int (nI 12), .int (nI 30), .int (nI 0)])) :: (q6, .inl (cy 0, 40, .inl (fun _ => 0))) :: (q5, .inr (8, [.ref q6, .int (nI 4), .int (nI 10), .int (nI 0)])) :: (q4, .inl (cy 0, 96, .inl (fun _ => 0))) :: (q3, .inr (8, [.ref q4, .int (nI 12), .int (nI 8), .int (nI 0)])) :: (q2, .inl (cy 0, 24, .inl (fun _ => 0))) :: (q1, .inr (8, [.ref q2, .int (nI 4), .int (nI 6), .int (nI 0)])) :: (a, .inr (7, [.ref q1, .ref q3, .ref q5, .ref q7, .ref q9, .ref q11, .int (nI 0), .int (nI 0)])) :: E) := h
  refine g_iinc (k := 0) (L' := [(1, .int (nI 5)), (0, .ref a)]) C dX3_init_151 rfl (by decide) (by decide) rfl ?_
  refine g_goto C dX3_init_154 (tgt := 132) (by decide) ?_
  refine g_iload_n (j := 0) C dX3_init_132 rfl rfl ?_
  refine g_bipush (v := (nI 16)) C dX3_init_133 (by decide) ?_
  refine g_icmp_ge C dX3_init_135 (tgt := 157) (by decide) (fun h9 => absurd h9 (by decide)) (fun _ => ?_)
  refine g_aload_n (j := 1) C dX3_init_138 rfl rfl ?_
  refine p_get (q0 := 12) (k := 5) (ci := 7) (N := 8) (v := .ref q11) C rfl rfl zin_RX3 (by decide) zfl_RX3_32 rfl dX3_init_139 ?_
  refine g_iconst (v := (nI 0)) C dX3_init_142 (by decide) ?_
  refine g_bipush (v := (nI 10)) C dX3_init_143 (by decide) ?_
  refine g_iload_n (j := 0) C dX3_init_145 rfl rfl ?_
  refine g_iadd C dX3_init_146 ?_
  refine p_num (y := (nI 15)) (by decide) ?_
  refine g_iconst (v := (nI 3)) C dX3_init_147 (by decide) ?_
  refine t_Vv (As := [.int (nI 0), .int (nI 15), .int (nI 3)]) (rest := []) zEi_ge hE C (c_X4_put0 l D cy ((q10, .inl (cy 0, 150, .inl (fun _ => 0))) :: (q9, .inr (8, [.ref q10, .int (nI 5), .int (nI 30), .int (nI 0)])) :: (q8, .inl (cy 0, 360, .inl (fun _ => 0))) :: (q7, .inr (8, [.ref q8, .int (nI 12), .int (nI 30), .int (nI 0)])) :: (q6, .inl (cy 0, 40, .inl (fun _ => 0))) :: (q5, .inr (8, [.ref q6, .int (nI 4), .int (nI 10), .int (nI 0)])) :: (q4, .inl (cy 0, 96, .inl (fun _ => 0))) :: (q3, .inr (8, [.ref q4, .int (nI 12), .int (nI 8), .int (nI 0)])) :: (q2, .inl (cy 0, 24, .inl (fun _ => 0))) :: (q1, .inr (8, [.ref q2, .int (nI 4), .int (nI 6), .int (nI 0)])) :: (a, .inr (7, [.ref q1, .ref q3, .ref q5, .ref q7, .ref q9, .ref q11, .int (nI 0), .int (nI 0)])) :: E) q11 q12 15 (nI 3) (zF 11) (by decide)) zml_RX3_46 zcv_X4_put (zRec.of C (ci := 8) (q0 := 1) rfl rfl) rfl rfl ⟨Nat.le_of_ble_eq_true rfl, Nat.le_of_ble_eq_true rfl⟩ rfl rfl (Nat.le_of_ble_eq_true rfl) ⟨Nat.le_of_ble_eq_true rfl, Nat.le_of_ble_eq_true rfl⟩ dX3_init_148 ?_
  intro w h
  obtain rfl : w = ((q12, .inl (cy 0, 26, .inl (zF 12))) :: (q11, .inr (8, [.ref q12, .int (nI 26), .int (nI 1), .int (nI 0)])) :: (q10, .inl (cy 0, 150, .inl (fun _ => 0))) :: (q9, .inr (8, [.ref q10, .int (nI 5), .int (nI 30), .int (nI 0)])) :: (q8, .inl (cy 0, 360, .inl (fun _ => 0))) :: (q7, .inr (8, [.ref q8, .int (nI 12), .int (nI 30), .int (nI 0)])) :: (q6, .inl (cy 0, 40, .inl (fun _ => 0))) :: (q5, .inr (8, [.ref q6, .int (nI 4), .int (nI 10), .int (nI 0)])) :: (q4, .inl (cy 0, 96, .inl (fun _ => 0))) :: (q3, .inr (8, [.ref q4, .int (nI 12), .int (nI 8), .int (nI 0)])) :: (q2, .inl (cy 0, 24, .inl (fun _ => 0))) :: (q1, .inr (8, [.ref q2, .int (nI 4), .int (nI 6), .int (nI 0)])) :: (a, .inr (7, [.ref q1, .ref q3, .ref q5, .ref q7, .ref q9, .ref q11, .int (nI 0), .int (nI 0)])) :: E) := h
  refine g_iinc (k := 0) (L' := [(1, .int (nI 6)), (0, .ref a)]) C dX3_init_151 rfl (by decide) (by decide) rfl ?_
  refine g_goto C dX3_init_154 (tgt := 132) (by decide) ?_
  refine g_iload_n (j := 0) C dX3_init_132 rfl rfl ?_
  refine g_bipush (v := (nI 16)) C dX3_init_133 (by decide) ?_
  refine g_icmp_ge C dX3_init_135 (tgt := 157) (by decide) (fun h9 => absurd h9 (by decide)) (fun _ => ?_)
  refine g_aload_n (j := 1) C dX3_init_138 rfl rfl ?_
  refine p_get (q0 := 12) (k := 5) (ci := 7) (N := 8) (v := .ref q11) C rfl rfl zin_RX3 (by decide) zfl_RX3_32 rfl dX3_init_139 ?_
  refine g_iconst (v := (nI 0)) C dX3_init_142 (by decide) ?_
  refine g_bipush (v := (nI 10)) C dX3_init_143 (by decide) ?_
  refine g_iload_n (j := 0) C dX3_init_145 rfl rfl ?_
  refine g_iadd C dX3_init_146 ?_
  refine p_num (y := (nI 16)) (by decide) ?_
  refine g_iconst (v := (nI 3)) C dX3_init_147 (by decide) ?_
  refine t_Vv (As := [.int (nI 0), .int (nI 16), .int (nI 3)]) (rest := []) zEi_ge hE C (c_X4_put0 l D cy ((q10, .inl (cy 0, 150, .inl (fun _ => 0))) :: (q9, .inr (8, [.ref q10, .int (nI 5), .int (nI 30), .int (nI 0)])) :: (q8, .inl (cy 0, 360, .inl (fun _ => 0))) :: (q7, .inr (8, [.ref q8, .int (nI 12), .int (nI 30), .int (nI 0)])) :: (q6, .inl (cy 0, 40, .inl (fun _ => 0))) :: (q5, .inr (8, [.ref q6, .int (nI 4), .int (nI 10), .int (nI 0)])) :: (q4, .inl (cy 0, 96, .inl (fun _ => 0))) :: (q3, .inr (8, [.ref q4, .int (nI 12), .int (nI 8), .int (nI 0)])) :: (q2, .inl (cy 0, 24, .inl (fun _ => 0))) :: (q1, .inr (8, [.ref q2, .int (nI 4), .int (nI 6), .int (nI 0)])) :: (a, .inr (7, [.ref q1, .ref q3, .ref q5, .ref q7, .ref q9, .ref q11, .int (nI 0), .int (nI 0)])) :: E) q11 q12 16 (nI 3) (zF 12) (by decide)) zml_RX3_46 zcv_X4_put (zRec.of C (ci := 8) (q0 := 1) rfl rfl) rfl rfl ⟨Nat.le_of_ble_eq_true rfl, Nat.le_of_ble_eq_true rfl⟩ rfl rfl (Nat.le_of_ble_eq_true rfl) ⟨Nat.le_of_ble_eq_true rfl, Nat.le_of_ble_eq_true rfl⟩ dX3_init_148 ?_
  intro w h
  obtain rfl : w = ((q12, .inl (cy 0, 26, .inl (zF 13))) :: (q11, .inr (8, [.ref q12, .int (nI 26), .int (nI 1), .int (nI 0)])) :: (q10, .inl (cy 0, 150, .inl (fun _ => 0))) :: (q9, .inr (8, [.ref q10, .int (nI 5), .int (nI 30), .int (nI 0)])) :: (q8, .inl (cy 0, 360, .inl (fun _ => 0))) :: (q7, .inr (8, [.ref q8, .int (nI 12), .int (nI 30), .int (nI 0)])) :: (q6, .inl (cy 0, 40, .inl (fun _ => 0))) :: (q5, .inr (8, [.ref q6, .int (nI 4), .int (nI 10), .int (nI 0)])) :: (q4, .inl (cy 0, 96, .inl (fun _ => 0))) :: (q3, .inr (8, [.ref q4, .int (nI 12), .int (nI 8), .int (nI 0)])) :: (q2, .inl (cy 0, 24, .inl (fun _ => 0))) :: (q1, .inr (8, [.ref q2, .int (nI 4), .int (nI 6), .int (nI 0)])) :: (a, .inr (7, [.ref q1, .ref q3, .ref q5, .ref q7, .ref q9, .ref q11, .int (nI 0), .int (nI 0)])) :: E) := h
  refine g_iinc (k := 0) (L' := [(1, .int (nI 7)), (0, .ref a)]) C dX3_init_151 rfl (by decide) (by decide) rfl ?_
  refine g_goto C dX3_init_154 (tgt := 132) (by decide) ?_
  refine g_iload_n (j := 0) C dX3_init_132 rfl rfl ?_
  refine g_bipush (v := (nI 16)) C dX3_init_133 (by decide) ?_
  refine g_icmp_ge C dX3_init_135 (tgt := 157) (by decide) (fun h9 => absurd h9 (by decide)) (fun _ => ?_)
  refine g_aload_n (j := 1) C dX3_init_138 rfl rfl ?_
  refine p_get (q0 := 12) (k := 5) (ci := 7) (N := 8) (v := .ref q11) C rfl rfl zin_RX3 (by decide) zfl_RX3_32 rfl dX3_init_139 ?_
  refine g_iconst (v := (nI 0)) C dX3_init_142 (by decide) ?_
  refine g_bipush (v := (nI 10)) C dX3_init_143 (by decide) ?_
  refine g_iload_n (j := 0) C dX3_init_145 rfl rfl ?_
  refine g_iadd C dX3_init_146 ?_
  refine p_num (y := (nI 17)) (by decide) ?_
  refine g_iconst (v := (nI 3)) C dX3_init_147 (by decide) ?_
  refine t_Vv (As := [.int (nI 0), .int (nI 17), .int (nI 3)]) (rest := []) zEi_ge hE C (c_X4_put0 l D cy ((q10, .inl (cy 0, 150, .inl (fun _ => 0))) :: (q9, .inr (8, [.ref q10, .int (nI 5), .int (nI 30), .int (nI 0)])) :: (q8, .inl (cy 0, 360, .inl (fun _ => 0))) :: (q7, .inr (8, [.ref q8, .int (nI 12), .int (nI 30), .int (nI 0)])) :: (q6, .inl (cy 0, 40, .inl (fun _ => 0))) :: (q5, .inr (8, [.ref q6, .int (nI 4), .int (nI 10), .int (nI 0)])) :: (q4, .inl (cy 0, 96, .inl (fun _ => 0))) :: (q3, .inr (8, [.ref q4, .int (nI 12), .int (nI 8), .int (nI 0)])) :: (q2, .inl (cy 0, 24, .inl (fun _ => 0))) :: (q1, .inr (8, [.ref q2, .int (nI 4), .int (nI 6), .int (nI 0)])) :: (a, .inr (7, [.ref q1, .ref q3, .ref q5, .ref q7, .ref q9, .ref q11, .int (nI 0), .int (nI 0)])) :: E) q11 q12 17 (nI 3) (zF 13) (by decide)) zml_RX3_46 zcv_X4_put (zRec.of C (ci := 8) (q0 := 1) rfl rfl) rfl rfl ⟨Nat.le_of_ble_eq_true rfl, Nat.le_of_ble_eq_true rfl⟩ rfl rfl (Nat.le_of_ble_eq_true rfl) ⟨Nat.le_of_ble_eq_true rfl, Nat.le_of_ble_eq_true rfl⟩ dX3_init_148 ?_
  intro w h
  obtain rfl : w = ((q12, .inl (cy 0, 26, .inl (zF 14))) :: (q11, .inr (8, [.ref q12, .int (nI 26), .int (nI 1), .int (nI 0)])) :: (q10, .inl (cy 0, 150, .inl (fun _ => 0))) :: (q9, .inr (8, [.ref q10, .int (nI 5), .int (nI 30), .int (nI 0)])) :: (q8, .inl (cy 0, 360, .inl (fun _ => 0))) :: (q7, .inr (8, [.ref q8, .int (nI 12), .int (nI 30), .int (nI 0)])) :: (q6, .inl (cy 0, 40, .inl (fun _ => 0))) :: (q5, .inr (8, [.ref q6, .int (nI 4), .int (nI 10), .int (nI 0)])) :: (q4, .inl (cy 0, 96, .inl (fun _ => 0))) :: (q3, .inr (8, [.ref q4, .int (nI 12), .int (nI 8), .int (nI 0)])) :: (q2, .inl (cy 0, 24, .inl (fun _ => 0))) :: (q1, .inr (8, [.ref q2, .int (nI 4), .int (nI 6), .int (nI 0)])) :: (a, .inr (7, [.ref q1, .ref q3, .ref q5, .ref q7, .ref q9, .ref q11, .int (nI 0), .int (nI 0)])) :: E) := h
  refine g_iinc (k := 0) (L' := [(1, .int (nI 8)), (0, .ref a)]) C dX3_init_151 rfl (by decide) (by decide) rfl ?_
  refine g_goto C dX3_init_154 (tgt := 132) (by decide) ?_
  refine g_iload_n (j := 0) C dX3_init_132 rfl rfl ?_
  refine g_bipush (v := (nI 16)) C dX3_init_133 (by decide) ?_
  refine g_icmp_ge C dX3_init_135 (tgt := 157) (by decide) (fun h9 => absurd h9 (by decide)) (fun _ => ?_)
  refine g_aload_n (j := 1) C dX3_init_138 rfl rfl ?_
  refine p_get (q0 := 12) (k := 5) (ci := 7) (N := 8) (v := .ref q11) C rfl rfl zin_RX3 (by decide) zfl_RX3_32 rfl dX3_init_139 ?_
  refine g_iconst (v := (nI 0)) C dX3_init_142 (by decide) ?_
  refine g_bipush (v := (nI 10)) C dX3_init_143 (by decide) ?_
  refine g_iload_n (j := 0) C dX3_init_145 rfl rfl ?_
  refine g_iadd C dX3_init_146 ?_
  refine p_num (y := (nI 18)) (by decide) ?_
  refine g_iconst (v := (nI 3)) C dX3_init_147 (by decide) ?_
  refine t_Vv (As := [.int (nI 0), .int (nI 18), .int (nI 3)]) (rest := []) zEi_ge hE C (c_X4_put0 l D cy ((q10, .inl (cy 0, 150, .inl (fun _ => 0))) :: (q9, .inr (8, [.ref q10, .int (nI 5), .int (nI 30), .int (nI 0)])) :: (q8, .inl (cy 0, 360, .inl (fun _ => 0))) :: (q7, .inr (8, [.ref q8, .int (nI 12), .int (nI 30), .int (nI 0)])) :: (q6, .inl (cy 0, 40, .inl (fun _ => 0))) :: (q5, .inr (8, [.ref q6, .int (nI 4), .int (nI 10), .int (nI 0)])) :: (q4, .inl (cy 0, 96, .inl (fun _ => 0))) :: (q3, .inr (8, [.ref q4, .int (nI 12), .int (nI 8), .int (nI 0)])) :: (q2, .inl (cy 0, 24, .inl (fun _ => 0))) :: (q1, .inr (8, [.ref q2, .int (nI 4), .int (nI 6), .int (nI 0)])) :: (a, .inr (7, [.ref q1, .ref q3, .ref q5, .ref q7, .ref q9, .ref q11, .int (nI 0), .int (nI 0)])) :: E) q11 q12 18 (nI 3) (zF 14) (by decide)) zml_RX3_46 zcv_X4_put (zRec.of C (ci := 8) (q0 := 1) rfl rfl) rfl rfl ⟨Nat.le_of_ble_eq_true rfl, Nat.le_of_ble_eq_true rfl⟩ rfl rfl (Nat.le_of_ble_eq_true rfl) ⟨Nat.le_of_ble_eq_true rfl, Nat.le_of_ble_eq_true rfl⟩ dX3_init_148 ?_
  intro w h
  obtain rfl : w = ((q12, .inl (cy 0, 26, .inl (zF 15))) :: (q11, .inr (8, [.ref q12, .int (nI 26), .int (nI 1), .int (nI 0)])) :: (q10, .inl (cy 0, 150, .inl (fun _ => 0))) :: (q9, .inr (8, [.ref q10, .int (nI 5), .int (nI 30), .int (nI 0)])) :: (q8, .inl (cy 0, 360, .inl (fun _ => 0))) :: (q7, .inr (8, [.ref q8, .int (nI 12), .int (nI 30), .int (nI 0)])) :: (q6, .inl (cy 0, 40, .inl (fun _ => 0))) :: (q5, .inr (8, [.ref q6, .int (nI 4), .int (nI 10), .int (nI 0)])) :: (q4, .inl (cy 0, 96, .inl (fun _ => 0))) :: (q3, .inr (8, [.ref q4, .int (nI 12), .int (nI 8), .int (nI 0)])) :: (q2, .inl (cy 0, 24, .inl (fun _ => 0))) :: (q1, .inr (8, [.ref q2, .int (nI 4), .int (nI 6), .int (nI 0)])) :: (a, .inr (7, [.ref q1, .ref q3, .ref q5, .ref q7, .ref q9, .ref q11, .int (nI 0), .int (nI 0)])) :: E) := h
  refine g_iinc (k := 0) (L' := [(1, .int (nI 9)), (0, .ref a)]) C dX3_init_151 rfl (by decide) (by decide) rfl ?_
  refine g_goto C dX3_init_154 (tgt := 132) (by decide) ?_
  refine g_iload_n (j := 0) C dX3_init_132 rfl rfl ?_
  refine g_bipush (v := (nI 16)) C dX3_init_133 (by decide) ?_
  refine g_icmp_ge C dX3_init_135 (tgt := 157) (by decide) (fun h9 => absurd h9 (by decide)) (fun _ => ?_)
  refine g_aload_n (j := 1) C dX3_init_138 rfl rfl ?_
  refine p_get (q0 := 12) (k := 5) (ci := 7) (N := 8) (v := .ref q11) C rfl rfl zin_RX3 (by decide) zfl_RX3_32 rfl dX3_init_139 ?_
  refine g_iconst (v := (nI 0)) C dX3_init_142 (by decide) ?_
  refine g_bipush (v := (nI 10)) C dX3_init_143 (by decide) ?_
  refine g_iload_n (j := 0) C dX3_init_145 rfl rfl ?_
  refine g_iadd C dX3_init_146 ?_
  refine p_num (y := (nI 19)) (by decide) ?_
  refine g_iconst (v := (nI 3)) C dX3_init_147 (by decide) ?_
  refine t_Vv (As := [.int (nI 0), .int (nI 19), .int (nI 3)]) (rest := []) zEi_ge hE C (c_X4_put0 l D cy ((q10, .inl (cy 0, 150, .inl (fun _ => 0))) :: (q9, .inr (8, [.ref q10, .int (nI 5), .int (nI 30), .int (nI 0)])) :: (q8, .inl (cy 0, 360, .inl (fun _ => 0))) :: (q7, .inr (8, [.ref q8, .int (nI 12), .int (nI 30), .int (nI 0)])) :: (q6, .inl (cy 0, 40, .inl (fun _ => 0))) :: (q5, .inr (8, [.ref q6, .int (nI 4), .int (nI 10), .int (nI 0)])) :: (q4, .inl (cy 0, 96, .inl (fun _ => 0))) :: (q3, .inr (8, [.ref q4, .int (nI 12), .int (nI 8), .int (nI 0)])) :: (q2, .inl (cy 0, 24, .inl (fun _ => 0))) :: (q1, .inr (8, [.ref q2, .int (nI 4), .int (nI 6), .int (nI 0)])) :: (a, .inr (7, [.ref q1, .ref q3, .ref q5, .ref q7, .ref q9, .ref q11, .int (nI 0), .int (nI 0)])) :: E) q11 q12 19 (nI 3) (zF 15) (by decide)) zml_RX3_46 zcv_X4_put (zRec.of C (ci := 8) (q0 := 1) rfl rfl) rfl rfl ⟨Nat.le_of_ble_eq_true rfl, Nat.le_of_ble_eq_true rfl⟩ rfl rfl (Nat.le_of_ble_eq_true rfl) ⟨Nat.le_of_ble_eq_true rfl, Nat.le_of_ble_eq_true rfl⟩ dX3_init_148 ?_
  intro w h
  obtain rfl : w = ((q12, .inl (cy 0, 26, .inl (zF 16))) :: (q11, .inr (8, [.ref q12, .int (nI 26), .int (nI 1), .int (nI 0)])) :: (q10, .inl (cy 0, 150, .inl (fun _ => 0))) :: (q9, .inr (8, [.ref q10, .int (nI 5), .int (nI 30), .int (nI 0)])) :: (q8, .inl (cy 0, 360, .inl (fun _ => 0))) :: (q7, .inr (8, [.ref q8, .int (nI 12), .int (nI 30), .int (nI 0)])) :: (q6, .inl (cy 0, 40, .inl (fun _ => 0))) :: (q5, .inr (8, [.ref q6, .int (nI 4), .int (nI 10), .int (nI 0)])) :: (q4, .inl (cy 0, 96, .inl (fun _ => 0))) :: (q3, .inr (8, [.ref q4, .int (nI 12), .int (nI 8), .int (nI 0)])) :: (q2, .inl (cy 0, 24, .inl (fun _ => 0))) :: (q1, .inr (8, [.ref q2, .int (nI 4), .int (nI 6), .int (nI 0)])) :: (a, .inr (7, [.ref q1, .ref q3, .ref q5, .ref q7, .ref q9, .ref q11, .int (nI 0), .int (nI 0)])) :: E) := h
  refine g_iinc (k := 0) (L' := [(1, .int (nI 10)), (0, .ref a)]) C dX3_init_151 rfl (by decide) (by decide) rfl ?_
  refine g_goto C dX3_init_154 (tgt := 132) (by decide) ?_
  refine g_iload_n (j := 0) C dX3_init_132 rfl rfl ?_
  refine g_bipush (v := (nI 16)) C dX3_init_133 (by decide) ?_
  refine g_icmp_ge C dX3_init_135 (tgt := 157) (by decide) (fun h9 => absurd h9 (by decide)) (fun _ => ?_)
  refine g_aload_n (j := 1) C dX3_init_138 rfl rfl ?_
  refine p_get (q0 := 12) (k := 5) (ci := 7) (N := 8) (v := .ref q11) C rfl rfl zin_RX3 (by decide) zfl_RX3_32 rfl dX3_init_139 ?_
  refine g_iconst (v := (nI 0)) C dX3_init_142 (by decide) ?_
  refine g_bipush (v := (nI 10)) C dX3_init_143 (by decide) ?_
  refine g_iload_n (j := 0) C dX3_init_145 rfl rfl ?_
  refine g_iadd C dX3_init_146 ?_
  refine p_num (y := (nI 20)) (by decide) ?_
  refine g_iconst (v := (nI 3)) C dX3_init_147 (by decide) ?_
  refine t_Vv (As := [.int (nI 0), .int (nI 20), .int (nI 3)]) (rest := []) zEi_ge hE C (c_X4_put0 l D cy ((q10, .inl (cy 0, 150, .inl (fun _ => 0))) :: (q9, .inr (8, [.ref q10, .int (nI 5), .int (nI 30), .int (nI 0)])) :: (q8, .inl (cy 0, 360, .inl (fun _ => 0))) :: (q7, .inr (8, [.ref q8, .int (nI 12), .int (nI 30), .int (nI 0)])) :: (q6, .inl (cy 0, 40, .inl (fun _ => 0))) :: (q5, .inr (8, [.ref q6, .int (nI 4), .int (nI 10), .int (nI 0)])) :: (q4, .inl (cy 0, 96, .inl (fun _ => 0))) :: (q3, .inr (8, [.ref q4, .int (nI 12), .int (nI 8), .int (nI 0)])) :: (q2, .inl (cy 0, 24, .inl (fun _ => 0))) :: (q1, .inr (8, [.ref q2, .int (nI 4), .int (nI 6), .int (nI 0)])) :: (a, .inr (7, [.ref q1, .ref q3, .ref q5, .ref q7, .ref q9, .ref q11, .int (nI 0), .int (nI 0)])) :: E) q11 q12 20 (nI 3) (zF 16) (by decide)) zml_RX3_46 zcv_X4_put (zRec.of C (ci := 8) (q0 := 1) rfl rfl) rfl rfl ⟨Nat.le_of_ble_eq_true rfl, Nat.le_of_ble_eq_true rfl⟩ rfl rfl (Nat.le_of_ble_eq_true rfl) ⟨Nat.le_of_ble_eq_true rfl, Nat.le_of_ble_eq_true rfl⟩ dX3_init_148 ?_
  intro w h
  obtain rfl : w = ((q12, .inl (cy 0, 26, .inl (zF 17))) :: (q11, .inr (8, [.ref q12, .int (nI 26), .int (nI 1), .int (nI 0)])) :: (q10, .inl (cy 0, 150, .inl (fun _ => 0))) :: (q9, .inr (8, [.ref q10, .int (nI 5), .int (nI 30), .int (nI 0)])) :: (q8, .inl (cy 0, 360, .inl (fun _ => 0))) :: (q7, .inr (8, [.ref q8, .int (nI 12), .int (nI 30), .int (nI 0)])) :: (q6, .inl (cy 0, 40, .inl (fun _ => 0))) :: (q5, .inr (8, [.ref q6, .int (nI 4), .int (nI 10), .int (nI 0)])) :: (q4, .inl (cy 0, 96, .inl (fun _ => 0))) :: (q3, .inr (8, [.ref q4, .int (nI 12), .int (nI 8), .int (nI 0)])) :: (q2, .inl (cy 0, 24, .inl (fun _ => 0))) :: (q1, .inr (8, [.ref q2, .int (nI 4), .int (nI 6), .int (nI 0)])) :: (a, .inr (7, [.ref q1, .ref q3, .ref q5, .ref q7, .ref q9, .ref q11, .int (nI 0), .int (nI 0)])) :: E) := h
  refine g_iinc (k := 0) (L' := [(1, .int (nI 11)), (0, .ref a)]) C dX3_init_151 rfl (by decide) (by decide) rfl ?_
  refine g_goto C dX3_init_154 (tgt := 132) (by decide) ?_
  refine g_iload_n (j := 0) C dX3_init_132 rfl rfl ?_
  refine g_bipush (v := (nI 16)) C dX3_init_133 (by decide) ?_
  refine g_icmp_ge C dX3_init_135 (tgt := 157) (by decide) (fun h9 => absurd h9 (by decide)) (fun _ => ?_)
  refine g_aload_n (j := 1) C dX3_init_138 rfl rfl ?_
  refine p_get (q0 := 12) (k := 5) (ci := 7) (N := 8) (v := .ref q11) C rfl rfl zin_RX3 (by decide) zfl_RX3_32 rfl dX3_init_139 ?_
  refine g_iconst (v := (nI 0)) C dX3_init_142 (by decide) ?_
  refine g_bipush (v := (nI 10)) C dX3_init_143 (by decide) ?_
  refine g_iload_n (j := 0) C dX3_init_145 rfl rfl ?_
  refine g_iadd C dX3_init_146 ?_
  refine p_num (y := (nI 21)) (by decide) ?_
  refine g_iconst (v := (nI 3)) C dX3_init_147 (by decide) ?_
  refine t_Vv (As := [.int (nI 0), .int (nI 21), .int (nI 3)]) (rest := []) zEi_ge hE C (c_X4_put0 l D cy ((q10, .inl (cy 0, 150, .inl (fun _ => 0))) :: (q9, .inr (8, [.ref q10, .int (nI 5), .int (nI 30), .int (nI 0)])) :: (q8, .inl (cy 0, 360, .inl (fun _ => 0))) :: (q7, .inr (8, [.ref q8, .int (nI 12), .int (nI 30), .int (nI 0)])) :: (q6, .inl (cy 0, 40, .inl (fun _ => 0))) :: (q5, .inr (8, [.ref q6, .int (nI 4), .int (nI 10), .int (nI 0)])) :: (q4, .inl (cy 0, 96, .inl (fun _ => 0))) :: (q3, .inr (8, [.ref q4, .int (nI 12), .int (nI 8), .int (nI 0)])) :: (q2, .inl (cy 0, 24, .inl (fun _ => 0))) :: (q1, .inr (8, [.ref q2, .int (nI 4), .int (nI 6), .int (nI 0)])) :: (a, .inr (7, [.ref q1, .ref q3, .ref q5, .ref q7, .ref q9, .ref q11, .int (nI 0), .int (nI 0)])) :: E) q11 q12 21 (nI 3) (zF 17) (by decide)) zml_RX3_46 zcv_X4_put (zRec.of C (ci := 8) (q0 := 1) rfl rfl) rfl rfl ⟨Nat.le_of_ble_eq_true rfl, Nat.le_of_ble_eq_true rfl⟩ rfl rfl (Nat.le_of_ble_eq_true rfl) ⟨Nat.le_of_ble_eq_true rfl, Nat.le_of_ble_eq_true rfl⟩ dX3_init_148 ?_
  intro w h
  obtain rfl : w = ((q12, .inl (cy 0, 26, .inl (zF 18))) :: (q11, .inr (8, [.ref q12, .int (nI 26), .int (nI 1), .int (nI 0)])) :: (q10, .inl (cy 0, 150, .inl (fun _ => 0))) :: (q9, .inr (8, [.ref q10, .int (nI 5), .int (nI 30), .int (nI 0)])) :: (q8, .inl (cy 0, 360, .inl (fun _ => 0))) :: (q7, .inr (8, [.ref q8, .int (nI 12), .int (nI 30), .int (nI 0)])) :: (q6, .inl (cy 0, 40, .inl (fun _ => 0))) :: (q5, .inr (8, [.ref q6, .int (nI 4), .int (nI 10), .int (nI 0)])) :: (q4, .inl (cy 0, 96, .inl (fun _ => 0))) :: (q3, .inr (8, [.ref q4, .int (nI 12), .int (nI 8), .int (nI 0)])) :: (q2, .inl (cy 0, 24, .inl (fun _ => 0))) :: (q1, .inr (8, [.ref q2, .int (nI 4), .int (nI 6), .int (nI 0)])) :: (a, .inr (7, [.ref q1, .ref q3, .ref q5, .ref q7, .ref q9, .ref q11, .int (nI 0), .int (nI 0)])) :: E) := h
  refine g_iinc (k := 0) (L' := [(1, .int (nI 12)), (0, .ref a)]) C dX3_init_151 rfl (by decide) (by decide) rfl ?_
  refine g_goto C dX3_init_154 (tgt := 132) (by decide) ?_
  refine g_iload_n (j := 0) C dX3_init_132 rfl rfl ?_
  refine g_bipush (v := (nI 16)) C dX3_init_133 (by decide) ?_
  refine g_icmp_ge C dX3_init_135 (tgt := 157) (by decide) (fun h9 => absurd h9 (by decide)) (fun _ => ?_)
  refine g_aload_n (j := 1) C dX3_init_138 rfl rfl ?_
  refine p_get (q0 := 12) (k := 5) (ci := 7) (N := 8) (v := .ref q11) C rfl rfl zin_RX3 (by decide) zfl_RX3_32 rfl dX3_init_139 ?_
  refine g_iconst (v := (nI 0)) C dX3_init_142 (by decide) ?_
  refine g_bipush (v := (nI 10)) C dX3_init_143 (by decide) ?_
  refine g_iload_n (j := 0) C dX3_init_145 rfl rfl ?_
  refine g_iadd C dX3_init_146 ?_
  refine p_num (y := (nI 22)) (by decide) ?_
  refine g_iconst (v := (nI 3)) C dX3_init_147 (by decide) ?_
  refine t_Vv (As := [.int (nI 0), .int (nI 22), .int (nI 3)]) (rest := []) zEi_ge hE C (c_X4_put0 l D cy ((q10, .inl (cy 0, 150, .inl (fun _ => 0))) :: (q9, .inr (8, [.ref q10, .int (nI 5), .int (nI 30), .int (nI 0)])) :: (q8, .inl (cy 0, 360, .inl (fun _ => 0))) :: (q7, .inr (8, [.ref q8, .int (nI 12), .int (nI 30), .int (nI 0)])) :: (q6, .inl (cy 0, 40, .inl (fun _ => 0))) :: (q5, .inr (8, [.ref q6, .int (nI 4), .int (nI 10), .int (nI 0)])) :: (q4, .inl (cy 0, 96, .inl (fun _ => 0))) :: (q3, .inr (8, [.ref q4, .int (nI 12), .int (nI 8), .int (nI 0)])) :: (q2, .inl (cy 0, 24, .inl (fun _ => 0))) :: (q1, .inr (8, [.ref q2, .int (nI 4), .int (nI 6), .int (nI 0)])) :: (a, .inr (7, [.ref q1, .ref q3, .ref q5, .ref q7, .ref q9, .ref q11, .int (nI 0), .int (nI 0)])) :: E) q11 q12 22 (nI 3) (zF 18) (by decide)) zml_RX3_46 zcv_X4_put (zRec.of C (ci := 8) (q0 := 1) rfl rfl) rfl rfl ⟨Nat.le_of_ble_eq_true rfl, Nat.le_of_ble_eq_true rfl⟩ rfl rfl (Nat.le_of_ble_eq_true rfl) ⟨Nat.le_of_ble_eq_true rfl, Nat.le_of_ble_eq_true rfl⟩ dX3_init_148 ?_
  intro w h
  obtain rfl : w = ((q12, .inl (cy 0, 26, .inl (zF 19))) :: (q11, .inr (8, [.ref q12, .int (nI 26), .int (nI 1), .int (nI 0)])) :: (q10, .inl (cy 0, 150, .inl (fun _ => 0))) :: (q9, .inr (8, [.ref q10, .int (nI 5), .int (nI 30), .int (nI 0)])) :: (q8, .inl (cy 0, 360, .inl (fun _ => 0))) :: (q7, .inr (8, [.ref q8, .int (nI 12), .int (nI 30), .int (nI 0)])) :: (q6, .inl (cy 0, 40, .inl (fun _ => 0))) :: (q5, .inr (8, [.ref q6, .int (nI 4), .int (nI 10), .int (nI 0)])) :: (q4, .inl (cy 0, 96, .inl (fun _ => 0))) :: (q3, .inr (8, [.ref q4, .int (nI 12), .int (nI 8), .int (nI 0)])) :: (q2, .inl (cy 0, 24, .inl (fun _ => 0))) :: (q1, .inr (8, [.ref q2, .int (nI 4), .int (nI 6), .int (nI 0)])) :: (a, .inr (7, [.ref q1, .ref q3, .ref q5, .ref q7, .ref q9, .ref q11, .int (nI 0), .int (nI 0)])) :: E) := h
  refine g_iinc (k := 0) (L' := [(1, .int (nI 13)), (0, .ref a)]) C dX3_init_151 rfl (by decide) (by decide) rfl ?_
  refine g_goto C dX3_init_154 (tgt := 132) (by decide) ?_
  refine g_iload_n (j := 0) C dX3_init_132 rfl rfl ?_
  refine g_bipush (v := (nI 16)) C dX3_init_133 (by decide) ?_
  refine g_icmp_ge C dX3_init_135 (tgt := 157) (by decide) (fun h9 => absurd h9 (by decide)) (fun _ => ?_)
  refine g_aload_n (j := 1) C dX3_init_138 rfl rfl ?_
  refine p_get (q0 := 12) (k := 5) (ci := 7) (N := 8) (v := .ref q11) C rfl rfl zin_RX3 (by decide) zfl_RX3_32 rfl dX3_init_139 ?_
  refine g_iconst (v := (nI 0)) C dX3_init_142 (by decide) ?_
  refine g_bipush (v := (nI 10)) C dX3_init_143 (by decide) ?_
  refine g_iload_n (j := 0) C dX3_init_145 rfl rfl ?_
  refine g_iadd C dX3_init_146 ?_
  refine p_num (y := (nI 23)) (by decide) ?_
  refine g_iconst (v := (nI 3)) C dX3_init_147 (by decide) ?_
  refine t_Vv (As := [.int (nI 0), .int (nI 23), .int (nI 3)]) (rest := []) zEi_ge hE C (c_X4_put0 l D cy ((q10, .inl (cy 0, 150, .inl (fun _ => 0))) :: (q9, .inr (8, [.ref q10, .int (nI 5), .int (nI 30), .int (nI 0)])) :: (q8, .inl (cy 0, 360, .inl (fun _ => 0))) :: (q7, .inr (8, [.ref q8, .int (nI 12), .int (nI 30), .int (nI 0)])) :: (q6, .inl (cy 0, 40, .inl (fun _ => 0))) :: (q5, .inr (8, [.ref q6, .int (nI 4), .int (nI 10), .int (nI 0)])) :: (q4, .inl (cy 0, 96, .inl (fun _ => 0))) :: (q3, .inr (8, [.ref q4, .int (nI 12), .int (nI 8), .int (nI 0)])) :: (q2, .inl (cy 0, 24, .inl (fun _ => 0))) :: (q1, .inr (8, [.ref q2, .int (nI 4), .int (nI 6), .int (nI 0)])) :: (a, .inr (7, [.ref q1, .ref q3, .ref q5, .ref q7, .ref q9, .ref q11, .int (nI 0), .int (nI 0)])) :: E) q11 q12 23 (nI 3) (zF 19) (by decide)) zml_RX3_46 zcv_X4_put (zRec.of C (ci := 8) (q0 := 1) rfl rfl) rfl rfl ⟨Nat.le_of_ble_eq_true rfl, Nat.le_of_ble_eq_true rfl⟩ rfl rfl (Nat.le_of_ble_eq_true rfl) ⟨Nat.le_of_ble_eq_true rfl, Nat.le_of_ble_eq_true rfl⟩ dX3_init_148 ?_
  intro w h
  obtain rfl : w = ((q12, .inl (cy 0, 26, .inl (zF 20))) :: (q11, .inr (8, [.ref q12, .int (nI 26), .int (nI 1), .int (nI 0)])) :: (q10, .inl (cy 0, 150, .inl (fun _ => 0))) :: (q9, .inr (8, [.ref q10, .int (nI 5), .int (nI 30), .int (nI 0)])) :: (q8, .inl (cy 0, 360, .inl (fun _ => 0))) :: (q7, .inr (8, [.ref q8, .int (nI 12), .int (nI 30), .int (nI 0)])) :: (q6, .inl (cy 0, 40, .inl (fun _ => 0))) :: (q5, .inr (8, [.ref q6, .int (nI 4), .int (nI 10), .int (nI 0)])) :: (q4, .inl (cy 0, 96, .inl (fun _ => 0))) :: (q3, .inr (8, [.ref q4, .int (nI 12), .int (nI 8), .int (nI 0)])) :: (q2, .inl (cy 0, 24, .inl (fun _ => 0))) :: (q1, .inr (8, [.ref q2, .int (nI 4), .int (nI 6), .int (nI 0)])) :: (a, .inr (7, [.ref q1, .ref q3, .ref q5, .ref q7, .ref q9, .ref q11, .int (nI 0), .int (nI 0)])) :: E) := h
  refine g_iinc (k := 0) (L' := [(1, .int (nI 14)), (0, .ref a)]) C dX3_init_151 rfl (by decide) (by decide) rfl ?_
  refine g_goto C dX3_init_154 (tgt := 132) (by decide) ?_
  refine g_iload_n (j := 0) C dX3_init_132 rfl rfl ?_
  refine g_bipush (v := (nI 16)) C dX3_init_133 (by decide) ?_
  refine g_icmp_ge C dX3_init_135 (tgt := 157) (by decide) (fun h9 => absurd h9 (by decide)) (fun _ => ?_)
  refine g_aload_n (j := 1) C dX3_init_138 rfl rfl ?_
  refine p_get (q0 := 12) (k := 5) (ci := 7) (N := 8) (v := .ref q11) C rfl rfl zin_RX3 (by decide) zfl_RX3_32 rfl dX3_init_139 ?_
  refine g_iconst (v := (nI 0)) C dX3_init_142 (by decide) ?_
  refine g_bipush (v := (nI 10)) C dX3_init_143 (by decide) ?_
  refine g_iload_n (j := 0) C dX3_init_145 rfl rfl ?_
  refine g_iadd C dX3_init_146 ?_
  refine p_num (y := (nI 24)) (by decide) ?_
  refine g_iconst (v := (nI 3)) C dX3_init_147 (by decide) ?_
  refine t_Vv (As := [.int (nI 0), .int (nI 24), .int (nI 3)]) (rest := []) zEi_ge hE C (c_X4_put0 l D cy ((q10, .inl (cy 0, 150, .inl (fun _ => 0))) :: (q9, .inr (8, [.ref q10, .int (nI 5), .int (nI 30), .int (nI 0)])) :: (q8, .inl (cy 0, 360, .inl (fun _ => 0))) :: (q7, .inr (8, [.ref q8, .int (nI 12), .int (nI 30), .int (nI 0)])) :: (q6, .inl (cy 0, 40, .inl (fun _ => 0))) :: (q5, .inr (8, [.ref q6, .int (nI 4), .int (nI 10), .int (nI 0)])) :: (q4, .inl (cy 0, 96, .inl (fun _ => 0))) :: (q3, .inr (8, [.ref q4, .int (nI 12), .int (nI 8), .int (nI 0)])) :: (q2, .inl (cy 0, 24, .inl (fun _ => 0))) :: (q1, .inr (8, [.ref q2, .int (nI 4), .int (nI 6), .int (nI 0)])) :: (a, .inr (7, [.ref q1, .ref q3, .ref q5, .ref q7, .ref q9, .ref q11, .int (nI 0), .int (nI 0)])) :: E) q11 q12 24 (nI 3) (zF 20) (by decide)) zml_RX3_46 zcv_X4_put (zRec.of C (ci := 8) (q0 := 1) rfl rfl) rfl rfl ⟨Nat.le_of_ble_eq_true rfl, Nat.le_of_ble_eq_true rfl⟩ rfl rfl (Nat.le_of_ble_eq_true rfl) ⟨Nat.le_of_ble_eq_true rfl, Nat.le_of_ble_eq_true rfl⟩ dX3_init_148 ?_
  intro w h
  obtain rfl : w = ((q12, .inl (cy 0, 26, .inl (zF 21))) :: (q11, .inr (8, [.ref q12, .int (nI 26), .int (nI 1), .int (nI 0)])) :: (q10, .inl (cy 0, 150, .inl (fun _ => 0))) :: (q9, .inr (8, [.ref q10, .int (nI 5), .int (nI 30), .int (nI 0)])) :: (q8, .inl (cy 0, 360, .inl (fun _ => 0))) :: (q7, .inr (8, [.ref q8, .int (nI 12), .int (nI 30), .int (nI 0)])) :: (q6, .inl (cy 0, 40, .inl (fun _ => 0))) :: (q5, .inr (8, [.ref q6, .int (nI 4), .int (nI 10), .int (nI 0)])) :: (q4, .inl (cy 0, 96, .inl (fun _ => 0))) :: (q3, .inr (8, [.ref q4, .int (nI 12), .int (nI 8), .int (nI 0)])) :: (q2, .inl (cy 0, 24, .inl (fun _ => 0))) :: (q1, .inr (8, [.ref q2, .int (nI 4), .int (nI 6), .int (nI 0)])) :: (a, .inr (7, [.ref q1, .ref q3, .ref q5, .ref q7, .ref q9, .ref q11, .int (nI 0), .int (nI 0)])) :: E) := h
  refine g_iinc (k := 0) (L' := [(1, .int (nI 15)), (0, .ref a)]) C dX3_init_151 rfl (by decide) (by decide) rfl ?_
  refine g_goto C dX3_init_154 (tgt := 132) (by decide) ?_
  refine g_iload_n (j := 0) C dX3_init_132 rfl rfl ?_
  refine g_bipush (v := (nI 16)) C dX3_init_133 (by decide) ?_
  refine g_icmp_ge C dX3_init_135 (tgt := 157) (by decide) (fun h9 => absurd h9 (by decide)) (fun _ => ?_)
  refine g_aload_n (j := 1) C dX3_init_138 rfl rfl ?_
  refine p_get (q0 := 12) (k := 5) (ci := 7) (N := 8) (v := .ref q11) C rfl rfl zin_RX3 (by decide) zfl_RX3_32 rfl dX3_init_139 ?_
  refine g_iconst (v := (nI 0)) C dX3_init_142 (by decide) ?_
  refine g_bipush (v := (nI 10)) C dX3_init_143 (by decide) ?_
  refine g_iload_n (j := 0) C dX3_init_145 rfl rfl ?_
  refine g_iadd C dX3_init_146 ?_
  refine p_num (y := (nI 25)) (by decide) ?_
  refine g_iconst (v := (nI 3)) C dX3_init_147 (by decide) ?_
  refine t_Vv (As := [.int (nI 0), .int (nI 25), .int (nI 3)]) (rest := []) zEi_ge hE C (c_X4_put0 l D cy ((q10, .inl (cy 0, 150, .inl (fun _ => 0))) :: (q9, .inr (8, [.ref q10, .int (nI 5), .int (nI 30), .int (nI 0)])) :: (q8, .inl (cy 0, 360, .inl (fun _ => 0))) :: (q7, .inr (8, [.ref q8, .int (nI 12), .int (nI 30), .int (nI 0)])) :: (q6, .inl (cy 0, 40, .inl (fun _ => 0))) :: (q5, .inr (8, [.ref q6, .int (nI 4), .int (nI 10), .int (nI 0)])) :: (q4, .inl (cy 0, 96, .inl (fun _ => 0))) :: (q3, .inr (8, [.ref q4, .int (nI 12), .int (nI 8), .int (nI 0)])) :: (q2, .inl (cy 0, 24, .inl (fun _ => 0))) :: (q1, .inr (8, [.ref q2, .int (nI 4), .int (nI 6), .int (nI 0)])) :: (a, .inr (7, [.ref q1, .ref q3, .ref q5, .ref q7, .ref q9, .ref q11, .int (nI 0), .int (nI 0)])) :: E) q11 q12 25 (nI 3) (zF 21) (by decide)) zml_RX3_46 zcv_X4_put (zRec.of C (ci := 8) (q0 := 1) rfl rfl) rfl rfl ⟨Nat.le_of_ble_eq_true rfl, Nat.le_of_ble_eq_true rfl⟩ rfl rfl (Nat.le_of_ble_eq_true rfl) ⟨Nat.le_of_ble_eq_true rfl, Nat.le_of_ble_eq_true rfl⟩ dX3_init_148 ?_
  intro w h
  obtain rfl : w = ((q12, .inl (cy 0, 26, .inl (zF 22))) :: (q11, .inr (8, [.ref q12, .int (nI 26), .int (nI 1), .int (nI 0)])) :: (q10, .inl (cy 0, 150, .inl (fun _ => 0))) :: (q9, .inr (8, [.ref q10, .int (nI 5), .int (nI 30), .int (nI 0)])) :: (q8, .inl (cy 0, 360, .inl (fun _ => 0))) :: (q7, .inr (8, [.ref q8, .int (nI 12), .int (nI 30), .int (nI 0)])) :: (q6, .inl (cy 0, 40, .inl (fun _ => 0))) :: (q5, .inr (8, [.ref q6, .int (nI 4), .int (nI 10), .int (nI 0)])) :: (q4, .inl (cy 0, 96, .inl (fun _ => 0))) :: (q3, .inr (8, [.ref q4, .int (nI 12), .int (nI 8), .int (nI 0)])) :: (q2, .inl (cy 0, 24, .inl (fun _ => 0))) :: (q1, .inr (8, [.ref q2, .int (nI 4), .int (nI 6), .int (nI 0)])) :: (a, .inr (7, [.ref q1, .ref q3, .ref q5, .ref q7, .ref q9, .ref q11, .int (nI 0), .int (nI 0)])) :: E) := h
  refine g_iinc (k := 0) (L' := [(1, .int (nI 16)), (0, .ref a)]) C dX3_init_151 rfl (by decide) (by decide) rfl ?_
  refine g_goto C dX3_init_154 (tgt := 132) (by decide) ?_
  refine g_iload_n (j := 0) C dX3_init_132 rfl rfl ?_
  refine g_bipush (v := (nI 16)) C dX3_init_133 (by decide) ?_
  refine g_icmp_ge C dX3_init_135 (tgt := 157) (by decide) (fun _ => ?_) (fun h9 => absurd (by decide) h9)
  refine zG.less (ws' := zStB cy (fun i => ([a, q1, q2, q3, q4, q5, q6, q7, q8, q9, q10, q11, q12] : List Nat).getD i 0) ++ E) (l' := ((q12, .inl (cy 0, 26, .inl (zF 22))) :: (q11, .inr (8, [.ref q12, .int (nI 26), .int (nI 1), .int (nI 0)])) :: (q10, .inl (cy 0, 150, .inl (fun _ => 0))) :: (q9, .inr (8, [.ref q10, .int (nI 5), .int (nI 30), .int (nI 0)])) :: (q8, .inl (cy 0, 360, .inl (fun _ => 0))) :: (q7, .inr (8, [.ref q8, .int (nI 12), .int (nI 30), .int (nI 0)])) :: (q6, .inl (cy 0, 40, .inl (fun _ => 0))) :: (q5, .inr (8, [.ref q6, .int (nI 4), .int (nI 10), .int (nI 0)])) :: (q4, .inl (cy 0, 96, .inl (fun _ => 0))) :: (q3, .inr (8, [.ref q4, .int (nI 12), .int (nI 8), .int (nI 0)])) :: (q2, .inl (cy 0, 24, .inl (fun _ => 0))) :: (q1, .inr (8, [.ref q2, .int (nI 4), .int (nI 6), .int (nI 0)])) :: (a, .inr (7, [.ref q1, .ref q3, .ref q5, .ref q7, .ref q9, .ref q11, .int (nI 0), .int (nI 0)])) :: E)) ((List.reverse_perm (zStB cy (fun i => ([a, q1, q2, q3, q4, q5, q6, q7, q8, q9, q10, q11, q12] : List Nat).getD i 0))).symm.append_right E) (List.Sublist.refl _) ?_
  exact t_vret C hr ⟨(fun i => ([a, q1, q2, q3, q4, q5, q6, q7, q8, q9, q10, q11, q12] : List Nat).getD i 0), rfl, rfl⟩ (Nat.le_of_ble_eq_true rfl) (Nat.le_of_ble_eq_true rfl) dX3_init_157
theorem zol_RX2_3 : Cond.methodLink RX2 3 objectInit ∈ zAll := zg (z_t1 (List.mem_of_getElem? (i := 135) (by decide +kernel))) (by decide +kernel)
theorem zkl_RX2_9 : Cond.classLink RX2 9 RX4 ∈ zAll := zg (z_t1 (List.mem_of_getElem? (i := 136) (by decide +kernel))) (by decide +kernel)
set_option maxRecDepth 100000 in
set_option maxHeartbeats 8000000 in
theorem c_X2_init (l : Launch) (D : va_G) (cy : Nat → ClassId) (E : va_W) (a : Nat) : zMt l yX2_init cX2_init 1 none (zrt 4 2 214) D (zTy cy) zEi ((a, .inr (6, [.null, .int 0, .int 0, .int 0])) :: E) [.ref a] 2 214 (tV D (zTy cy) (fun w => ∃ q1 q2, w = ((a, .inr (6, [.ref q1, .int (nI 0), .int (nI 0), .int (-1 : Int32)])) :: (q1, .inr (8, [.ref q2, .int (nI 7), .int (nI 30), .int (nI 0)])) :: (q2, .inl (cy 0, 210, .inl (fun _ => 0))) :: E))) := by
  refine zMt.ofI (by decide) (Nat.le_of_ble_eq_true rfl) ?_
  intro p e s m below meth c A C hr hE hnm
  refine zG_L (L' := [(0, .ref a)]) rfl ?_
  refine g_aload_n (j := 0) C dX2_init_0 rfl rfl ?_
  refine n_obj C zol_RX2_3 (Nat.le_of_ble_eq_true rfl) (Nat.le_of_ble_eq_true rfl) dX2_init_1 ?_
  refine g_aload_n (j := 0) C dX2_init_4 rfl rfl ?_
  refine n_new (ci := 8) (N := 4) (ty0 := tyX4) (fs := [.null, .int 0, .int 0, .int 0]) C zin_RX4 tyX4_ok zkl_RX2_9 zns_RX4 zni_RX4 rfl (by decide) (Nat.le_of_ble_eq_true rfl) (Nat.le_of_ble_eq_true rfl) dX2_init_5 (fun q1 => ?_)
  refine g_dup C dX2_init_8 rfl ?_
  refine g_bipush (v := (nI 30)) C dX2_init_9 (by decide) ?_
  refine g_bipush (v := (nI 7)) C dX2_init_11 (by decide) ?_
  refine n_init (As := [.int (nI 30), .int (nI 7)]) (rest := [.ref q1, .ref a]) zEi_ge hE C (c_X4_init l D cy ((a, .inr (6, [.null, .int 0, .int 0, .int 0])) :: E) q1 30 7 210 rfl (by decide)) zml_RX2_13 zci_X4_init rfl rfl ⟨Nat.le_of_ble_eq_true rfl, Nat.le_of_ble_eq_true rfl⟩ rfl rfl (Nat.le_of_ble_eq_true rfl) ⟨Nat.le_of_ble_eq_true rfl, Nat.le_of_ble_eq_true rfl⟩ dX2_init_13 ?_
  intro w h
  obtain ⟨q2, rfl⟩ := h
  refine n_putF C hnm (q0 := 2) (k := 0) (ci := 6) (N := 4) (ty := (.object "CinemaProgramme$Table")) (ty0 := tyX2) (v := .ref q1) (ws' := ((q2, .inl (cy 0, 210, .inl (fun _ => 0))) :: (q1, .inr (8, [.ref q2, .int (nI 7), .int (nI 30), .int (nI 0)])) :: (a, .inr (6, [.ref q1, .int 0, .int 0, .int 0])) :: E)) rfl rfl zin_RX2 (by decide) zfl_RX2_16 tyX2_ok nmX2 rfl rfl (by decide +kernel) rfl rfl (Nat.le_of_ble_eq_true rfl) rfl dX2_init_16 ?_
  refine g_aload_n (j := 0) C dX2_init_19 rfl rfl ?_
  refine g_iconst (v := (nI 0)) C dX2_init_20 (by decide) ?_
  refine p_put (q0 := 2) (k := 1) (ci := 6) (N := 4) (ty := .int) (ty0 := tyX2) (v := .int (nI 0)) (ws' := ((q2, .inl (cy 0, 210, .inl (fun _ => 0))) :: (q1, .inr (8, [.ref q2, .int (nI 7), .int (nI 30), .int (nI 0)])) :: (a, .inr (6, [.ref q1, .int (nI 0), .int 0, .int 0])) :: E)) C rfl rfl zin_RX2 (by decide) zfl_RX2_20 tyX2_ok nmX2 rfl (by decide +kernel) rfl rfl (Nat.le_of_ble_eq_true rfl) rfl dX2_init_21 ?_
  refine g_aload_n (j := 0) C dX2_init_24 rfl rfl ?_
  refine g_iconst (v := (nI 0)) C dX2_init_25 (by decide) ?_
  refine p_put (q0 := 2) (k := 2) (ci := 6) (N := 4) (ty := .int) (ty0 := tyX2) (v := .int (nI 0)) (ws' := ((q2, .inl (cy 0, 210, .inl (fun _ => 0))) :: (q1, .inr (8, [.ref q2, .int (nI 7), .int (nI 30), .int (nI 0)])) :: (a, .inr (6, [.ref q1, .int (nI 0), .int (nI 0), .int 0])) :: E)) C rfl rfl zin_RX2 (by decide) zfl_RX2_24 tyX2_ok nmX2 rfl (by decide +kernel) rfl rfl (Nat.le_of_ble_eq_true rfl) rfl dX2_init_26 ?_
  refine g_aload_n (j := 0) C dX2_init_29 rfl rfl ?_
  refine g_iconst (v := (-1 : Int32)) C dX2_init_30 (by decide) ?_
  refine p_put (q0 := 2) (k := 3) (ci := 6) (N := 4) (ty := .int) (ty0 := tyX2) (v := .int (-1 : Int32)) (ws' := ((q2, .inl (cy 0, 210, .inl (fun _ => 0))) :: (q1, .inr (8, [.ref q2, .int (nI 7), .int (nI 30), .int (nI 0)])) :: (a, .inr (6, [.ref q1, .int (nI 0), .int (nI 0), .int (-1 : Int32)])) :: E)) C rfl rfl zin_RX2 (by decide) zfl_RX2_27 tyX2_ok nmX2 rfl (by decide +kernel) rfl rfl (Nat.le_of_ble_eq_true rfl) rfl dX2_init_31 ?_
  refine zG.less (ws' := [(a, .inr (6, [.ref q1, .int (nI 0), .int (nI 0), .int (-1 : Int32)])), (q1, .inr (8, [.ref q2, .int (nI 7), .int (nI 30), .int (nI 0)])), (q2, .inl (cy 0, 210, .inl (fun _ => 0)))] ++ E) (l' := ((q2, .inl (cy 0, 210, .inl (fun _ => 0))) :: (q1, .inr (8, [.ref q2, .int (nI 7), .int (nI 30), .int (nI 0)])) :: (a, .inr (6, [.ref q1, .int (nI 0), .int (nI 0), .int (-1 : Int32)])) :: E)) ((List.reverse_perm ([(a, .inr (6, [.ref q1, .int (nI 0), .int (nI 0), .int (-1 : Int32)])), (q1, .inr (8, [.ref q2, .int (nI 7), .int (nI 30), .int (nI 0)])), (q2, .inl (cy 0, 210, .inl (fun _ => 0)))] : va_W)).symm.append_right E) (List.Sublist.refl _) ?_
  exact t_vret C hr ⟨q1, q2, rfl⟩ (Nat.le_of_ble_eq_true rfl) (Nat.le_of_ble_eq_true rfl) dX2_init_34
theorem zol_RX1_3 : Cond.methodLink RX1 3 objectInit ∈ zAll := zg (z_t1 (List.mem_of_getElem? (i := 157) (by decide +kernel))) (by decide +kernel)
theorem zkl_RX1_9 : Cond.classLink RX1 9 RX4 ∈ zAll := zg (z_t1 (List.mem_of_getElem? (i := 158) (by decide +kernel))) (by decide +kernel)
set_option maxRecDepth 100000 in
set_option maxHeartbeats 8000000 in
theorem c_X1_init (l : Launch) (D : va_G) (cy : Nat → ClassId) (E : va_W) (a : Nat) : zMt l yX1_init cX1_init 1 none (zrt 4 2 44) D (zTy cy) zEi ((a, .inr (5, [.null, .int 0])) :: E) [.ref a] 2 44 (tV D (zTy cy) (fun w => ∃ q1 q2, w = ((a, .inr (5, [.ref q1, .int (nI 0)])) :: (q1, .inr (8, [.ref q2, .int (nI 5), .int (nI 8), .int (nI 0)])) :: (q2, .inl (cy 0, 40, .inl (fun _ => 0))) :: E))) := by
  refine zMt.ofI (by decide) (Nat.le_of_ble_eq_true rfl) ?_
  intro p e s m below meth c A C hr hE hnm
  refine zG_L (L' := [(0, .ref a)]) rfl ?_
  refine g_aload_n (j := 0) C dX1_init_0 rfl rfl ?_
  refine n_obj C zol_RX1_3 (Nat.le_of_ble_eq_true rfl) (Nat.le_of_ble_eq_true rfl) dX1_init_1 ?_
  refine g_aload_n (j := 0) C dX1_init_4 rfl rfl ?_
  refine n_new (ci := 8) (N := 4) (ty0 := tyX4) (fs := [.null, .int 0, .int 0, .int 0]) C zin_RX4 tyX4_ok zkl_RX1_9 zns_RX4 zni_RX4 rfl (by decide) (Nat.le_of_ble_eq_true rfl) (Nat.le_of_ble_eq_true rfl) dX1_init_5 (fun q1 => ?_)
  refine g_dup C dX1_init_8 rfl ?_
  refine g_bipush (v := (nI 8)) C dX1_init_9 (by decide) ?_
  refine g_iconst (v := (nI 5)) C dX1_init_11 (by decide) ?_
  refine n_init (As := [.int (nI 8), .int (nI 5)]) (rest := [.ref q1, .ref a]) zEi_ge hE C (c_X4_init l D cy ((a, .inr (5, [.null, .int 0])) :: E) q1 8 5 40 rfl (by decide)) zml_RX1_11 zci_X4_init rfl rfl ⟨Nat.le_of_ble_eq_true rfl, Nat.le_of_ble_eq_true rfl⟩ rfl rfl (Nat.le_of_ble_eq_true rfl) ⟨Nat.le_of_ble_eq_true rfl, Nat.le_of_ble_eq_true rfl⟩ dX1_init_12 ?_
  intro w h
  obtain ⟨q2, rfl⟩ := h
  refine n_putF C hnm (q0 := 2) (k := 0) (ci := 5) (N := 2) (ty := (.object "CinemaProgramme$Table")) (ty0 := tyX1) (v := .ref q1) (ws' := ((q2, .inl (cy 0, 40, .inl (fun _ => 0))) :: (q1, .inr (8, [.ref q2, .int (nI 5), .int (nI 8), .int (nI 0)])) :: (a, .inr (5, [.ref q1, .int 0])) :: E)) rfl rfl zin_RX1 (by decide) zfl_RX1_14 tyX1_ok nmX1 rfl rfl (by decide +kernel) rfl rfl (Nat.le_of_ble_eq_true rfl) rfl dX1_init_15 ?_
  refine g_aload_n (j := 0) C dX1_init_18 rfl rfl ?_
  refine g_iconst (v := (nI 0)) C dX1_init_19 (by decide) ?_
  refine p_put (q0 := 2) (k := 1) (ci := 5) (N := 2) (ty := .int) (ty0 := tyX1) (v := .int (nI 0)) (ws' := ((q2, .inl (cy 0, 40, .inl (fun _ => 0))) :: (q1, .inr (8, [.ref q2, .int (nI 5), .int (nI 8), .int (nI 0)])) :: (a, .inr (5, [.ref q1, .int (nI 0)])) :: E)) C rfl rfl zin_RX1 (by decide) zfl_RX1_20 tyX1_ok nmX1 rfl (by decide +kernel) rfl rfl (Nat.le_of_ble_eq_true rfl) rfl dX1_init_20 ?_
  refine zG.less (ws' := [(a, .inr (5, [.ref q1, .int (nI 0)])), (q1, .inr (8, [.ref q2, .int (nI 5), .int (nI 8), .int (nI 0)])), (q2, .inl (cy 0, 40, .inl (fun _ => 0)))] ++ E) (l' := ((q2, .inl (cy 0, 40, .inl (fun _ => 0))) :: (q1, .inr (8, [.ref q2, .int (nI 5), .int (nI 8), .int (nI 0)])) :: (a, .inr (5, [.ref q1, .int (nI 0)])) :: E)) ((List.reverse_perm ([(a, .inr (5, [.ref q1, .int (nI 0)])), (q1, .inr (8, [.ref q2, .int (nI 5), .int (nI 8), .int (nI 0)])), (q2, .inl (cy 0, 40, .inl (fun _ => 0)))] : va_W)).symm.append_right E) (List.Sublist.refl _) ?_
  exact t_vret C hr ⟨q1, q2, rfl⟩ (Nat.le_of_ble_eq_true rfl) (Nat.le_of_ble_eq_true rfl) dX1_init_23
theorem zup_at (l : List Nat) (x : Nat) : va_up (fun j => l[j]?) l.length (some x) = fun j => (l ++ [x])[j]? := by
  funext j
  show (if j = l.length then some x else l[j]?) = (l ++ [x])[j]?
  by_cases h : j < l.length
  · rw [if_neg (by omega), List.getElem?_append_left h]
  · by_cases h2 : j = l.length
    · subst h2; rw [if_pos rfl, List.getElem?_append_right (Nat.le_refl _), Nat.sub_self]; rfl
    · rw [if_neg h2, List.getElem?_append_right (by omega), List.getElem?_eq_none (by omega), List.getElem?_eq_none (by show 1 ≤ _; omega)]
theorem zrevB : ∀ (Ls : List va_W) (E : va_W), (Ls.reverse.flatten ++ E).Perm (Ls.flatten ++ E)
  | [], _ => List.Perm.refl _
  | b :: Ls, E => by
    rw [List.reverse_cons, List.flatten_append, List.flatten_cons, List.flatten_cons, List.flatten_nil, List.append_nil, List.append_assoc, List.append_assoc]
    exact (zrevB Ls (b ++ E)).trans (zpT _ _ _).symm
/-- a History's cells as its constructor leaves them -/
def zHs (cy : Nat → ClassId) (h hs : Nat) (W : Nat → Nat → Nat) : va_W := (h, .inr (4, [.ref hs, .int (nI 0), .int (nI 0)])) :: (hs, .inl (cy 3, 9, .inr (.inr (.inr (.inr (fun j => ([W 0 0, W 1 0, W 2 0, W 3 0, W 4 0, W 5 0, W 6 0, W 7 0, W 8 0] : List Nat)[j]?)))))) :: ([zStB cy (W 0), zStB cy (W 1), zStB cy (W 2), zStB cy (W 3), zStB cy (W 4), zStB cy (W 5), zStB cy (W 6), zStB cy (W 7), zStB cy (W 8)] : List va_W).flatten
theorem zol_RX0_3 : Cond.methodLink RX0 3 objectInit ∈ zAll := zg (z_t1 (List.mem_of_getElem? (i := 115) (by decide +kernel))) (by decide +kernel)
theorem zkl_RX0_9 : Cond.classLink RX0 9 RX3 ∈ zAll := zg (z_t1 (List.mem_of_getElem? (i := 116) (by decide +kernel))) (by decide +kernel)
theorem zns_RX3 : Cond.instantiable RX3 8 ∈ zAll := zg (z_t1 (List.mem_of_getElem? (i := 40) (by decide +kernel))) (by decide +kernel)
theorem zni_RX3 : Cond.initialized RX3 ∈ zAll := zg (z_t1 (List.mem_of_getElem? (i := 2) (by decide +kernel))) (by decide +kernel)
theorem zci_X3_init : zCalI yX3_init cX3_init 2 0 := ⟨zg (z_t1 (List.mem_of_getElem? (i := 42) (by decide +kernel))) (by decide +kernel), zg (z_t1 (List.mem_of_getElem? (i := 2) (by decide +kernel))) (by decide +kernel), zg (z_t1 (List.mem_of_getElem? (i := 43) (by decide +kernel))) (by decide +kernel), rfl, by decide +kernel⟩
set_option maxRecDepth 100000 in
set_option maxHeartbeats 8000000 in
theorem c_X0_init (l : Launch) (D : va_G) (cy : Nat → ClassId) (E : va_W) (a : Nat) : zMt l yX0_init cX0_init 2 none (zrt 6 118 6561) D (zTy cy) zEi ((a, .inr (4, [.null, .int 0, .int 0])) :: E) [.ref a] 118 6561 (tV D (zTy cy) (fun w => ∃ (hs : Nat) (W : Nat → Nat → Nat), w = zHs cy a hs W ++ E)) := by
  refine zMt.ofI (by decide) (Nat.le_of_ble_eq_true rfl) ?_
  intro p e s m below meth c A C hr hE hnm
  refine zG_L (L' := [(0, .ref a)]) rfl ?_
  refine g_aload_n (j := 0) C dX0_init_0 rfl rfl ?_
  refine n_obj C zol_RX0_3 (Nat.le_of_ble_eq_true rfl) (Nat.le_of_ble_eq_true rfl) dX0_init_1 ?_
  refine g_aload_n (j := 0) C dX0_init_4 rfl rfl ?_
  refine g_bipush (v := (nI 9)) C dX0_init_5 (by decide) ?_
  refine n_newq (N := 9) C zkl_RX0_9 hE.2.2.2.2.2 (nI_pos (by decide)) (nI_clamp (by decide)) (Nat.le_of_ble_eq_true rfl) (Nat.le_of_ble_eq_true rfl) (Nat.le_of_ble_eq_true rfl) dX0_init_7 (fun q1 => ?_)
  rw [show (fun _ : Nat => (none : Option Nat)) = (fun j => ([] : List Nat)[j]?) from by funext j; rfl]
  refine n_putF C hnm (q0 := 1) (k := 0) (ci := 4) (N := 3) (ty := (.array (.object "CinemaProgramme$State"))) (ty0 := tyX0) (v := .ref q1) (ws' := ((q1, .inl (cy 3, 9, .inr (.inr (.inr (.inr (fun j => ([] : List Nat)[j]?)))))) :: (a, .inr (4, [.ref q1, .int 0, .int 0])) :: E)) rfl rfl zin_RX0 (by decide) zfl_RX0_11 tyX0_ok nmX0 rfl rfl (by decide +kernel) rfl rfl (Nat.le_of_ble_eq_true rfl) rfl dX0_init_10 ?_
  refine g_aload_n (j := 0) C dX0_init_13 rfl rfl ?_
  refine g_iconst (v := (nI 0)) C dX0_init_14 (by decide) ?_
  refine p_put (q0 := 1) (k := 1) (ci := 4) (N := 3) (ty := .int) (ty0 := tyX0) (v := .int (nI 0)) (ws' := ((q1, .inl (cy 3, 9, .inr (.inr (.inr (.inr (fun j => ([] : List Nat)[j]?)))))) :: (a, .inr (4, [.ref q1, .int (nI 0), .int 0])) :: E)) C rfl rfl zin_RX0 (by decide) zfl_RX0_17 tyX0_ok nmX0 rfl (by decide +kernel) rfl rfl (Nat.le_of_ble_eq_true rfl) rfl dX0_init_15 ?_
  refine g_aload_n (j := 0) C dX0_init_18 rfl rfl ?_
  refine g_iconst (v := (nI 0)) C dX0_init_19 (by decide) ?_
  refine p_put (q0 := 1) (k := 2) (ci := 4) (N := 3) (ty := .int) (ty0 := tyX0) (v := .int (nI 0)) (ws' := ((q1, .inl (cy 3, 9, .inr (.inr (.inr (.inr (fun j => ([] : List Nat)[j]?)))))) :: (a, .inr (4, [.ref q1, .int (nI 0), .int (nI 0)])) :: E)) C rfl rfl zin_RX0 (by decide) zfl_RX0_21 tyX0_ok nmX0 rfl (by decide +kernel) rfl rfl (Nat.le_of_ble_eq_true rfl) rfl dX0_init_20 ?_
  refine g_iconst (v := (nI 0)) C dX0_init_23 (by decide) ?_
  refine g_istore_n (L' := [(1, .int (nI 0)), (0, .ref a)]) C dX0_init_24 rfl (by decide) rfl ?_
  refine g_iload_n (j := 0) C dX0_init_25 rfl rfl ?_
  refine g_aload_n (j := 1) C dX0_init_26 rfl rfl ?_
  refine p_get (q0 := 1) (k := 0) (ci := 4) (N := 3) (v := .ref q1) C rfl rfl zin_RX0 (by decide) zfl_RX0_11 rfl dX0_init_27 ?_
  refine n_alen (q0 := 0) (k := 3) (ty := .object RX3) C rfl rfl dX0_init_30 ?_
  refine p_num (y := nI 9) rfl ?_
  refine g_icmp_ge C dX0_init_31 (tgt := 53) (by decide) (fun h9 => absurd h9 (by decide)) (fun _ => ?_)
  refine g_aload_n (j := 1) C dX0_init_34 rfl rfl ?_
  refine p_get (q0 := 1) (k := 0) (ci := 4) (N := 3) (v := .ref q1) C rfl rfl zin_RX0 (by decide) zfl_RX0_11 rfl dX0_init_35 ?_
  refine g_iload_n (j := 0) C dX0_init_38 rfl rfl ?_
  refine n_new (ci := 7) (N := 8) (ty0 := tyX3) (fs := [.null, .null, .null, .null, .null, .null, .int 0, .int 0]) C zin_RX3 tyX3_ok zkl_RX0_9 zns_RX3 zni_RX3 rfl (by decide) (Nat.le_of_ble_eq_true rfl) (Nat.le_of_ble_eq_true rfl) dX0_init_39 (fun q2 => ?_)
  refine g_dup C dX0_init_42 rfl ?_
  refine n_init (As := []) (rest := [.ref q2, .int (nI 0), .ref q1]) zEi_ge hE C (c_X3_init l D cy ((q1, .inl (cy 3, 9, .inr (.inr (.inr (.inr (fun j => ([] : List Nat)[j]?)))))) :: (a, .inr (4, [.ref q1, .int (nI 0), .int (nI 0)])) :: E) q2) zml_RX0_24 zci_X3_init rfl rfl ⟨Nat.le_of_ble_eq_true rfl, Nat.le_of_ble_eq_true rfl⟩ rfl rfl (Nat.le_of_ble_eq_true rfl) ⟨Nat.le_of_ble_eq_true rfl, Nat.le_of_ble_eq_true rfl⟩ dX0_init_43 ?_
  intro w h
  obtain ⟨w0, hw0, rfl⟩ := h
  subst hw0
  refine n_astq (q0 := 13) (qk := 0) (ws' := (zStB cy w0 ++ ((q1, .inl (cy 3, 9, .inr (.inr (.inr (.inr (fun j => ([w0 0] : List Nat)[j]?)))))) :: (a, .inr (4, [.ref q1, .int (nI 0), .int (nI 0)])) :: E))) C rfl rfl (nI_in (by decide) (by decide)) (by rw [nI_clamp (by decide)]; exact congrArg (fun g : Nat → Option Nat => List.set _ 13 (_, (Sum.inl (cy 3, 9, Sum.inr (Sum.inr (Sum.inr (Sum.inr g)))) : va_E))) (zup_at ([] : List Nat) (w0 0))) dX0_init_46 ?_
  refine zG.less (ws' := (q1, .inl (cy 3, 9, .inr (.inr (.inr (.inr (fun j => ([w0 0] : List Nat)[j]?)))))) :: (a, .inr (4, [.ref q1, .int (nI 0), .int (nI 0)])) :: (zStB cy w0 ++ E)) (l' := (zStB cy w0 ++ ((q1, .inl (cy 3, 9, .inr (.inr (.inr (.inr (fun j => ([w0 0] : List Nat)[j]?)))))) :: (a, .inr (4, [.ref q1, .int (nI 0), .int (nI 0)])) :: E))) (zpT [(q1, .inl (cy 3, 9, .inr (.inr (.inr (.inr (fun j => ([w0 0] : List Nat)[j]?)))))), (a, .inr (4, [.ref q1, .int (nI 0), .int (nI 0)]))] (zStB cy w0) E) (List.Sublist.refl _) ?_
  refine g_iinc (k := 0) (L' := [(1, .int (nI 1)), (0, .ref a)]) C dX0_init_47 rfl (by decide) (by decide) rfl ?_
  refine g_goto C dX0_init_50 (tgt := 25) (by decide) ?_
  refine g_iload_n (j := 0) C dX0_init_25 rfl rfl ?_
  refine g_aload_n (j := 1) C dX0_init_26 rfl rfl ?_
  refine p_get (q0 := 1) (k := 0) (ci := 4) (N := 3) (v := .ref q1) C rfl rfl zin_RX0 (by decide) zfl_RX0_11 rfl dX0_init_27 ?_
  refine n_alen (q0 := 0) (k := 3) (ty := .object RX3) C rfl rfl dX0_init_30 ?_
  refine p_num (y := nI 9) rfl ?_
  refine g_icmp_ge C dX0_init_31 (tgt := 53) (by decide) (fun h9 => absurd h9 (by decide)) (fun _ => ?_)
  refine g_aload_n (j := 1) C dX0_init_34 rfl rfl ?_
  refine p_get (q0 := 1) (k := 0) (ci := 4) (N := 3) (v := .ref q1) C rfl rfl zin_RX0 (by decide) zfl_RX0_11 rfl dX0_init_35 ?_
  refine g_iload_n (j := 0) C dX0_init_38 rfl rfl ?_
  refine n_new (ci := 7) (N := 8) (ty0 := tyX3) (fs := [.null, .null, .null, .null, .null, .null, .int 0, .int 0]) C zin_RX3 tyX3_ok zkl_RX0_9 zns_RX3 zni_RX3 rfl (by decide) (Nat.le_of_ble_eq_true rfl) (Nat.le_of_ble_eq_true rfl) dX0_init_39 (fun q3 => ?_)
  refine g_dup C dX0_init_42 rfl ?_
  refine n_init (As := []) (rest := [.ref q3, .int (nI 1), .ref q1]) zEi_ge hE C (c_X3_init l D cy ((q1, .inl (cy 3, 9, .inr (.inr (.inr (.inr (fun j => ([w0 0] : List Nat)[j]?)))))) :: (a, .inr (4, [.ref q1, .int (nI 0), .int (nI 0)])) :: (zStB cy w0 ++ E)) q3) zml_RX0_24 zci_X3_init rfl rfl ⟨Nat.le_of_ble_eq_true rfl, Nat.le_of_ble_eq_true rfl⟩ rfl rfl (Nat.le_of_ble_eq_true rfl) ⟨Nat.le_of_ble_eq_true rfl, Nat.le_of_ble_eq_true rfl⟩ dX0_init_43 ?_
  intro w h
  obtain ⟨w1, hw1, rfl⟩ := h
  subst hw1
  refine n_astq (q0 := 13) (qk := 0) (ws' := (zStB cy w1 ++ ((q1, .inl (cy 3, 9, .inr (.inr (.inr (.inr (fun j => ([w0 0, w1 0] : List Nat)[j]?)))))) :: (a, .inr (4, [.ref q1, .int (nI 0), .int (nI 0)])) :: (zStB cy w0 ++ E)))) C rfl rfl (nI_in (by decide) (by decide)) (by rw [nI_clamp (by decide)]; exact congrArg (fun g : Nat → Option Nat => List.set _ 13 (_, (Sum.inl (cy 3, 9, Sum.inr (Sum.inr (Sum.inr (Sum.inr g)))) : va_E))) (zup_at ([w0 0] : List Nat) (w1 0))) dX0_init_46 ?_
  refine zG.less (ws' := (q1, .inl (cy 3, 9, .inr (.inr (.inr (.inr (fun j => ([w0 0, w1 0] : List Nat)[j]?)))))) :: (a, .inr (4, [.ref q1, .int (nI 0), .int (nI 0)])) :: (zStB cy w1 ++ (zStB cy w0 ++ E))) (l' := (zStB cy w1 ++ ((q1, .inl (cy 3, 9, .inr (.inr (.inr (.inr (fun j => ([w0 0, w1 0] : List Nat)[j]?)))))) :: (a, .inr (4, [.ref q1, .int (nI 0), .int (nI 0)])) :: (zStB cy w0 ++ E)))) (zpT [(q1, .inl (cy 3, 9, .inr (.inr (.inr (.inr (fun j => ([w0 0, w1 0] : List Nat)[j]?)))))), (a, .inr (4, [.ref q1, .int (nI 0), .int (nI 0)]))] (zStB cy w1) (zStB cy w0 ++ E)) (List.Sublist.refl _) ?_
  refine g_iinc (k := 0) (L' := [(1, .int (nI 2)), (0, .ref a)]) C dX0_init_47 rfl (by decide) (by decide) rfl ?_
  refine g_goto C dX0_init_50 (tgt := 25) (by decide) ?_
  refine g_iload_n (j := 0) C dX0_init_25 rfl rfl ?_
  refine g_aload_n (j := 1) C dX0_init_26 rfl rfl ?_
  refine p_get (q0 := 1) (k := 0) (ci := 4) (N := 3) (v := .ref q1) C rfl rfl zin_RX0 (by decide) zfl_RX0_11 rfl dX0_init_27 ?_
  refine n_alen (q0 := 0) (k := 3) (ty := .object RX3) C rfl rfl dX0_init_30 ?_
  refine p_num (y := nI 9) rfl ?_
  refine g_icmp_ge C dX0_init_31 (tgt := 53) (by decide) (fun h9 => absurd h9 (by decide)) (fun _ => ?_)
  refine g_aload_n (j := 1) C dX0_init_34 rfl rfl ?_
  refine p_get (q0 := 1) (k := 0) (ci := 4) (N := 3) (v := .ref q1) C rfl rfl zin_RX0 (by decide) zfl_RX0_11 rfl dX0_init_35 ?_
  refine g_iload_n (j := 0) C dX0_init_38 rfl rfl ?_
  refine n_new (ci := 7) (N := 8) (ty0 := tyX3) (fs := [.null, .null, .null, .null, .null, .null, .int 0, .int 0]) C zin_RX3 tyX3_ok zkl_RX0_9 zns_RX3 zni_RX3 rfl (by decide) (Nat.le_of_ble_eq_true rfl) (Nat.le_of_ble_eq_true rfl) dX0_init_39 (fun q4 => ?_)
  refine g_dup C dX0_init_42 rfl ?_
  refine n_init (As := []) (rest := [.ref q4, .int (nI 2), .ref q1]) zEi_ge hE C (c_X3_init l D cy ((q1, .inl (cy 3, 9, .inr (.inr (.inr (.inr (fun j => ([w0 0, w1 0] : List Nat)[j]?)))))) :: (a, .inr (4, [.ref q1, .int (nI 0), .int (nI 0)])) :: (zStB cy w1 ++ (zStB cy w0 ++ E))) q4) zml_RX0_24 zci_X3_init rfl rfl ⟨Nat.le_of_ble_eq_true rfl, Nat.le_of_ble_eq_true rfl⟩ rfl rfl (Nat.le_of_ble_eq_true rfl) ⟨Nat.le_of_ble_eq_true rfl, Nat.le_of_ble_eq_true rfl⟩ dX0_init_43 ?_
  intro w h
  obtain ⟨w2, hw2, rfl⟩ := h
  subst hw2
  refine n_astq (q0 := 13) (qk := 0) (ws' := (zStB cy w2 ++ ((q1, .inl (cy 3, 9, .inr (.inr (.inr (.inr (fun j => ([w0 0, w1 0, w2 0] : List Nat)[j]?)))))) :: (a, .inr (4, [.ref q1, .int (nI 0), .int (nI 0)])) :: (zStB cy w1 ++ (zStB cy w0 ++ E))))) C rfl rfl (nI_in (by decide) (by decide)) (by rw [nI_clamp (by decide)]; exact congrArg (fun g : Nat → Option Nat => List.set _ 13 (_, (Sum.inl (cy 3, 9, Sum.inr (Sum.inr (Sum.inr (Sum.inr g)))) : va_E))) (zup_at ([w0 0, w1 0] : List Nat) (w2 0))) dX0_init_46 ?_
  refine zG.less (ws' := (q1, .inl (cy 3, 9, .inr (.inr (.inr (.inr (fun j => ([w0 0, w1 0, w2 0] : List Nat)[j]?)))))) :: (a, .inr (4, [.ref q1, .int (nI 0), .int (nI 0)])) :: (zStB cy w2 ++ (zStB cy w1 ++ (zStB cy w0 ++ E)))) (l' := (zStB cy w2 ++ ((q1, .inl (cy 3, 9, .inr (.inr (.inr (.inr (fun j => ([w0 0, w1 0, w2 0] : List Nat)[j]?)))))) :: (a, .inr (4, [.ref q1, .int (nI 0), .int (nI 0)])) :: (zStB cy w1 ++ (zStB cy w0 ++ E))))) (zpT [(q1, .inl (cy 3, 9, .inr (.inr (.inr (.inr (fun j => ([w0 0, w1 0, w2 0] : List Nat)[j]?)))))), (a, .inr (4, [.ref q1, .int (nI 0), .int (nI 0)]))] (zStB cy w2) (zStB cy w1 ++ (zStB cy w0 ++ E))) (List.Sublist.refl _) ?_
  refine g_iinc (k := 0) (L' := [(1, .int (nI 3)), (0, .ref a)]) C dX0_init_47 rfl (by decide) (by decide) rfl ?_
  refine g_goto C dX0_init_50 (tgt := 25) (by decide) ?_
  refine g_iload_n (j := 0) C dX0_init_25 rfl rfl ?_
  refine g_aload_n (j := 1) C dX0_init_26 rfl rfl ?_
  refine p_get (q0 := 1) (k := 0) (ci := 4) (N := 3) (v := .ref q1) C rfl rfl zin_RX0 (by decide) zfl_RX0_11 rfl dX0_init_27 ?_
  refine n_alen (q0 := 0) (k := 3) (ty := .object RX3) C rfl rfl dX0_init_30 ?_
  refine p_num (y := nI 9) rfl ?_
  refine g_icmp_ge C dX0_init_31 (tgt := 53) (by decide) (fun h9 => absurd h9 (by decide)) (fun _ => ?_)
  refine g_aload_n (j := 1) C dX0_init_34 rfl rfl ?_
  refine p_get (q0 := 1) (k := 0) (ci := 4) (N := 3) (v := .ref q1) C rfl rfl zin_RX0 (by decide) zfl_RX0_11 rfl dX0_init_35 ?_
  refine g_iload_n (j := 0) C dX0_init_38 rfl rfl ?_
  refine n_new (ci := 7) (N := 8) (ty0 := tyX3) (fs := [.null, .null, .null, .null, .null, .null, .int 0, .int 0]) C zin_RX3 tyX3_ok zkl_RX0_9 zns_RX3 zni_RX3 rfl (by decide) (Nat.le_of_ble_eq_true rfl) (Nat.le_of_ble_eq_true rfl) dX0_init_39 (fun q5 => ?_)
  refine g_dup C dX0_init_42 rfl ?_
  refine n_init (As := []) (rest := [.ref q5, .int (nI 3), .ref q1]) zEi_ge hE C (c_X3_init l D cy ((q1, .inl (cy 3, 9, .inr (.inr (.inr (.inr (fun j => ([w0 0, w1 0, w2 0] : List Nat)[j]?)))))) :: (a, .inr (4, [.ref q1, .int (nI 0), .int (nI 0)])) :: (zStB cy w2 ++ (zStB cy w1 ++ (zStB cy w0 ++ E)))) q5) zml_RX0_24 zci_X3_init rfl rfl ⟨Nat.le_of_ble_eq_true rfl, Nat.le_of_ble_eq_true rfl⟩ rfl rfl (Nat.le_of_ble_eq_true rfl) ⟨Nat.le_of_ble_eq_true rfl, Nat.le_of_ble_eq_true rfl⟩ dX0_init_43 ?_
  intro w h
  obtain ⟨w3, hw3, rfl⟩ := h
  subst hw3
  refine n_astq (q0 := 13) (qk := 0) (ws' := (zStB cy w3 ++ ((q1, .inl (cy 3, 9, .inr (.inr (.inr (.inr (fun j => ([w0 0, w1 0, w2 0, w3 0] : List Nat)[j]?)))))) :: (a, .inr (4, [.ref q1, .int (nI 0), .int (nI 0)])) :: (zStB cy w2 ++ (zStB cy w1 ++ (zStB cy w0 ++ E)))))) C rfl rfl (nI_in (by decide) (by decide)) (by rw [nI_clamp (by decide)]; exact congrArg (fun g : Nat → Option Nat => List.set _ 13 (_, (Sum.inl (cy 3, 9, Sum.inr (Sum.inr (Sum.inr (Sum.inr g)))) : va_E))) (zup_at ([w0 0, w1 0, w2 0] : List Nat) (w3 0))) dX0_init_46 ?_
  refine zG.less (ws' := (q1, .inl (cy 3, 9, .inr (.inr (.inr (.inr (fun j => ([w0 0, w1 0, w2 0, w3 0] : List Nat)[j]?)))))) :: (a, .inr (4, [.ref q1, .int (nI 0), .int (nI 0)])) :: (zStB cy w3 ++ (zStB cy w2 ++ (zStB cy w1 ++ (zStB cy w0 ++ E))))) (l' := (zStB cy w3 ++ ((q1, .inl (cy 3, 9, .inr (.inr (.inr (.inr (fun j => ([w0 0, w1 0, w2 0, w3 0] : List Nat)[j]?)))))) :: (a, .inr (4, [.ref q1, .int (nI 0), .int (nI 0)])) :: (zStB cy w2 ++ (zStB cy w1 ++ (zStB cy w0 ++ E)))))) (zpT [(q1, .inl (cy 3, 9, .inr (.inr (.inr (.inr (fun j => ([w0 0, w1 0, w2 0, w3 0] : List Nat)[j]?)))))), (a, .inr (4, [.ref q1, .int (nI 0), .int (nI 0)]))] (zStB cy w3) (zStB cy w2 ++ (zStB cy w1 ++ (zStB cy w0 ++ E)))) (List.Sublist.refl _) ?_
  refine g_iinc (k := 0) (L' := [(1, .int (nI 4)), (0, .ref a)]) C dX0_init_47 rfl (by decide) (by decide) rfl ?_
  refine g_goto C dX0_init_50 (tgt := 25) (by decide) ?_
  refine g_iload_n (j := 0) C dX0_init_25 rfl rfl ?_
  refine g_aload_n (j := 1) C dX0_init_26 rfl rfl ?_
  refine p_get (q0 := 1) (k := 0) (ci := 4) (N := 3) (v := .ref q1) C rfl rfl zin_RX0 (by decide) zfl_RX0_11 rfl dX0_init_27 ?_
  refine n_alen (q0 := 0) (k := 3) (ty := .object RX3) C rfl rfl dX0_init_30 ?_
  refine p_num (y := nI 9) rfl ?_
  refine g_icmp_ge C dX0_init_31 (tgt := 53) (by decide) (fun h9 => absurd h9 (by decide)) (fun _ => ?_)
  refine g_aload_n (j := 1) C dX0_init_34 rfl rfl ?_
  refine p_get (q0 := 1) (k := 0) (ci := 4) (N := 3) (v := .ref q1) C rfl rfl zin_RX0 (by decide) zfl_RX0_11 rfl dX0_init_35 ?_
  refine g_iload_n (j := 0) C dX0_init_38 rfl rfl ?_
  refine n_new (ci := 7) (N := 8) (ty0 := tyX3) (fs := [.null, .null, .null, .null, .null, .null, .int 0, .int 0]) C zin_RX3 tyX3_ok zkl_RX0_9 zns_RX3 zni_RX3 rfl (by decide) (Nat.le_of_ble_eq_true rfl) (Nat.le_of_ble_eq_true rfl) dX0_init_39 (fun q6 => ?_)
  refine g_dup C dX0_init_42 rfl ?_
  refine n_init (As := []) (rest := [.ref q6, .int (nI 4), .ref q1]) zEi_ge hE C (c_X3_init l D cy ((q1, .inl (cy 3, 9, .inr (.inr (.inr (.inr (fun j => ([w0 0, w1 0, w2 0, w3 0] : List Nat)[j]?)))))) :: (a, .inr (4, [.ref q1, .int (nI 0), .int (nI 0)])) :: (zStB cy w3 ++ (zStB cy w2 ++ (zStB cy w1 ++ (zStB cy w0 ++ E))))) q6) zml_RX0_24 zci_X3_init rfl rfl ⟨Nat.le_of_ble_eq_true rfl, Nat.le_of_ble_eq_true rfl⟩ rfl rfl (Nat.le_of_ble_eq_true rfl) ⟨Nat.le_of_ble_eq_true rfl, Nat.le_of_ble_eq_true rfl⟩ dX0_init_43 ?_
  intro w h
  obtain ⟨w4, hw4, rfl⟩ := h
  subst hw4
  refine n_astq (q0 := 13) (qk := 0) (ws' := (zStB cy w4 ++ ((q1, .inl (cy 3, 9, .inr (.inr (.inr (.inr (fun j => ([w0 0, w1 0, w2 0, w3 0, w4 0] : List Nat)[j]?)))))) :: (a, .inr (4, [.ref q1, .int (nI 0), .int (nI 0)])) :: (zStB cy w3 ++ (zStB cy w2 ++ (zStB cy w1 ++ (zStB cy w0 ++ E))))))) C rfl rfl (nI_in (by decide) (by decide)) (by rw [nI_clamp (by decide)]; exact congrArg (fun g : Nat → Option Nat => List.set _ 13 (_, (Sum.inl (cy 3, 9, Sum.inr (Sum.inr (Sum.inr (Sum.inr g)))) : va_E))) (zup_at ([w0 0, w1 0, w2 0, w3 0] : List Nat) (w4 0))) dX0_init_46 ?_
  refine zG.less (ws' := (q1, .inl (cy 3, 9, .inr (.inr (.inr (.inr (fun j => ([w0 0, w1 0, w2 0, w3 0, w4 0] : List Nat)[j]?)))))) :: (a, .inr (4, [.ref q1, .int (nI 0), .int (nI 0)])) :: (zStB cy w4 ++ (zStB cy w3 ++ (zStB cy w2 ++ (zStB cy w1 ++ (zStB cy w0 ++ E)))))) (l' := (zStB cy w4 ++ ((q1, .inl (cy 3, 9, .inr (.inr (.inr (.inr (fun j => ([w0 0, w1 0, w2 0, w3 0, w4 0] : List Nat)[j]?)))))) :: (a, .inr (4, [.ref q1, .int (nI 0), .int (nI 0)])) :: (zStB cy w3 ++ (zStB cy w2 ++ (zStB cy w1 ++ (zStB cy w0 ++ E))))))) (zpT [(q1, .inl (cy 3, 9, .inr (.inr (.inr (.inr (fun j => ([w0 0, w1 0, w2 0, w3 0, w4 0] : List Nat)[j]?)))))), (a, .inr (4, [.ref q1, .int (nI 0), .int (nI 0)]))] (zStB cy w4) (zStB cy w3 ++ (zStB cy w2 ++ (zStB cy w1 ++ (zStB cy w0 ++ E))))) (List.Sublist.refl _) ?_
  refine g_iinc (k := 0) (L' := [(1, .int (nI 5)), (0, .ref a)]) C dX0_init_47 rfl (by decide) (by decide) rfl ?_
  refine g_goto C dX0_init_50 (tgt := 25) (by decide) ?_
  refine g_iload_n (j := 0) C dX0_init_25 rfl rfl ?_
  refine g_aload_n (j := 1) C dX0_init_26 rfl rfl ?_
  refine p_get (q0 := 1) (k := 0) (ci := 4) (N := 3) (v := .ref q1) C rfl rfl zin_RX0 (by decide) zfl_RX0_11 rfl dX0_init_27 ?_
  refine n_alen (q0 := 0) (k := 3) (ty := .object RX3) C rfl rfl dX0_init_30 ?_
  refine p_num (y := nI 9) rfl ?_
  refine g_icmp_ge C dX0_init_31 (tgt := 53) (by decide) (fun h9 => absurd h9 (by decide)) (fun _ => ?_)
  refine g_aload_n (j := 1) C dX0_init_34 rfl rfl ?_
  refine p_get (q0 := 1) (k := 0) (ci := 4) (N := 3) (v := .ref q1) C rfl rfl zin_RX0 (by decide) zfl_RX0_11 rfl dX0_init_35 ?_
  refine g_iload_n (j := 0) C dX0_init_38 rfl rfl ?_
  refine n_new (ci := 7) (N := 8) (ty0 := tyX3) (fs := [.null, .null, .null, .null, .null, .null, .int 0, .int 0]) C zin_RX3 tyX3_ok zkl_RX0_9 zns_RX3 zni_RX3 rfl (by decide) (Nat.le_of_ble_eq_true rfl) (Nat.le_of_ble_eq_true rfl) dX0_init_39 (fun q7 => ?_)
  refine g_dup C dX0_init_42 rfl ?_
  refine n_init (As := []) (rest := [.ref q7, .int (nI 5), .ref q1]) zEi_ge hE C (c_X3_init l D cy ((q1, .inl (cy 3, 9, .inr (.inr (.inr (.inr (fun j => ([w0 0, w1 0, w2 0, w3 0, w4 0] : List Nat)[j]?)))))) :: (a, .inr (4, [.ref q1, .int (nI 0), .int (nI 0)])) :: (zStB cy w4 ++ (zStB cy w3 ++ (zStB cy w2 ++ (zStB cy w1 ++ (zStB cy w0 ++ E)))))) q7) zml_RX0_24 zci_X3_init rfl rfl ⟨Nat.le_of_ble_eq_true rfl, Nat.le_of_ble_eq_true rfl⟩ rfl rfl (Nat.le_of_ble_eq_true rfl) ⟨Nat.le_of_ble_eq_true rfl, Nat.le_of_ble_eq_true rfl⟩ dX0_init_43 ?_
  intro w h
  obtain ⟨w5, hw5, rfl⟩ := h
  subst hw5
  refine n_astq (q0 := 13) (qk := 0) (ws' := (zStB cy w5 ++ ((q1, .inl (cy 3, 9, .inr (.inr (.inr (.inr (fun j => ([w0 0, w1 0, w2 0, w3 0, w4 0, w5 0] : List Nat)[j]?)))))) :: (a, .inr (4, [.ref q1, .int (nI 0), .int (nI 0)])) :: (zStB cy w4 ++ (zStB cy w3 ++ (zStB cy w2 ++ (zStB cy w1 ++ (zStB cy w0 ++ E)))))))) C rfl rfl (nI_in (by decide) (by decide)) (by rw [nI_clamp (by decide)]; exact congrArg (fun g : Nat → Option Nat => List.set _ 13 (_, (Sum.inl (cy 3, 9, Sum.inr (Sum.inr (Sum.inr (Sum.inr g)))) : va_E))) (zup_at ([w0 0, w1 0, w2 0, w3 0, w4 0] : List Nat) (w5 0))) dX0_init_46 ?_
  refine zG.less (ws' := (q1, .inl (cy 3, 9, .inr (.inr (.inr (.inr (fun j => ([w0 0, w1 0, w2 0, w3 0, w4 0, w5 0] : List Nat)[j]?)))))) :: (a, .inr (4, [.ref q1, .int (nI 0), .int (nI 0)])) :: (zStB cy w5 ++ (zStB cy w4 ++ (zStB cy w3 ++ (zStB cy w2 ++ (zStB cy w1 ++ (zStB cy w0 ++ E))))))) (l' := (zStB cy w5 ++ ((q1, .inl (cy 3, 9, .inr (.inr (.inr (.inr (fun j => ([w0 0, w1 0, w2 0, w3 0, w4 0, w5 0] : List Nat)[j]?)))))) :: (a, .inr (4, [.ref q1, .int (nI 0), .int (nI 0)])) :: (zStB cy w4 ++ (zStB cy w3 ++ (zStB cy w2 ++ (zStB cy w1 ++ (zStB cy w0 ++ E)))))))) (zpT [(q1, .inl (cy 3, 9, .inr (.inr (.inr (.inr (fun j => ([w0 0, w1 0, w2 0, w3 0, w4 0, w5 0] : List Nat)[j]?)))))), (a, .inr (4, [.ref q1, .int (nI 0), .int (nI 0)]))] (zStB cy w5) (zStB cy w4 ++ (zStB cy w3 ++ (zStB cy w2 ++ (zStB cy w1 ++ (zStB cy w0 ++ E)))))) (List.Sublist.refl _) ?_
  refine g_iinc (k := 0) (L' := [(1, .int (nI 6)), (0, .ref a)]) C dX0_init_47 rfl (by decide) (by decide) rfl ?_
  refine g_goto C dX0_init_50 (tgt := 25) (by decide) ?_
  refine g_iload_n (j := 0) C dX0_init_25 rfl rfl ?_
  refine g_aload_n (j := 1) C dX0_init_26 rfl rfl ?_
  refine p_get (q0 := 1) (k := 0) (ci := 4) (N := 3) (v := .ref q1) C rfl rfl zin_RX0 (by decide) zfl_RX0_11 rfl dX0_init_27 ?_
  refine n_alen (q0 := 0) (k := 3) (ty := .object RX3) C rfl rfl dX0_init_30 ?_
  refine p_num (y := nI 9) rfl ?_
  refine g_icmp_ge C dX0_init_31 (tgt := 53) (by decide) (fun h9 => absurd h9 (by decide)) (fun _ => ?_)
  refine g_aload_n (j := 1) C dX0_init_34 rfl rfl ?_
  refine p_get (q0 := 1) (k := 0) (ci := 4) (N := 3) (v := .ref q1) C rfl rfl zin_RX0 (by decide) zfl_RX0_11 rfl dX0_init_35 ?_
  refine g_iload_n (j := 0) C dX0_init_38 rfl rfl ?_
  refine n_new (ci := 7) (N := 8) (ty0 := tyX3) (fs := [.null, .null, .null, .null, .null, .null, .int 0, .int 0]) C zin_RX3 tyX3_ok zkl_RX0_9 zns_RX3 zni_RX3 rfl (by decide) (Nat.le_of_ble_eq_true rfl) (Nat.le_of_ble_eq_true rfl) dX0_init_39 (fun q8 => ?_)
  refine g_dup C dX0_init_42 rfl ?_
  refine n_init (As := []) (rest := [.ref q8, .int (nI 6), .ref q1]) zEi_ge hE C (c_X3_init l D cy ((q1, .inl (cy 3, 9, .inr (.inr (.inr (.inr (fun j => ([w0 0, w1 0, w2 0, w3 0, w4 0, w5 0] : List Nat)[j]?)))))) :: (a, .inr (4, [.ref q1, .int (nI 0), .int (nI 0)])) :: (zStB cy w5 ++ (zStB cy w4 ++ (zStB cy w3 ++ (zStB cy w2 ++ (zStB cy w1 ++ (zStB cy w0 ++ E))))))) q8) zml_RX0_24 zci_X3_init rfl rfl ⟨Nat.le_of_ble_eq_true rfl, Nat.le_of_ble_eq_true rfl⟩ rfl rfl (Nat.le_of_ble_eq_true rfl) ⟨Nat.le_of_ble_eq_true rfl, Nat.le_of_ble_eq_true rfl⟩ dX0_init_43 ?_
  intro w h
  obtain ⟨w6, hw6, rfl⟩ := h
  subst hw6
  refine n_astq (q0 := 13) (qk := 0) (ws' := (zStB cy w6 ++ ((q1, .inl (cy 3, 9, .inr (.inr (.inr (.inr (fun j => ([w0 0, w1 0, w2 0, w3 0, w4 0, w5 0, w6 0] : List Nat)[j]?)))))) :: (a, .inr (4, [.ref q1, .int (nI 0), .int (nI 0)])) :: (zStB cy w5 ++ (zStB cy w4 ++ (zStB cy w3 ++ (zStB cy w2 ++ (zStB cy w1 ++ (zStB cy w0 ++ E))))))))) C rfl rfl (nI_in (by decide) (by decide)) (by rw [nI_clamp (by decide)]; exact congrArg (fun g : Nat → Option Nat => List.set _ 13 (_, (Sum.inl (cy 3, 9, Sum.inr (Sum.inr (Sum.inr (Sum.inr g)))) : va_E))) (zup_at ([w0 0, w1 0, w2 0, w3 0, w4 0, w5 0] : List Nat) (w6 0))) dX0_init_46 ?_
  refine zG.less (ws' := (q1, .inl (cy 3, 9, .inr (.inr (.inr (.inr (fun j => ([w0 0, w1 0, w2 0, w3 0, w4 0, w5 0, w6 0] : List Nat)[j]?)))))) :: (a, .inr (4, [.ref q1, .int (nI 0), .int (nI 0)])) :: (zStB cy w6 ++ (zStB cy w5 ++ (zStB cy w4 ++ (zStB cy w3 ++ (zStB cy w2 ++ (zStB cy w1 ++ (zStB cy w0 ++ E)))))))) (l' := (zStB cy w6 ++ ((q1, .inl (cy 3, 9, .inr (.inr (.inr (.inr (fun j => ([w0 0, w1 0, w2 0, w3 0, w4 0, w5 0, w6 0] : List Nat)[j]?)))))) :: (a, .inr (4, [.ref q1, .int (nI 0), .int (nI 0)])) :: (zStB cy w5 ++ (zStB cy w4 ++ (zStB cy w3 ++ (zStB cy w2 ++ (zStB cy w1 ++ (zStB cy w0 ++ E))))))))) (zpT [(q1, .inl (cy 3, 9, .inr (.inr (.inr (.inr (fun j => ([w0 0, w1 0, w2 0, w3 0, w4 0, w5 0, w6 0] : List Nat)[j]?)))))), (a, .inr (4, [.ref q1, .int (nI 0), .int (nI 0)]))] (zStB cy w6) (zStB cy w5 ++ (zStB cy w4 ++ (zStB cy w3 ++ (zStB cy w2 ++ (zStB cy w1 ++ (zStB cy w0 ++ E))))))) (List.Sublist.refl _) ?_
  refine g_iinc (k := 0) (L' := [(1, .int (nI 7)), (0, .ref a)]) C dX0_init_47 rfl (by decide) (by decide) rfl ?_
  refine g_goto C dX0_init_50 (tgt := 25) (by decide) ?_
  refine g_iload_n (j := 0) C dX0_init_25 rfl rfl ?_
  refine g_aload_n (j := 1) C dX0_init_26 rfl rfl ?_
  refine p_get (q0 := 1) (k := 0) (ci := 4) (N := 3) (v := .ref q1) C rfl rfl zin_RX0 (by decide) zfl_RX0_11 rfl dX0_init_27 ?_
  refine n_alen (q0 := 0) (k := 3) (ty := .object RX3) C rfl rfl dX0_init_30 ?_
  refine p_num (y := nI 9) rfl ?_
  refine g_icmp_ge C dX0_init_31 (tgt := 53) (by decide) (fun h9 => absurd h9 (by decide)) (fun _ => ?_)
  refine g_aload_n (j := 1) C dX0_init_34 rfl rfl ?_
  refine p_get (q0 := 1) (k := 0) (ci := 4) (N := 3) (v := .ref q1) C rfl rfl zin_RX0 (by decide) zfl_RX0_11 rfl dX0_init_35 ?_
  refine g_iload_n (j := 0) C dX0_init_38 rfl rfl ?_
  refine n_new (ci := 7) (N := 8) (ty0 := tyX3) (fs := [.null, .null, .null, .null, .null, .null, .int 0, .int 0]) C zin_RX3 tyX3_ok zkl_RX0_9 zns_RX3 zni_RX3 rfl (by decide) (Nat.le_of_ble_eq_true rfl) (Nat.le_of_ble_eq_true rfl) dX0_init_39 (fun q9 => ?_)
  refine g_dup C dX0_init_42 rfl ?_
  refine n_init (As := []) (rest := [.ref q9, .int (nI 7), .ref q1]) zEi_ge hE C (c_X3_init l D cy ((q1, .inl (cy 3, 9, .inr (.inr (.inr (.inr (fun j => ([w0 0, w1 0, w2 0, w3 0, w4 0, w5 0, w6 0] : List Nat)[j]?)))))) :: (a, .inr (4, [.ref q1, .int (nI 0), .int (nI 0)])) :: (zStB cy w6 ++ (zStB cy w5 ++ (zStB cy w4 ++ (zStB cy w3 ++ (zStB cy w2 ++ (zStB cy w1 ++ (zStB cy w0 ++ E)))))))) q9) zml_RX0_24 zci_X3_init rfl rfl ⟨Nat.le_of_ble_eq_true rfl, Nat.le_of_ble_eq_true rfl⟩ rfl rfl (Nat.le_of_ble_eq_true rfl) ⟨Nat.le_of_ble_eq_true rfl, Nat.le_of_ble_eq_true rfl⟩ dX0_init_43 ?_
  intro w h
  obtain ⟨w7, hw7, rfl⟩ := h
  subst hw7
  refine n_astq (q0 := 13) (qk := 0) (ws' := (zStB cy w7 ++ ((q1, .inl (cy 3, 9, .inr (.inr (.inr (.inr (fun j => ([w0 0, w1 0, w2 0, w3 0, w4 0, w5 0, w6 0, w7 0] : List Nat)[j]?)))))) :: (a, .inr (4, [.ref q1, .int (nI 0), .int (nI 0)])) :: (zStB cy w6 ++ (zStB cy w5 ++ (zStB cy w4 ++ (zStB cy w3 ++ (zStB cy w2 ++ (zStB cy w1 ++ (zStB cy w0 ++ E)))))))))) C rfl rfl (nI_in (by decide) (by decide)) (by rw [nI_clamp (by decide)]; exact congrArg (fun g : Nat → Option Nat => List.set _ 13 (_, (Sum.inl (cy 3, 9, Sum.inr (Sum.inr (Sum.inr (Sum.inr g)))) : va_E))) (zup_at ([w0 0, w1 0, w2 0, w3 0, w4 0, w5 0, w6 0] : List Nat) (w7 0))) dX0_init_46 ?_
  refine zG.less (ws' := (q1, .inl (cy 3, 9, .inr (.inr (.inr (.inr (fun j => ([w0 0, w1 0, w2 0, w3 0, w4 0, w5 0, w6 0, w7 0] : List Nat)[j]?)))))) :: (a, .inr (4, [.ref q1, .int (nI 0), .int (nI 0)])) :: (zStB cy w7 ++ (zStB cy w6 ++ (zStB cy w5 ++ (zStB cy w4 ++ (zStB cy w3 ++ (zStB cy w2 ++ (zStB cy w1 ++ (zStB cy w0 ++ E))))))))) (l' := (zStB cy w7 ++ ((q1, .inl (cy 3, 9, .inr (.inr (.inr (.inr (fun j => ([w0 0, w1 0, w2 0, w3 0, w4 0, w5 0, w6 0, w7 0] : List Nat)[j]?)))))) :: (a, .inr (4, [.ref q1, .int (nI 0), .int (nI 0)])) :: (zStB cy w6 ++ (zStB cy w5 ++ (zStB cy w4 ++ (zStB cy w3 ++ (zStB cy w2 ++ (zStB cy w1 ++ (zStB cy w0 ++ E)))))))))) (zpT [(q1, .inl (cy 3, 9, .inr (.inr (.inr (.inr (fun j => ([w0 0, w1 0, w2 0, w3 0, w4 0, w5 0, w6 0, w7 0] : List Nat)[j]?)))))), (a, .inr (4, [.ref q1, .int (nI 0), .int (nI 0)]))] (zStB cy w7) (zStB cy w6 ++ (zStB cy w5 ++ (zStB cy w4 ++ (zStB cy w3 ++ (zStB cy w2 ++ (zStB cy w1 ++ (zStB cy w0 ++ E)))))))) (List.Sublist.refl _) ?_
  refine g_iinc (k := 0) (L' := [(1, .int (nI 8)), (0, .ref a)]) C dX0_init_47 rfl (by decide) (by decide) rfl ?_
  refine g_goto C dX0_init_50 (tgt := 25) (by decide) ?_
  refine g_iload_n (j := 0) C dX0_init_25 rfl rfl ?_
  refine g_aload_n (j := 1) C dX0_init_26 rfl rfl ?_
  refine p_get (q0 := 1) (k := 0) (ci := 4) (N := 3) (v := .ref q1) C rfl rfl zin_RX0 (by decide) zfl_RX0_11 rfl dX0_init_27 ?_
  refine n_alen (q0 := 0) (k := 3) (ty := .object RX3) C rfl rfl dX0_init_30 ?_
  refine p_num (y := nI 9) rfl ?_
  refine g_icmp_ge C dX0_init_31 (tgt := 53) (by decide) (fun h9 => absurd h9 (by decide)) (fun _ => ?_)
  refine g_aload_n (j := 1) C dX0_init_34 rfl rfl ?_
  refine p_get (q0 := 1) (k := 0) (ci := 4) (N := 3) (v := .ref q1) C rfl rfl zin_RX0 (by decide) zfl_RX0_11 rfl dX0_init_35 ?_
  refine g_iload_n (j := 0) C dX0_init_38 rfl rfl ?_
  refine n_new (ci := 7) (N := 8) (ty0 := tyX3) (fs := [.null, .null, .null, .null, .null, .null, .int 0, .int 0]) C zin_RX3 tyX3_ok zkl_RX0_9 zns_RX3 zni_RX3 rfl (by decide) (Nat.le_of_ble_eq_true rfl) (Nat.le_of_ble_eq_true rfl) dX0_init_39 (fun q10 => ?_)
  refine g_dup C dX0_init_42 rfl ?_
  refine n_init (As := []) (rest := [.ref q10, .int (nI 8), .ref q1]) zEi_ge hE C (c_X3_init l D cy ((q1, .inl (cy 3, 9, .inr (.inr (.inr (.inr (fun j => ([w0 0, w1 0, w2 0, w3 0, w4 0, w5 0, w6 0, w7 0] : List Nat)[j]?)))))) :: (a, .inr (4, [.ref q1, .int (nI 0), .int (nI 0)])) :: (zStB cy w7 ++ (zStB cy w6 ++ (zStB cy w5 ++ (zStB cy w4 ++ (zStB cy w3 ++ (zStB cy w2 ++ (zStB cy w1 ++ (zStB cy w0 ++ E))))))))) q10) zml_RX0_24 zci_X3_init rfl rfl ⟨Nat.le_of_ble_eq_true rfl, Nat.le_of_ble_eq_true rfl⟩ rfl rfl (Nat.le_of_ble_eq_true rfl) ⟨Nat.le_of_ble_eq_true rfl, Nat.le_of_ble_eq_true rfl⟩ dX0_init_43 ?_
  intro w h
  obtain ⟨w8, hw8, rfl⟩ := h
  subst hw8
  refine n_astq (q0 := 13) (qk := 0) (ws' := (zStB cy w8 ++ ((q1, .inl (cy 3, 9, .inr (.inr (.inr (.inr (fun j => ([w0 0, w1 0, w2 0, w3 0, w4 0, w5 0, w6 0, w7 0, w8 0] : List Nat)[j]?)))))) :: (a, .inr (4, [.ref q1, .int (nI 0), .int (nI 0)])) :: (zStB cy w7 ++ (zStB cy w6 ++ (zStB cy w5 ++ (zStB cy w4 ++ (zStB cy w3 ++ (zStB cy w2 ++ (zStB cy w1 ++ (zStB cy w0 ++ E))))))))))) C rfl rfl (nI_in (by decide) (by decide)) (by rw [nI_clamp (by decide)]; exact congrArg (fun g : Nat → Option Nat => List.set _ 13 (_, (Sum.inl (cy 3, 9, Sum.inr (Sum.inr (Sum.inr (Sum.inr g)))) : va_E))) (zup_at ([w0 0, w1 0, w2 0, w3 0, w4 0, w5 0, w6 0, w7 0] : List Nat) (w8 0))) dX0_init_46 ?_
  refine zG.less (ws' := (q1, .inl (cy 3, 9, .inr (.inr (.inr (.inr (fun j => ([w0 0, w1 0, w2 0, w3 0, w4 0, w5 0, w6 0, w7 0, w8 0] : List Nat)[j]?)))))) :: (a, .inr (4, [.ref q1, .int (nI 0), .int (nI 0)])) :: (zStB cy w8 ++ (zStB cy w7 ++ (zStB cy w6 ++ (zStB cy w5 ++ (zStB cy w4 ++ (zStB cy w3 ++ (zStB cy w2 ++ (zStB cy w1 ++ (zStB cy w0 ++ E)))))))))) (l' := (zStB cy w8 ++ ((q1, .inl (cy 3, 9, .inr (.inr (.inr (.inr (fun j => ([w0 0, w1 0, w2 0, w3 0, w4 0, w5 0, w6 0, w7 0, w8 0] : List Nat)[j]?)))))) :: (a, .inr (4, [.ref q1, .int (nI 0), .int (nI 0)])) :: (zStB cy w7 ++ (zStB cy w6 ++ (zStB cy w5 ++ (zStB cy w4 ++ (zStB cy w3 ++ (zStB cy w2 ++ (zStB cy w1 ++ (zStB cy w0 ++ E))))))))))) (zpT [(q1, .inl (cy 3, 9, .inr (.inr (.inr (.inr (fun j => ([w0 0, w1 0, w2 0, w3 0, w4 0, w5 0, w6 0, w7 0, w8 0] : List Nat)[j]?)))))), (a, .inr (4, [.ref q1, .int (nI 0), .int (nI 0)]))] (zStB cy w8) (zStB cy w7 ++ (zStB cy w6 ++ (zStB cy w5 ++ (zStB cy w4 ++ (zStB cy w3 ++ (zStB cy w2 ++ (zStB cy w1 ++ (zStB cy w0 ++ E))))))))) (List.Sublist.refl _) ?_
  refine g_iinc (k := 0) (L' := [(1, .int (nI 9)), (0, .ref a)]) C dX0_init_47 rfl (by decide) (by decide) rfl ?_
  refine g_goto C dX0_init_50 (tgt := 25) (by decide) ?_
  refine g_iload_n (j := 0) C dX0_init_25 rfl rfl ?_
  refine g_aload_n (j := 1) C dX0_init_26 rfl rfl ?_
  refine p_get (q0 := 1) (k := 0) (ci := 4) (N := 3) (v := .ref q1) C rfl rfl zin_RX0 (by decide) zfl_RX0_11 rfl dX0_init_27 ?_
  refine n_alen (q0 := 0) (k := 3) (ty := .object RX3) C rfl rfl dX0_init_30 ?_
  refine p_num (y := nI 9) rfl ?_
  refine g_icmp_ge C dX0_init_31 (tgt := 53) (by decide) (fun _ => ?_) (fun h9 => absurd (by decide) h9)
  refine zG.less (ws' := zHs cy a q1 (fun i => ([w0, w1, w2, w3, w4, w5, w6, w7, w8] : List (Nat → Nat)).getD i (fun _ => 0)) ++ E) (l' := ((q1, .inl (cy 3, 9, .inr (.inr (.inr (.inr (fun j => ([w0 0, w1 0, w2 0, w3 0, w4 0, w5 0, w6 0, w7 0, w8 0] : List Nat)[j]?)))))) :: (a, .inr (4, [.ref q1, .int (nI 0), .int (nI 0)])) :: (zStB cy w8 ++ (zStB cy w7 ++ (zStB cy w6 ++ (zStB cy w5 ++ (zStB cy w4 ++ (zStB cy w3 ++ (zStB cy w2 ++ (zStB cy w1 ++ (zStB cy w0 ++ E))))))))))) ?_ (List.Sublist.refl _) ?_
  · show ((a, .inr (4, [.ref q1, .int (nI 0), .int (nI 0)])) :: (q1, .inl (cy 3, 9, .inr (.inr (.inr (.inr (fun j => ([w0 0, w1 0, w2 0, w3 0, w4 0, w5 0, w6 0, w7 0, w8 0] : List Nat)[j]?)))))) :: (([zStB cy w0, zStB cy w1, zStB cy w2, zStB cy w3, zStB cy w4, zStB cy w5, zStB cy w6, zStB cy w7, zStB cy w8] : List va_W).flatten ++ E)).Perm _
    refine (List.Perm.swap _ _ _).trans (List.Perm.cons _ (List.Perm.cons _ ?_))
    have h9 := (zrevB ([zStB cy w0, zStB cy w1, zStB cy w2, zStB cy w3, zStB cy w4, zStB cy w5, zStB cy w6, zStB cy w7, zStB cy w8] : List va_W) E).symm
    simp only [List.reverse_cons, List.reverse_nil, List.nil_append, List.cons_append, List.flatten_cons, List.flatten_nil, List.append_assoc, List.append_nil] at h9
    simp only [List.flatten_cons, List.flatten_nil, List.append_assoc, List.append_nil, List.nil_append]
    exact h9
  exact t_vret C hr ⟨q1, (fun i => ([w0, w1, w2, w3, w4, w5, w6, w7, w8] : List (Nat → Nat)).getD i (fun _ => 0)), rfl⟩ (Nat.le_of_ble_eq_true rfl) (Nat.le_of_ble_eq_true rfl) dX0_init_53
theorem zol_RJ5_3 : Cond.methodLink RJ5 3 objectInit ∈ zAll := zg (z_t1 (List.mem_of_getElem? (i := 177) (by decide +kernel))) (by decide +kernel)
theorem znr_byte : Cond.arrayClass .byte ∈ zAll := zg (z_t1 (List.mem_of_getElem? (i := 201) (by decide +kernel))) (by decide +kernel)
set_option maxRecDepth 100000 in
set_option maxHeartbeats 8000000 in
theorem c_J5_init (l : Launch) (D : va_G) (cy : Nat → ClassId) (E : va_W) (a : Nat) : zMt l yJ5_init_d00df cJ5_init_d00df 2 none (zrt 1 1 16) D (zTy cy) zEn ((a, .inr (1, [.null, .int 0, .int 0, .int 0])) :: E) [.ref a, .int (nI 16)] 1 16 (tV D (zTy cy) (fun w => ∃ v, w = tB cy a v 16 0 0 (fun _ => 0) ++ E)) := by
  refine zMt.of (by decide) (Nat.le_of_ble_eq_true rfl) ?_
  intro p e s m below meth c A C hr hE
  refine zG_L (L' := [(0, .ref a), (1, .int (nI 16))]) rfl ?_
  refine g_aload_n (j := 0) C dJ5_init_d00df_0 rfl rfl ?_
  refine n_obj C zol_RJ5_3 (Nat.le_of_ble_eq_true rfl) (Nat.le_of_ble_eq_true rfl) dJ5_init_d00df_1 ?_
  refine p_gets (v := .int (1 : Int32)) C hE.1 zfs_RJ5_18 dJ5_init_d00df_4 ?_
  refine g_if_eq C dJ5_init_d00df_7 (tgt := 25) (by decide) (fun h9 => absurd h9 (by decide)) (fun _ => ?_)
  refine g_aload_n (j := 0) C dJ5_init_d00df_10 rfl rfl ?_
  refine g_iload_n (j := 1) C dJ5_init_d00df_11 rfl rfl ?_
  refine n_newa (k := 2) (ty := .byte) (a0 := (16, .inl (fun _ => 0))) (N := 16) C rfl (fun _ h => nomatch h) rfl znr_byte (fun _ => rfl) (nI_pos (by decide)) (nI_clamp (by decide)) (Nat.le_of_ble_eq_true rfl) (Nat.le_of_ble_eq_true rfl) (Nat.le_of_ble_eq_true rfl) dJ5_init_d00df_12 (fun q1 => ?_)
  refine p_put (q0 := 1) (k := 0) (ci := 1) (N := 4) (ty := (.array .byte)) (ty0 := tyJ4) (v := .ref q1) (ws' := ((q1, .inl (cy 2, 16, .inl (fun _ => 0))) :: (a, .inr (1, [.ref q1, .int 0, .int 0, .int 0])) :: E)) C rfl rfl zin_RJ4 (by decide) zfj_RJ5_15 tyJ4_ok nmJ4 rfl (by decide +kernel) rfl rfl (Nat.le_of_ble_eq_true rfl) rfl dJ5_init_d00df_14 ?_
  refine g_aload_n (j := 0) C dJ5_init_d00df_17 rfl rfl ?_
  refine g_iconst (v := (nI 0)) C dJ5_init_d00df_18 (by decide) ?_
  refine p_put (q0 := 1) (k := 1) (ci := 1) (N := 4) (ty := .byte) (ty0 := tyJ4) (v := .int (nI 0)) (ws' := ((q1, .inl (cy 2, 16, .inl (fun _ => 0))) :: (a, .inr (1, [.ref q1, .int (nI 0), .int 0, .int 0])) :: E)) C rfl rfl zin_RJ4 (by decide) zfj_RJ5_22 tyJ4_ok nmJ4 rfl (by decide +kernel) rfl rfl (Nat.le_of_ble_eq_true rfl) rfl dJ5_init_d00df_19 ?_
  refine g_goto C dJ5_init_d00df_22 (tgt := 38) (by decide) ?_
  refine zG.less (ws' := [(a, .inr (1, [.ref q1, .int (nI 0), .int 0, .int 0])), (q1, .inl (cy 2, 16, .inl (fun _ => 0)))] ++ E) (l' := ((q1, .inl (cy 2, 16, .inl (fun _ => 0))) :: (a, .inr (1, [.ref q1, .int (nI 0), .int 0, .int 0])) :: E)) ((List.reverse_perm ([(a, .inr (1, [.ref q1, .int (nI 0), .int 0, .int 0])), (q1, .inl (cy 2, 16, .inl (fun _ => 0)))] : va_W)).symm.append_right E) (List.Sublist.refl _) ?_
  exact t_vret C hr ⟨q1, rfl⟩ (Nat.le_of_ble_eq_true rfl) (Nat.le_of_ble_eq_true rfl) dJ5_init_d00df_38
theorem zci_J5_init_d00df : zCalI yJ5_init_d00df cJ5_init_d00df 2 1 := ⟨zg (z_t1 (List.mem_of_getElem? (i := 175) (by decide +kernel))) (by decide +kernel), zg (z_t1 (List.mem_of_getElem? (i := 8) (by decide +kernel))) (by decide +kernel), zg (z_t1 (List.mem_of_getElem? (i := 176) (by decide +kernel))) (by decide +kernel), rfl, by decide +kernel⟩
set_option maxRecDepth 100000 in
set_option maxHeartbeats 8000000 in
theorem c_J4_init (l : Launch) (D : va_G) (cy : Nat → ClassId) (E : va_W) (a : Nat) : zMt l yJ4_init_da8c8 cJ4_init_da8c8 1 none (zrt 3 1 16) D (zTy cy) zEn ((a, .inr (1, [.null, .int 0, .int 0, .int 0])) :: E) [.ref a] 1 16 (tV D (zTy cy) (fun w => ∃ v, w = tB cy a v 16 0 0 (fun _ => 0) ++ E)) := by
  refine zMt.of (by decide) (Nat.le_of_ble_eq_true rfl) ?_
  intro p e s m below meth c A C hr hE
  refine zG_L (L' := [(0, .ref a)]) rfl ?_
  refine g_aload_n (j := 0) C dJ4_init_da8c8_0 rfl rfl ?_
  refine g_bipush (v := (nI 16)) C dJ4_init_da8c8_1 (by decide) ?_
  refine n_init (As := [.int (nI 16)]) (rest := []) zEn_ge hE C (c_J5_init l D cy (E) a) zml_RJ4_1 zci_J5_init_d00df rfl rfl ⟨Nat.le_of_ble_eq_true rfl, Nat.le_of_ble_eq_true rfl⟩ rfl rfl (Nat.le_of_ble_eq_true rfl) ⟨Nat.le_of_ble_eq_true rfl, Nat.le_of_ble_eq_true rfl⟩ dJ4_init_da8c8_3 ?_
  intro w h
  obtain ⟨v, rfl⟩ := h
  exact t_vret C hr ⟨v, rfl⟩ (Nat.le_of_ble_eq_true rfl) (Nat.le_of_ble_eq_true rfl) dJ4_init_da8c8_6
/-- the class's memory as its constructor leaves it -/
def zTc (c mr : Nat) (k : Nat) : Int32 := if k = 1 then nI c else if k = 2 then nI mr else nI 0
def zXb (i k : Nat) : Int32 := match i with
  | 0 => nI 0
  | 1 => zTc 4 6 k
  | 3 => zTc 12 8 k
  | 5 => zTc 4 10 k
  | 7 => zTc 12 30 k
  | 9 => zTc 5 30 k
  | 11 => zTc 26 1 k
  | 12 => zF 22 k
  | _ => 0
def zX0 (r k : Nat) : Int32 := if r = 0 then (if k = 7 then nI 0 else (-1 : Int32)) else if r < 27 then zXb ((r - 1) % 13) k else if r = 27 then nI 0 else if r = 28 then 0 else if r < 146 then zXb ((r - 29) % 13) k else match r with
  | 146 => if k = 3 then (-1 : Int32) else nI 0
  | 147 => zTc 7 30 k
  | 149 => nI 0
  | 150 => zTc 5 8 k
  | _ => 0
def zad (a : Nat) (w0 w1 : Nat → Nat) (h hs : Nat) (W : Nat → Nat → Nat) (r0 r1 r2 d0 d1 d2 b1 b2 : Nat) (r : Nat) : Nat := if r = 0 then a else if r < 14 then w0 (r - 1) else if r < 27 then w1 (r - 14) else if r = 27 then h else if r = 28 then hs else if r < 146 then W ((r - 29) / 13) ((r - 29) % 13) else match r with
  | 146 => r0
  | 147 => r1
  | 148 => r2
  | 149 => d0
  | 150 => d1
  | 151 => d2
  | 152 => b1
  | _ => b2
theorem zol_RX5_1 : Cond.methodLink RX5 1 objectInit ∈ zAll := zg (z_t1 (List.mem_of_getElem? (i := 36) (by decide +kernel))) (by decide +kernel)
theorem zkl_RX5_7 : Cond.classLink RX5 7 RX3 ∈ zAll := zg (z_t1 (List.mem_of_getElem? (i := 39) (by decide +kernel))) (by decide +kernel)
theorem zkl_RX5_19 : Cond.classLink RX5 19 RX0 ∈ zAll := zg (z_t1 (List.mem_of_getElem? (i := 110) (by decide +kernel))) (by decide +kernel)
theorem zns_RX0 : Cond.instantiable RX0 3 ∈ zAll := zg (z_t1 (List.mem_of_getElem? (i := 111) (by decide +kernel))) (by decide +kernel)
theorem zni_RX0 : Cond.initialized RX0 ∈ zAll := zg (z_t1 (List.mem_of_getElem? (i := 5) (by decide +kernel))) (by decide +kernel)
theorem zci_X0_init : zCalI yX0_init cX0_init 2 0 := ⟨zg (z_t1 (List.mem_of_getElem? (i := 113) (by decide +kernel))) (by decide +kernel), zg (z_t1 (List.mem_of_getElem? (i := 5) (by decide +kernel))) (by decide +kernel), zg (z_t1 (List.mem_of_getElem? (i := 114) (by decide +kernel))) (by decide +kernel), rfl, by decide +kernel⟩
theorem zkl_RX5_26 : Cond.classLink RX5 26 RX2 ∈ zAll := zg (z_t1 (List.mem_of_getElem? (i := 130) (by decide +kernel))) (by decide +kernel)
theorem zns_RX2 : Cond.instantiable RX2 4 ∈ zAll := zg (z_t1 (List.mem_of_getElem? (i := 131) (by decide +kernel))) (by decide +kernel)
theorem zni_RX2 : Cond.initialized RX2 ∈ zAll := zg (z_t1 (List.mem_of_getElem? (i := 6) (by decide +kernel))) (by decide +kernel)
theorem zci_X2_init : zCalI yX2_init cX2_init 1 0 := ⟨zg (z_t1 (List.mem_of_getElem? (i := 133) (by decide +kernel))) (by decide +kernel), zg (z_t1 (List.mem_of_getElem? (i := 6) (by decide +kernel))) (by decide +kernel), zg (z_t1 (List.mem_of_getElem? (i := 134) (by decide +kernel))) (by decide +kernel), rfl, by decide +kernel⟩
theorem zkl_RX5_33 : Cond.classLink RX5 33 RX1 ∈ zAll := zg (z_t1 (List.mem_of_getElem? (i := 152) (by decide +kernel))) (by decide +kernel)
theorem zns_RX1 : Cond.instantiable RX1 2 ∈ zAll := zg (z_t1 (List.mem_of_getElem? (i := 153) (by decide +kernel))) (by decide +kernel)
theorem zni_RX1 : Cond.initialized RX1 ∈ zAll := zg (z_t1 (List.mem_of_getElem? (i := 7) (by decide +kernel))) (by decide +kernel)
theorem zci_X1_init : zCalI yX1_init cX1_init 1 0 := ⟨zg (z_t1 (List.mem_of_getElem? (i := 155) (by decide +kernel))) (by decide +kernel), zg (z_t1 (List.mem_of_getElem? (i := 7) (by decide +kernel))) (by decide +kernel), zg (z_t1 (List.mem_of_getElem? (i := 156) (by decide +kernel))) (by decide +kernel), rfl, by decide +kernel⟩
theorem zkl_RX5_40 : Cond.classLink RX5 40 RJ4 ∈ zAll := zg (z_t1 (List.mem_of_getElem? (i := 169) (by decide +kernel))) (by decide +kernel)
theorem zns_RJ4 : Cond.instantiable RJ4 4 ∈ zAll := zg (z_t1 (List.mem_of_getElem? (i := 170) (by decide +kernel))) (by decide +kernel)
theorem zni_RJ4 : Cond.initialized RJ4 ∈ zAll := zg (z_t1 (List.mem_of_getElem? (i := 9) (by decide +kernel))) (by decide +kernel)
theorem zci_J4_init_da8c8 : zCalI yJ4_init_da8c8 cJ4_init_da8c8 1 0 := ⟨zg (z_t1 (List.mem_of_getElem? (i := 172) (by decide +kernel))) (by decide +kernel), zg (z_t1 (List.mem_of_getElem? (i := 9) (by decide +kernel))) (by decide +kernel), zg (z_t1 (List.mem_of_getElem? (i := 173) (by decide +kernel))) (by decide +kernel), rfl, by decide +kernel⟩
set_option maxRecDepth 100000 in
set_option maxHeartbeats 8000000 in
theorem zC0_eq (cy : Nat → ClassId) (a : Nat) (w0 w1 : Nat → Nat) (h hs : Nat) (W : Nat → Nat → Nat) (r0 r1 r2 d0 d1 d2 b1 b2 : Nat) (E : va_W) : zW cy (zad a w0 w1 h hs W r0 r1 r2 d0 d1 d2 b1 b2) shC E zX0 = (a, .inr (9, [.ref (w0 0), .ref (w1 0), .ref h, .ref r0, .ref d0, .ref b1, .ref b2, .int (nI 0), .int (-1 : Int32), .int (-1 : Int32), .int (-1 : Int32)])) :: (zStB cy w0 ++ (zStB cy w1 ++ (zHs cy h hs W ++ ([(r0, .inr (6, [.ref r1, .int (nI 0), .int (nI 0), .int (-1 : Int32)])), (r1, .inr (8, [.ref r2, .int (nI 7), .int (nI 30), .int (nI 0)])), (r2, .inl (cy 0, 210, .inl (fun _ => 0)))] ++ ([(d0, .inr (5, [.ref d1, .int (nI 0)])), (d1, .inr (8, [.ref d2, .int (nI 5), .int (nI 8), .int (nI 0)])), (d2, .inl (cy 0, 40, .inl (fun _ => 0)))] ++ E))))) := by
  have h28 : (fun k : Nat => ([29, 42, 55, 68, 81, 94, 107, 120, 133] : List Nat)[k]?.map (zad a w0 w1 h hs W r0 r1 r2 d0 d1 d2 b1 b2)) = fun j => ([W 0 0, W 1 0, W 2 0, W 3 0, W 4 0, W 5 0, W 6 0, W 7 0, W 8 0] : List Nat)[j]? := by
    funext k
    rw [← List.getElem?_map]
    rfl
  exact congrArg (fun g : Nat → Option Nat => ((a, .inr (9, [.ref (w0 0), .ref (w1 0), .ref h, .ref r0, .ref d0, .ref b1, .ref b2, .int (nI 0), .int (-1 : Int32), .int (-1 : Int32), .int (-1 : Int32)])) :: (zStB cy w0 ++ (zStB cy w1 ++ (((h, .inr (4, [.ref hs, .int (nI 0), .int (nI 0)])) :: (hs, .inl (cy 3, 9, .inr (.inr (.inr (.inr g))))) :: ([zStB cy (W 0), zStB cy (W 1), zStB cy (W 2), zStB cy (W 3), zStB cy (W 4), zStB cy (W 5), zStB cy (W 6), zStB cy (W 7), zStB cy (W 8)] : List va_W).flatten) ++ ([(r0, .inr (6, [.ref r1, .int (nI 0), .int (nI 0), .int (-1 : Int32)])), (r1, .inr (8, [.ref r2, .int (nI 7), .int (nI 30), .int (nI 0)])), (r2, .inl (cy 0, 210, .inl (fun _ => 0)))] ++ ([(d0, .inr (5, [.ref d1, .int (nI 0)])), (d1, .inr (8, [.ref d2, .int (nI 5), .int (nI 8), .int (nI 0)])), (d2, .inl (cy 0, 40, .inl (fun _ => 0)))] ++ E))))) : va_W)) h28
set_option maxRecDepth 100000 in
set_option maxHeartbeats 8000000 in
theorem c_X5_init (l : Launch) (D : va_G) (cy : Nat → ClassId) (E : va_W) (a : Nat) : zMt l yX5_init cX5_init 1 none (zrt 8 155 8400) D (zTy cy) zEi ((a, .inr (9, [.null, .null, .null, .null, .null, .null, .null, .int 0, .int 0, .int 0, .int 0])) :: E) [.ref a] 155 8400 (tV D (zTy cy) (fun w => ∃ (ad : Nat → Nat) (v1 v2 : Nat), ad 0 = a ∧ w = zW cy ad shC (tB cy (ad 152) v1 16 0 0 (fun _ => 0) ++ (tB cy (ad 153) v2 16 0 0 (fun _ => 0) ++ E)) zX0)) := by
  refine zMt.ofI (by decide) (Nat.le_of_ble_eq_true rfl) ?_
  intro p e s m below meth c A C hr hE hnm
  refine zG_L (L' := [(0, .ref a)]) rfl ?_
  refine g_aload_n (j := 0) C dX5_init_0 rfl rfl ?_
  refine n_obj C zol_RX5_1 (Nat.le_of_ble_eq_true rfl) (Nat.le_of_ble_eq_true rfl) dX5_init_1 ?_
  refine g_aload_n (j := 0) C dX5_init_4 rfl rfl ?_
  refine n_new (ci := 7) (N := 8) (ty0 := tyX3) (fs := [.null, .null, .null, .null, .null, .null, .int 0, .int 0]) C zin_RX3 tyX3_ok zkl_RX5_7 zns_RX3 zni_RX3 rfl (by decide) (Nat.le_of_ble_eq_true rfl) (Nat.le_of_ble_eq_true rfl) dX5_init_5 (fun q1 => ?_)
  refine g_dup C dX5_init_8 rfl ?_
  refine n_init (As := []) (rest := [.ref q1, .ref a]) zEi_ge hE C (c_X3_init l D cy ((a, .inr (9, [.null, .null, .null, .null, .null, .null, .null, .int 0, .int 0, .int 0, .int 0])) :: E) q1) zml_RX5_9 zci_X3_init rfl rfl ⟨Nat.le_of_ble_eq_true rfl, Nat.le_of_ble_eq_true rfl⟩ rfl rfl (Nat.le_of_ble_eq_true rfl) ⟨Nat.le_of_ble_eq_true rfl, Nat.le_of_ble_eq_true rfl⟩ dX5_init_9 ?_
  intro w h
  obtain ⟨w0, hw0, rfl⟩ := h
  subst hw0
  refine zG.less (ws' := (a, .inr (9, [.null, .null, .null, .null, .null, .null, .null, .int 0, .int 0, .int 0, .int 0])) :: (zStB cy w0 ++ E)) (l' := zStB cy w0 ++ ((a, .inr (9, [.null, .null, .null, .null, .null, .null, .null, .int 0, .int 0, .int 0, .int 0])) :: E)) List.perm_middle.symm (List.Sublist.refl _) ?_
  refine n_putF C hnm (q0 := 0) (k := 0) (ci := 9) (N := 11) (ty := (.object "CinemaProgramme$State")) (ty0 := tyX5) (v := .ref (w0 0)) (ws' := ((a, .inr (9, [.ref (w0 0), .null, .null, .null, .null, .null, .null, .int 0, .int 0, .int 0, .int 0])) :: (zStB cy w0 ++ E))) rfl rfl zin_RX5 (by decide) zfl_RX5_10 tyX5_ok nmX5 rfl rfl (by decide +kernel) rfl rfl (Nat.le_of_ble_eq_true rfl) rfl dX5_init_12 ?_
  refine g_aload_n (j := 0) C dX5_init_15 rfl rfl ?_
  refine n_new (ci := 7) (N := 8) (ty0 := tyX3) (fs := [.null, .null, .null, .null, .null, .null, .int 0, .int 0]) C zin_RX3 tyX3_ok zkl_RX5_7 zns_RX3 zni_RX3 rfl (by decide) (Nat.le_of_ble_eq_true rfl) (Nat.le_of_ble_eq_true rfl) dX5_init_16 (fun q2 => ?_)
  refine g_dup C dX5_init_19 rfl ?_
  refine n_init (As := []) (rest := [.ref q2, .ref a]) zEi_ge hE C (c_X3_init l D cy ((a, .inr (9, [.ref (w0 0), .null, .null, .null, .null, .null, .null, .int 0, .int 0, .int 0, .int 0])) :: (zStB cy w0 ++ E)) q2) zml_RX5_9 zci_X3_init rfl rfl ⟨Nat.le_of_ble_eq_true rfl, Nat.le_of_ble_eq_true rfl⟩ rfl rfl (Nat.le_of_ble_eq_true rfl) ⟨Nat.le_of_ble_eq_true rfl, Nat.le_of_ble_eq_true rfl⟩ dX5_init_20 ?_
  intro w h
  obtain ⟨w1, hw1, rfl⟩ := h
  subst hw1
  refine zG.less (ws' := (a, .inr (9, [.ref (w0 0), .null, .null, .null, .null, .null, .null, .int 0, .int 0, .int 0, .int 0])) :: (zStB cy w1 ++ (zStB cy w0 ++ E))) (l' := zStB cy w1 ++ ((a, .inr (9, [.ref (w0 0), .null, .null, .null, .null, .null, .null, .int 0, .int 0, .int 0, .int 0])) :: (zStB cy w0 ++ E))) List.perm_middle.symm (List.Sublist.refl _) ?_
  refine n_putF C hnm (q0 := 0) (k := 1) (ci := 9) (N := 11) (ty := (.object "CinemaProgramme$State")) (ty0 := tyX5) (v := .ref (w1 0)) (ws' := ((a, .inr (9, [.ref (w0 0), .ref (w1 0), .null, .null, .null, .null, .null, .int 0, .int 0, .int 0, .int 0])) :: (zStB cy w1 ++ (zStB cy w0 ++ E)))) rfl rfl zin_RX5 (by decide) zfl_RX5_16 tyX5_ok nmX5 rfl rfl (by decide +kernel) rfl rfl (Nat.le_of_ble_eq_true rfl) rfl dX5_init_23 ?_
  refine g_aload_n (j := 0) C dX5_init_26 rfl rfl ?_
  refine n_new (ci := 4) (N := 3) (ty0 := tyX0) (fs := [.null, .int 0, .int 0]) C zin_RX0 tyX0_ok zkl_RX5_19 zns_RX0 zni_RX0 rfl (by decide) (Nat.le_of_ble_eq_true rfl) (Nat.le_of_ble_eq_true rfl) dX5_init_27 (fun q3 => ?_)
  refine g_dup C dX5_init_30 rfl ?_
  refine n_init (As := []) (rest := [.ref q3, .ref a]) zEi_ge hE C (c_X0_init l D cy ((a, .inr (9, [.ref (w0 0), .ref (w1 0), .null, .null, .null, .null, .null, .int 0, .int 0, .int 0, .int 0])) :: (zStB cy w1 ++ (zStB cy w0 ++ E))) q3) zml_RX5_21 zci_X0_init rfl rfl ⟨Nat.le_of_ble_eq_true rfl, Nat.le_of_ble_eq_true rfl⟩ rfl rfl (Nat.le_of_ble_eq_true rfl) ⟨Nat.le_of_ble_eq_true rfl, Nat.le_of_ble_eq_true rfl⟩ dX5_init_31 ?_
  intro w h
  obtain ⟨hs, W, rfl⟩ := h
  refine zG.less (ws' := (a, .inr (9, [.ref (w0 0), .ref (w1 0), .null, .null, .null, .null, .null, .int 0, .int 0, .int 0, .int 0])) :: (zHs cy q3 hs W ++ (zStB cy w1 ++ (zStB cy w0 ++ E)))) (l' := zHs cy q3 hs W ++ ((a, .inr (9, [.ref (w0 0), .ref (w1 0), .null, .null, .null, .null, .null, .int 0, .int 0, .int 0, .int 0])) :: (zStB cy w1 ++ (zStB cy w0 ++ E)))) List.perm_middle.symm (List.Sublist.refl _) ?_
  refine n_putF C hnm (q0 := 0) (k := 2) (ci := 9) (N := 11) (ty := (.object "CinemaProgramme$History")) (ty0 := tyX5) (v := .ref q3) (ws' := ((a, .inr (9, [.ref (w0 0), .ref (w1 0), .ref q3, .null, .null, .null, .null, .int 0, .int 0, .int 0, .int 0])) :: (zHs cy q3 hs W ++ (zStB cy w1 ++ (zStB cy w0 ++ E))))) rfl rfl zin_RX5 (by decide) zfl_RX5_22 tyX5_ok nmX5 rfl rfl (by decide +kernel) rfl rfl (Nat.le_of_ble_eq_true rfl) rfl dX5_init_34 ?_
  refine g_aload_n (j := 0) C dX5_init_37 rfl rfl ?_
  refine n_new (ci := 6) (N := 4) (ty0 := tyX2) (fs := [.null, .int 0, .int 0, .int 0]) C zin_RX2 tyX2_ok zkl_RX5_26 zns_RX2 zni_RX2 rfl (by decide) (Nat.le_of_ble_eq_true rfl) (Nat.le_of_ble_eq_true rfl) dX5_init_38 (fun q4 => ?_)
  refine g_dup C dX5_init_41 rfl ?_
  refine n_initN (As := []) (rest := [.ref q4, .ref a]) zEi_ge hE C (c_X2_init l D cy ((a, .inr (9, [.ref (w0 0), .ref (w1 0), .ref q3, .null, .null, .null, .null, .int 0, .int 0, .int 0, .int 0])) :: (zHs cy q3 hs W ++ (zStB cy w1 ++ (zStB cy w0 ++ E)))) q4) hE.2.2.2.1 zci_X2_init rfl rfl ⟨Nat.le_of_ble_eq_true rfl, Nat.le_of_ble_eq_true rfl⟩ rfl rfl (Nat.le_of_ble_eq_true rfl) ⟨Nat.le_of_ble_eq_true rfl, Nat.le_of_ble_eq_true rfl⟩ dX5_init_42 ?_
  intro w h
  obtain ⟨r1, r2, rfl⟩ := h
  refine zG.less (ws' := (a, .inr (9, [.ref (w0 0), .ref (w1 0), .ref q3, .null, .null, .null, .null, .int 0, .int 0, .int 0, .int 0])) :: ([(q4, .inr (6, [.ref r1, .int (nI 0), .int (nI 0), .int (-1 : Int32)])), (r1, .inr (8, [.ref r2, .int (nI 7), .int (nI 30), .int (nI 0)])), (r2, .inl (cy 0, 210, .inl (fun _ => 0)))] ++ (zHs cy q3 hs W ++ (zStB cy w1 ++ (zStB cy w0 ++ E))))) (l' := [(q4, .inr (6, [.ref r1, .int (nI 0), .int (nI 0), .int (-1 : Int32)])), (r1, .inr (8, [.ref r2, .int (nI 7), .int (nI 30), .int (nI 0)])), (r2, .inl (cy 0, 210, .inl (fun _ => 0)))] ++ ((a, .inr (9, [.ref (w0 0), .ref (w1 0), .ref q3, .null, .null, .null, .null, .int 0, .int 0, .int 0, .int 0])) :: (zHs cy q3 hs W ++ (zStB cy w1 ++ (zStB cy w0 ++ E))))) List.perm_middle.symm (List.Sublist.refl _) ?_
  refine n_putF C hnm (q0 := 0) (k := 3) (ci := 9) (N := 11) (ty := (.object "CinemaProgramme$Rules")) (ty0 := tyX5) (v := .ref q4) (ws' := ((a, .inr (9, [.ref (w0 0), .ref (w1 0), .ref q3, .ref q4, .null, .null, .null, .int 0, .int 0, .int 0, .int 0])) :: ([(q4, .inr (6, [.ref r1, .int (nI 0), .int (nI 0), .int (-1 : Int32)])), (r1, .inr (8, [.ref r2, .int (nI 7), .int (nI 30), .int (nI 0)])), (r2, .inl (cy 0, 210, .inl (fun _ => 0)))] ++ (zHs cy q3 hs W ++ (zStB cy w1 ++ (zStB cy w0 ++ E)))))) rfl rfl zin_RX5 (by decide) zfl_RX5_29 tyX5_ok nmX5 rfl rfl (by decide +kernel) rfl rfl (Nat.le_of_ble_eq_true rfl) rfl dX5_init_45 ?_
  refine g_aload_n (j := 0) C dX5_init_48 rfl rfl ?_
  refine n_new (ci := 5) (N := 2) (ty0 := tyX1) (fs := [.null, .int 0]) C zin_RX1 tyX1_ok zkl_RX5_33 zns_RX1 zni_RX1 rfl (by decide) (Nat.le_of_ble_eq_true rfl) (Nat.le_of_ble_eq_true rfl) dX5_init_49 (fun q5 => ?_)
  refine g_dup C dX5_init_52 rfl ?_
  refine n_initN (As := []) (rest := [.ref q5, .ref a]) zEi_ge hE C (c_X1_init l D cy ((a, .inr (9, [.ref (w0 0), .ref (w1 0), .ref q3, .ref q4, .null, .null, .null, .int 0, .int 0, .int 0, .int 0])) :: ([(q4, .inr (6, [.ref r1, .int (nI 0), .int (nI 0), .int (-1 : Int32)])), (r1, .inr (8, [.ref r2, .int (nI 7), .int (nI 30), .int (nI 0)])), (r2, .inl (cy 0, 210, .inl (fun _ => 0)))] ++ (zHs cy q3 hs W ++ (zStB cy w1 ++ (zStB cy w0 ++ E))))) q5) hE.2.2.2.2.1 zci_X1_init rfl rfl ⟨Nat.le_of_ble_eq_true rfl, Nat.le_of_ble_eq_true rfl⟩ rfl rfl (Nat.le_of_ble_eq_true rfl) ⟨Nat.le_of_ble_eq_true rfl, Nat.le_of_ble_eq_true rfl⟩ dX5_init_53 ?_
  intro w h
  obtain ⟨d1, d2, rfl⟩ := h
  refine zG.less (ws' := (a, .inr (9, [.ref (w0 0), .ref (w1 0), .ref q3, .ref q4, .null, .null, .null, .int 0, .int 0, .int 0, .int 0])) :: ([(q5, .inr (5, [.ref d1, .int (nI 0)])), (d1, .inr (8, [.ref d2, .int (nI 5), .int (nI 8), .int (nI 0)])), (d2, .inl (cy 0, 40, .inl (fun _ => 0)))] ++ ([(q4, .inr (6, [.ref r1, .int (nI 0), .int (nI 0), .int (-1 : Int32)])), (r1, .inr (8, [.ref r2, .int (nI 7), .int (nI 30), .int (nI 0)])), (r2, .inl (cy 0, 210, .inl (fun _ => 0)))] ++ (zHs cy q3 hs W ++ (zStB cy w1 ++ (zStB cy w0 ++ E)))))) (l' := [(q5, .inr (5, [.ref d1, .int (nI 0)])), (d1, .inr (8, [.ref d2, .int (nI 5), .int (nI 8), .int (nI 0)])), (d2, .inl (cy 0, 40, .inl (fun _ => 0)))] ++ ((a, .inr (9, [.ref (w0 0), .ref (w1 0), .ref q3, .ref q4, .null, .null, .null, .int 0, .int 0, .int 0, .int 0])) :: ([(q4, .inr (6, [.ref r1, .int (nI 0), .int (nI 0), .int (-1 : Int32)])), (r1, .inr (8, [.ref r2, .int (nI 7), .int (nI 30), .int (nI 0)])), (r2, .inl (cy 0, 210, .inl (fun _ => 0)))] ++ (zHs cy q3 hs W ++ (zStB cy w1 ++ (zStB cy w0 ++ E)))))) List.perm_middle.symm (List.Sublist.refl _) ?_
  refine n_putF C hnm (q0 := 0) (k := 4) (ci := 9) (N := 11) (ty := (.object "CinemaProgramme$Reader")) (ty0 := tyX5) (v := .ref q5) (ws' := ((a, .inr (9, [.ref (w0 0), .ref (w1 0), .ref q3, .ref q4, .ref q5, .null, .null, .int 0, .int 0, .int 0, .int 0])) :: ([(q5, .inr (5, [.ref d1, .int (nI 0)])), (d1, .inr (8, [.ref d2, .int (nI 5), .int (nI 8), .int (nI 0)])), (d2, .inl (cy 0, 40, .inl (fun _ => 0)))] ++ ([(q4, .inr (6, [.ref r1, .int (nI 0), .int (nI 0), .int (-1 : Int32)])), (r1, .inr (8, [.ref r2, .int (nI 7), .int (nI 30), .int (nI 0)])), (r2, .inl (cy 0, 210, .inl (fun _ => 0)))] ++ (zHs cy q3 hs W ++ (zStB cy w1 ++ (zStB cy w0 ++ E))))))) rfl rfl zin_RX5 (by decide) zfl_RX5_36 tyX5_ok nmX5 rfl rfl (by decide +kernel) rfl rfl (Nat.le_of_ble_eq_true rfl) rfl dX5_init_56 ?_
  refine g_aload_n (j := 0) C dX5_init_59 rfl rfl ?_
  refine n_new (ci := 1) (N := 4) (ty0 := tyJ4) (fs := [.null, .int 0, .int 0, .int 0]) C zin_RJ4 tyJ4_ok zkl_RX5_40 zns_RJ4 zni_RJ4 rfl (by decide) (Nat.le_of_ble_eq_true rfl) (Nat.le_of_ble_eq_true rfl) dX5_init_60 (fun q6 => ?_)
  refine g_dup C dX5_init_63 rfl ?_
  refine n_init (As := []) (rest := [.ref q6, .ref a]) zEn_ge hE.1.1.1 C (c_J4_init l D cy ((a, .inr (9, [.ref (w0 0), .ref (w1 0), .ref q3, .ref q4, .ref q5, .null, .null, .int 0, .int 0, .int 0, .int 0])) :: ([(q5, .inr (5, [.ref d1, .int (nI 0)])), (d1, .inr (8, [.ref d2, .int (nI 5), .int (nI 8), .int (nI 0)])), (d2, .inl (cy 0, 40, .inl (fun _ => 0)))] ++ ([(q4, .inr (6, [.ref r1, .int (nI 0), .int (nI 0), .int (-1 : Int32)])), (r1, .inr (8, [.ref r2, .int (nI 7), .int (nI 30), .int (nI 0)])), (r2, .inl (cy 0, 210, .inl (fun _ => 0)))] ++ (zHs cy q3 hs W ++ (zStB cy w1 ++ (zStB cy w0 ++ E)))))) q6) zml_RX5_42 zci_J4_init_da8c8 rfl rfl ⟨Nat.le_of_ble_eq_true rfl, Nat.le_of_ble_eq_true rfl⟩ rfl rfl (Nat.le_of_ble_eq_true rfl) ⟨Nat.le_of_ble_eq_true rfl, Nat.le_of_ble_eq_true rfl⟩ dX5_init_64 ?_
  intro w h
  obtain ⟨v1, rfl⟩ := h
  refine zG.less (ws' := (a, .inr (9, [.ref (w0 0), .ref (w1 0), .ref q3, .ref q4, .ref q5, .null, .null, .int 0, .int 0, .int 0, .int 0])) :: (tB cy q6 v1 16 0 0 (fun _ => 0) ++ ([(q5, .inr (5, [.ref d1, .int (nI 0)])), (d1, .inr (8, [.ref d2, .int (nI 5), .int (nI 8), .int (nI 0)])), (d2, .inl (cy 0, 40, .inl (fun _ => 0)))] ++ ([(q4, .inr (6, [.ref r1, .int (nI 0), .int (nI 0), .int (-1 : Int32)])), (r1, .inr (8, [.ref r2, .int (nI 7), .int (nI 30), .int (nI 0)])), (r2, .inl (cy 0, 210, .inl (fun _ => 0)))] ++ (zHs cy q3 hs W ++ (zStB cy w1 ++ (zStB cy w0 ++ E))))))) (l' := tB cy q6 v1 16 0 0 (fun _ => 0) ++ ((a, .inr (9, [.ref (w0 0), .ref (w1 0), .ref q3, .ref q4, .ref q5, .null, .null, .int 0, .int 0, .int 0, .int 0])) :: ([(q5, .inr (5, [.ref d1, .int (nI 0)])), (d1, .inr (8, [.ref d2, .int (nI 5), .int (nI 8), .int (nI 0)])), (d2, .inl (cy 0, 40, .inl (fun _ => 0)))] ++ ([(q4, .inr (6, [.ref r1, .int (nI 0), .int (nI 0), .int (-1 : Int32)])), (r1, .inr (8, [.ref r2, .int (nI 7), .int (nI 30), .int (nI 0)])), (r2, .inl (cy 0, 210, .inl (fun _ => 0)))] ++ (zHs cy q3 hs W ++ (zStB cy w1 ++ (zStB cy w0 ++ E))))))) List.perm_middle.symm (List.Sublist.refl _) ?_
  refine n_putF C hnm (q0 := 0) (k := 5) (ci := 9) (N := 11) (ty := (.object "java/lang/StringBuilder")) (ty0 := tyX5) (v := .ref q6) (ws' := ((a, .inr (9, [.ref (w0 0), .ref (w1 0), .ref q3, .ref q4, .ref q5, .ref q6, .null, .int 0, .int 0, .int 0, .int 0])) :: (tB cy q6 v1 16 0 0 (fun _ => 0) ++ ([(q5, .inr (5, [.ref d1, .int (nI 0)])), (d1, .inr (8, [.ref d2, .int (nI 5), .int (nI 8), .int (nI 0)])), (d2, .inl (cy 0, 40, .inl (fun _ => 0)))] ++ ([(q4, .inr (6, [.ref r1, .int (nI 0), .int (nI 0), .int (-1 : Int32)])), (r1, .inr (8, [.ref r2, .int (nI 7), .int (nI 30), .int (nI 0)])), (r2, .inl (cy 0, 210, .inl (fun _ => 0)))] ++ (zHs cy q3 hs W ++ (zStB cy w1 ++ (zStB cy w0 ++ E)))))))) rfl rfl zin_RX5 (by decide) zfl_RX5_43 tyX5_ok nmX5 rfl rfl (by decide +kernel) rfl rfl (Nat.le_of_ble_eq_true rfl) rfl dX5_init_67 ?_
  refine g_aload_n (j := 0) C dX5_init_70 rfl rfl ?_
  refine n_new (ci := 1) (N := 4) (ty0 := tyJ4) (fs := [.null, .int 0, .int 0, .int 0]) C zin_RJ4 tyJ4_ok zkl_RX5_40 zns_RJ4 zni_RJ4 rfl (by decide) (Nat.le_of_ble_eq_true rfl) (Nat.le_of_ble_eq_true rfl) dX5_init_71 (fun q7 => ?_)
  refine g_dup C dX5_init_74 rfl ?_
  refine n_init (As := []) (rest := [.ref q7, .ref a]) zEn_ge hE.1.1.1 C (c_J4_init l D cy ((a, .inr (9, [.ref (w0 0), .ref (w1 0), .ref q3, .ref q4, .ref q5, .ref q6, .null, .int 0, .int 0, .int 0, .int 0])) :: (tB cy q6 v1 16 0 0 (fun _ => 0) ++ ([(q5, .inr (5, [.ref d1, .int (nI 0)])), (d1, .inr (8, [.ref d2, .int (nI 5), .int (nI 8), .int (nI 0)])), (d2, .inl (cy 0, 40, .inl (fun _ => 0)))] ++ ([(q4, .inr (6, [.ref r1, .int (nI 0), .int (nI 0), .int (-1 : Int32)])), (r1, .inr (8, [.ref r2, .int (nI 7), .int (nI 30), .int (nI 0)])), (r2, .inl (cy 0, 210, .inl (fun _ => 0)))] ++ (zHs cy q3 hs W ++ (zStB cy w1 ++ (zStB cy w0 ++ E))))))) q7) zml_RX5_42 zci_J4_init_da8c8 rfl rfl ⟨Nat.le_of_ble_eq_true rfl, Nat.le_of_ble_eq_true rfl⟩ rfl rfl (Nat.le_of_ble_eq_true rfl) ⟨Nat.le_of_ble_eq_true rfl, Nat.le_of_ble_eq_true rfl⟩ dX5_init_75 ?_
  intro w h
  obtain ⟨v2, rfl⟩ := h
  refine zG.less (ws' := (a, .inr (9, [.ref (w0 0), .ref (w1 0), .ref q3, .ref q4, .ref q5, .ref q6, .null, .int 0, .int 0, .int 0, .int 0])) :: (tB cy q7 v2 16 0 0 (fun _ => 0) ++ (tB cy q6 v1 16 0 0 (fun _ => 0) ++ ([(q5, .inr (5, [.ref d1, .int (nI 0)])), (d1, .inr (8, [.ref d2, .int (nI 5), .int (nI 8), .int (nI 0)])), (d2, .inl (cy 0, 40, .inl (fun _ => 0)))] ++ ([(q4, .inr (6, [.ref r1, .int (nI 0), .int (nI 0), .int (-1 : Int32)])), (r1, .inr (8, [.ref r2, .int (nI 7), .int (nI 30), .int (nI 0)])), (r2, .inl (cy 0, 210, .inl (fun _ => 0)))] ++ (zHs cy q3 hs W ++ (zStB cy w1 ++ (zStB cy w0 ++ E)))))))) (l' := tB cy q7 v2 16 0 0 (fun _ => 0) ++ ((a, .inr (9, [.ref (w0 0), .ref (w1 0), .ref q3, .ref q4, .ref q5, .ref q6, .null, .int 0, .int 0, .int 0, .int 0])) :: (tB cy q6 v1 16 0 0 (fun _ => 0) ++ ([(q5, .inr (5, [.ref d1, .int (nI 0)])), (d1, .inr (8, [.ref d2, .int (nI 5), .int (nI 8), .int (nI 0)])), (d2, .inl (cy 0, 40, .inl (fun _ => 0)))] ++ ([(q4, .inr (6, [.ref r1, .int (nI 0), .int (nI 0), .int (-1 : Int32)])), (r1, .inr (8, [.ref r2, .int (nI 7), .int (nI 30), .int (nI 0)])), (r2, .inl (cy 0, 210, .inl (fun _ => 0)))] ++ (zHs cy q3 hs W ++ (zStB cy w1 ++ (zStB cy w0 ++ E)))))))) List.perm_middle.symm (List.Sublist.refl _) ?_
  refine n_putF C hnm (q0 := 0) (k := 6) (ci := 9) (N := 11) (ty := (.object "java/lang/StringBuilder")) (ty0 := tyX5) (v := .ref q7) (ws' := ((a, .inr (9, [.ref (w0 0), .ref (w1 0), .ref q3, .ref q4, .ref q5, .ref q6, .ref q7, .int 0, .int 0, .int 0, .int 0])) :: (tB cy q7 v2 16 0 0 (fun _ => 0) ++ (tB cy q6 v1 16 0 0 (fun _ => 0) ++ ([(q5, .inr (5, [.ref d1, .int (nI 0)])), (d1, .inr (8, [.ref d2, .int (nI 5), .int (nI 8), .int (nI 0)])), (d2, .inl (cy 0, 40, .inl (fun _ => 0)))] ++ ([(q4, .inr (6, [.ref r1, .int (nI 0), .int (nI 0), .int (-1 : Int32)])), (r1, .inr (8, [.ref r2, .int (nI 7), .int (nI 30), .int (nI 0)])), (r2, .inl (cy 0, 210, .inl (fun _ => 0)))] ++ (zHs cy q3 hs W ++ (zStB cy w1 ++ (zStB cy w0 ++ E))))))))) rfl rfl zin_RX5 (by decide) zfl_RX5_47 tyX5_ok nmX5 rfl rfl (by decide +kernel) rfl rfl (Nat.le_of_ble_eq_true rfl) rfl dX5_init_78 ?_
  refine g_aload_n (j := 0) C dX5_init_81 rfl rfl ?_
  refine g_iconst (v := (nI 0)) C dX5_init_82 (by decide) ?_
  refine p_put (q0 := 0) (k := 7) (ci := 9) (N := 11) (ty := .boolean) (ty0 := tyX5) (v := .int (nI 0)) (ws' := ((a, .inr (9, [.ref (w0 0), .ref (w1 0), .ref q3, .ref q4, .ref q5, .ref q6, .ref q7, .int (nI 0), .int 0, .int 0, .int 0])) :: (tB cy q7 v2 16 0 0 (fun _ => 0) ++ (tB cy q6 v1 16 0 0 (fun _ => 0) ++ ([(q5, .inr (5, [.ref d1, .int (nI 0)])), (d1, .inr (8, [.ref d2, .int (nI 5), .int (nI 8), .int (nI 0)])), (d2, .inl (cy 0, 40, .inl (fun _ => 0)))] ++ ([(q4, .inr (6, [.ref r1, .int (nI 0), .int (nI 0), .int (-1 : Int32)])), (r1, .inr (8, [.ref r2, .int (nI 7), .int (nI 30), .int (nI 0)])), (r2, .inl (cy 0, 210, .inl (fun _ => 0)))] ++ (zHs cy q3 hs W ++ (zStB cy w1 ++ (zStB cy w0 ++ E))))))))) C rfl rfl zin_RX5 (by decide) zfl_RX5_50 tyX5_ok nmX5 rfl (by decide +kernel) rfl rfl (Nat.le_of_ble_eq_true rfl) rfl dX5_init_83 ?_
  refine g_aload_n (j := 0) C dX5_init_86 rfl rfl ?_
  refine g_iconst (v := (-1 : Int32)) C dX5_init_87 (by decide) ?_
  refine p_put (q0 := 0) (k := 8) (ci := 9) (N := 11) (ty := .int) (ty0 := tyX5) (v := .int (-1 : Int32)) (ws' := ((a, .inr (9, [.ref (w0 0), .ref (w1 0), .ref q3, .ref q4, .ref q5, .ref q6, .ref q7, .int (nI 0), .int (-1 : Int32), .int 0, .int 0])) :: (tB cy q7 v2 16 0 0 (fun _ => 0) ++ (tB cy q6 v1 16 0 0 (fun _ => 0) ++ ([(q5, .inr (5, [.ref d1, .int (nI 0)])), (d1, .inr (8, [.ref d2, .int (nI 5), .int (nI 8), .int (nI 0)])), (d2, .inl (cy 0, 40, .inl (fun _ => 0)))] ++ ([(q4, .inr (6, [.ref r1, .int (nI 0), .int (nI 0), .int (-1 : Int32)])), (r1, .inr (8, [.ref r2, .int (nI 7), .int (nI 30), .int (nI 0)])), (r2, .inl (cy 0, 210, .inl (fun _ => 0)))] ++ (zHs cy q3 hs W ++ (zStB cy w1 ++ (zStB cy w0 ++ E))))))))) C rfl rfl zin_RX5 (by decide) zfl_RX5_54 tyX5_ok nmX5 rfl (by decide +kernel) rfl rfl (Nat.le_of_ble_eq_true rfl) rfl dX5_init_88 ?_
  refine g_aload_n (j := 0) C dX5_init_91 rfl rfl ?_
  refine g_iconst (v := (-1 : Int32)) C dX5_init_92 (by decide) ?_
  refine p_put (q0 := 0) (k := 9) (ci := 9) (N := 11) (ty := .int) (ty0 := tyX5) (v := .int (-1 : Int32)) (ws' := ((a, .inr (9, [.ref (w0 0), .ref (w1 0), .ref q3, .ref q4, .ref q5, .ref q6, .ref q7, .int (nI 0), .int (-1 : Int32), .int (-1 : Int32), .int 0])) :: (tB cy q7 v2 16 0 0 (fun _ => 0) ++ (tB cy q6 v1 16 0 0 (fun _ => 0) ++ ([(q5, .inr (5, [.ref d1, .int (nI 0)])), (d1, .inr (8, [.ref d2, .int (nI 5), .int (nI 8), .int (nI 0)])), (d2, .inl (cy 0, 40, .inl (fun _ => 0)))] ++ ([(q4, .inr (6, [.ref r1, .int (nI 0), .int (nI 0), .int (-1 : Int32)])), (r1, .inr (8, [.ref r2, .int (nI 7), .int (nI 30), .int (nI 0)])), (r2, .inl (cy 0, 210, .inl (fun _ => 0)))] ++ (zHs cy q3 hs W ++ (zStB cy w1 ++ (zStB cy w0 ++ E))))))))) C rfl rfl zin_RX5 (by decide) zfl_RX5_58 tyX5_ok nmX5 rfl (by decide +kernel) rfl rfl (Nat.le_of_ble_eq_true rfl) rfl dX5_init_93 ?_
  refine g_aload_n (j := 0) C dX5_init_96 rfl rfl ?_
  refine g_iconst (v := (-1 : Int32)) C dX5_init_97 (by decide) ?_
  refine p_put (q0 := 0) (k := 10) (ci := 9) (N := 11) (ty := .int) (ty0 := tyX5) (v := .int (-1 : Int32)) (ws' := ((a, .inr (9, [.ref (w0 0), .ref (w1 0), .ref q3, .ref q4, .ref q5, .ref q6, .ref q7, .int (nI 0), .int (-1 : Int32), .int (-1 : Int32), .int (-1 : Int32)])) :: (tB cy q7 v2 16 0 0 (fun _ => 0) ++ (tB cy q6 v1 16 0 0 (fun _ => 0) ++ ([(q5, .inr (5, [.ref d1, .int (nI 0)])), (d1, .inr (8, [.ref d2, .int (nI 5), .int (nI 8), .int (nI 0)])), (d2, .inl (cy 0, 40, .inl (fun _ => 0)))] ++ ([(q4, .inr (6, [.ref r1, .int (nI 0), .int (nI 0), .int (-1 : Int32)])), (r1, .inr (8, [.ref r2, .int (nI 7), .int (nI 30), .int (nI 0)])), (r2, .inl (cy 0, 210, .inl (fun _ => 0)))] ++ (zHs cy q3 hs W ++ (zStB cy w1 ++ (zStB cy w0 ++ E))))))))) C rfl rfl zin_RX5 (by decide) zfl_RX5_61 tyX5_ok nmX5 rfl (by decide +kernel) rfl rfl (Nat.le_of_ble_eq_true rfl) rfl dX5_init_98 ?_
  refine zG.less (ws' := zW cy (zad a w0 w1 q3 hs W q4 r1 r2 q5 d1 d2 q6 q7) shC (tB cy ((zad a w0 w1 q3 hs W q4 r1 r2 q5 d1 d2 q6 q7) 152) v1 16 0 0 (fun _ => 0) ++ (tB cy ((zad a w0 w1 q3 hs W q4 r1 r2 q5 d1 d2 q6 q7) 153) v2 16 0 0 (fun _ => 0) ++ E)) zX0) (l' := ((a, .inr (9, [.ref (w0 0), .ref (w1 0), .ref q3, .ref q4, .ref q5, .ref q6, .ref q7, .int (nI 0), .int (-1 : Int32), .int (-1 : Int32), .int (-1 : Int32)])) :: (tB cy q7 v2 16 0 0 (fun _ => 0) ++ (tB cy q6 v1 16 0 0 (fun _ => 0) ++ ([(q5, .inr (5, [.ref d1, .int (nI 0)])), (d1, .inr (8, [.ref d2, .int (nI 5), .int (nI 8), .int (nI 0)])), (d2, .inl (cy 0, 40, .inl (fun _ => 0)))] ++ ([(q4, .inr (6, [.ref r1, .int (nI 0), .int (nI 0), .int (-1 : Int32)])), (r1, .inr (8, [.ref r2, .int (nI 7), .int (nI 30), .int (nI 0)])), (r2, .inl (cy 0, 210, .inl (fun _ => 0)))] ++ (zHs cy q3 hs W ++ (zStB cy w1 ++ (zStB cy w0 ++ E))))))))) ?_ (List.Sublist.refl _) ?_
  · rw [zC0_eq]
    refine List.Perm.cons _ ?_
    have h9 := (zrevB ([zStB cy w0, zStB cy w1, zHs cy q3 hs W, [(q4, .inr (6, [.ref r1, .int (nI 0), .int (nI 0), .int (-1 : Int32)])), (r1, .inr (8, [.ref r2, .int (nI 7), .int (nI 30), .int (nI 0)])), (r2, .inl (cy 0, 210, .inl (fun _ => 0)))], [(q5, .inr (5, [.ref d1, .int (nI 0)])), (d1, .inr (8, [.ref d2, .int (nI 5), .int (nI 8), .int (nI 0)])), (d2, .inl (cy 0, 40, .inl (fun _ => 0)))], tB cy q6 v1 16 0 0 (fun _ => 0), tB cy q7 v2 16 0 0 (fun _ => 0)] : List va_W) E).symm
    simp only [List.reverse_cons, List.reverse_nil, List.nil_append, List.flatten_cons, List.flatten_nil, List.append_assoc, List.append_nil] at h9
    exact h9
  exact t_vret C hr ⟨(zad a w0 w1 q3 hs W q4 r1 r2 q5 d1 d2 q6 q7), v1, v2, rfl, rfl⟩ (Nat.le_of_ble_eq_true rfl) (Nat.le_of_ble_eq_true rfl) dX5_init_101
def zGl (n : Nat) : Int32 := if n < 6 then [nI 10, nI 2, nI 15, nI 10, nI 60, nI 10].getD n 0 else nI 3
def zG6 : Nat → Nat → Int32
  | 0 => fun _ => 0
  | n + 1 => upd (zG6 n) (8 + n) (zGl n)
/-- the reference's memory as its constructor leaves it -/
def zY0 (r k : Nat) : Int32 := match r with
  | 0 => if k = 12 then (-1 : Int32) else 0
  | 1 => zG6 22 k
  | _ => 0
theorem zol_RX6_1 : Cond.methodLink RX6 1 objectInit ∈ zAll := zg (z_t6 (List.mem_of_getElem? (i := 195) (by decide +kernel))) (by decide +kernel)
theorem znr_char : Cond.arrayClass .char ∈ zAll := zg (z_t7 (List.mem_of_getElem? (i := 38) (by decide +kernel))) (by decide +kernel)
set_option maxRecDepth 100000 in
set_option maxHeartbeats 8000000 in
theorem c_X6_init (l : Launch) (D : va_G) (cy : Nat → ClassId) (E : va_W) (a : Nat) : zMt l yX6_init cX6_init 2 none (zrt 1 7 8000) D (zTy cy) zEi ((a, .inr (10, [.int 0, .null, .null, .int 0, .null, .int 0, .null, .int 0, .int 0, .int 0, .null, .int 0, .int 0, .null, .int 0, .int 0, .int 0, .int 0, .int 0, .int 0, .int 0, .int 0, .int 0, .int 0, .int 0, .int 0, .null])) :: E) [.ref a] 7 8000 (tV D (zTy cy) (fun w => ∃ ad : Nat → Nat, ad 0 = a ∧ w = zW cy ad shM E zY0)) := by
  refine zMt.ofI (by decide) (Nat.le_of_ble_eq_true rfl) ?_
  intro p e s m below meth c A C hr hE hnm
  refine zG_L (L' := [(0, .ref a)]) rfl ?_
  refine g_aload_n (j := 0) C dX6_init_0 rfl rfl ?_
  refine n_obj C zol_RX6_1 (Nat.le_of_ble_eq_true rfl) (Nat.le_of_ble_eq_true rfl) dX6_init_1 ?_
  refine g_aload_n (j := 0) C dX6_init_4 rfl rfl ?_
  refine g_sipush (v := (nI 580)) C dX6_init_5 (by decide) ?_
  refine n_newa (k := 0) (ty := .int) (a0 := (580, .inl (fun _ => 0))) (N := 580) C rfl (fun _ h => nomatch h) rfl znr_int (fun _ => rfl) (nI_pos (by decide)) (nI_clamp (by decide)) (Nat.le_of_ble_eq_true rfl) (Nat.le_of_ble_eq_true rfl) (Nat.le_of_ble_eq_true rfl) dX6_init_8 (fun q1 => ?_)
  refine n_putF C hnm (q0 := 1) (k := 1) (ci := 10) (N := 27) (ty := (.array .int)) (ty0 := tyX6) (v := .ref q1) (ws' := ((q1, .inl (cy 0, 580, .inl (fun _ => 0))) :: (a, .inr (10, [.int 0, .ref q1, .null, .int 0, .null, .int 0, .null, .int 0, .int 0, .int 0, .null, .int 0, .int 0, .null, .int 0, .int 0, .int 0, .int 0, .int 0, .int 0, .int 0, .int 0, .int 0, .int 0, .int 0, .int 0, .null])) :: E)) rfl rfl zin_RX6 (by decide) zfl_RX6_9 tyX6_ok nmX6 rfl rfl (by decide +kernel) rfl rfl (Nat.le_of_ble_eq_true rfl) rfl dX6_init_10 ?_
  refine g_aload_n (j := 0) C dX6_init_13 rfl rfl ?_
  refine g_sipush (v := (nI 4640)) C dX6_init_14 (by decide) ?_
  refine n_newa (k := 0) (ty := .int) (a0 := (4640, .inl (fun _ => 0))) (N := 4640) C rfl (fun _ h => nomatch h) rfl znr_int (fun _ => rfl) (nI_pos (by decide)) (nI_clamp (by decide)) (Nat.le_of_ble_eq_true rfl) (Nat.le_of_ble_eq_true rfl) (Nat.le_of_ble_eq_true rfl) dX6_init_17 (fun q2 => ?_)
  refine n_putF C hnm (q0 := 2) (k := 2) (ci := 10) (N := 27) (ty := (.array .int)) (ty0 := tyX6) (v := .ref q2) (ws' := ((q2, .inl (cy 0, 4640, .inl (fun _ => 0))) :: (q1, .inl (cy 0, 580, .inl (fun _ => 0))) :: (a, .inr (10, [.int 0, .ref q1, .ref q2, .int 0, .null, .int 0, .null, .int 0, .int 0, .int 0, .null, .int 0, .int 0, .null, .int 0, .int 0, .int 0, .int 0, .int 0, .int 0, .int 0, .int 0, .int 0, .int 0, .int 0, .int 0, .null])) :: E)) rfl rfl zin_RX6 (by decide) zfl_RX6_13 tyX6_ok nmX6 rfl rfl (by decide +kernel) rfl rfl (Nat.le_of_ble_eq_true rfl) rfl dX6_init_19 ?_
  refine g_aload_n (j := 0) C dX6_init_22 rfl rfl ?_
  refine g_sipush (v := (nI 580)) C dX6_init_23 (by decide) ?_
  refine n_newa (k := 0) (ty := .int) (a0 := (580, .inl (fun _ => 0))) (N := 580) C rfl (fun _ h => nomatch h) rfl znr_int (fun _ => rfl) (nI_pos (by decide)) (nI_clamp (by decide)) (Nat.le_of_ble_eq_true rfl) (Nat.le_of_ble_eq_true rfl) (Nat.le_of_ble_eq_true rfl) dX6_init_26 (fun q3 => ?_)
  refine n_putF C hnm (q0 := 3) (k := 4) (ci := 10) (N := 27) (ty := (.array .int)) (ty0 := tyX6) (v := .ref q3) (ws' := ((q3, .inl (cy 0, 580, .inl (fun _ => 0))) :: (q2, .inl (cy 0, 4640, .inl (fun _ => 0))) :: (q1, .inl (cy 0, 580, .inl (fun _ => 0))) :: (a, .inr (10, [.int 0, .ref q1, .ref q2, .int 0, .ref q3, .int 0, .null, .int 0, .int 0, .int 0, .null, .int 0, .int 0, .null, .int 0, .int 0, .int 0, .int 0, .int 0, .int 0, .int 0, .int 0, .int 0, .int 0, .int 0, .int 0, .null])) :: E)) rfl rfl zin_RX6 (by decide) zfl_RX6_16 tyX6_ok nmX6 rfl rfl (by decide +kernel) rfl rfl (Nat.le_of_ble_eq_true rfl) rfl dX6_init_28 ?_
  refine g_aload_n (j := 0) C dX6_init_31 rfl rfl ?_
  refine g_sipush (v := (nI 580)) C dX6_init_32 (by decide) ?_
  refine n_newa (k := 0) (ty := .int) (a0 := (580, .inl (fun _ => 0))) (N := 580) C rfl (fun _ h => nomatch h) rfl znr_int (fun _ => rfl) (nI_pos (by decide)) (nI_clamp (by decide)) (Nat.le_of_ble_eq_true rfl) (Nat.le_of_ble_eq_true rfl) (Nat.le_of_ble_eq_true rfl) dX6_init_35 (fun q4 => ?_)
  refine n_putF C hnm (q0 := 4) (k := 6) (ci := 10) (N := 27) (ty := (.array .int)) (ty0 := tyX6) (v := .ref q4) (ws' := ((q4, .inl (cy 0, 580, .inl (fun _ => 0))) :: (q3, .inl (cy 0, 580, .inl (fun _ => 0))) :: (q2, .inl (cy 0, 4640, .inl (fun _ => 0))) :: (q1, .inl (cy 0, 580, .inl (fun _ => 0))) :: (a, .inr (10, [.int 0, .ref q1, .ref q2, .int 0, .ref q3, .int 0, .ref q4, .int 0, .int 0, .int 0, .null, .int 0, .int 0, .null, .int 0, .int 0, .int 0, .int 0, .int 0, .int 0, .int 0, .int 0, .int 0, .int 0, .int 0, .int 0, .null])) :: E)) rfl rfl zin_RX6 (by decide) zfl_RX6_19 tyX6_ok nmX6 rfl rfl (by decide +kernel) rfl rfl (Nat.le_of_ble_eq_true rfl) rfl dX6_init_37 ?_
  refine g_aload_n (j := 0) C dX6_init_40 rfl rfl ?_
  refine g_bipush (v := (nI 60)) C dX6_init_41 (by decide) ?_
  refine n_newa (k := 1) (ty := .char) (a0 := (60, .inl (fun _ => 0))) (N := 60) C rfl (fun _ h => nomatch h) rfl znr_char (fun _ => rfl) (nI_pos (by decide)) (nI_clamp (by decide)) (Nat.le_of_ble_eq_true rfl) (Nat.le_of_ble_eq_true rfl) (Nat.le_of_ble_eq_true rfl) dX6_init_43 (fun q5 => ?_)
  refine n_putF C hnm (q0 := 5) (k := 10) (ci := 10) (N := 27) (ty := (.array .char)) (ty0 := tyX6) (v := .ref q5) (ws' := ((q5, .inl (cy 1, 60, .inl (fun _ => 0))) :: (q4, .inl (cy 0, 580, .inl (fun _ => 0))) :: (q3, .inl (cy 0, 580, .inl (fun _ => 0))) :: (q2, .inl (cy 0, 4640, .inl (fun _ => 0))) :: (q1, .inl (cy 0, 580, .inl (fun _ => 0))) :: (a, .inr (10, [.int 0, .ref q1, .ref q2, .int 0, .ref q3, .int 0, .ref q4, .int 0, .int 0, .int 0, .ref q5, .int 0, .int 0, .null, .int 0, .int 0, .int 0, .int 0, .int 0, .int 0, .int 0, .int 0, .int 0, .int 0, .int 0, .int 0, .null])) :: E)) rfl rfl zin_RX6 (by decide) zfl_RX6_22 tyX6_ok nmX6 rfl rfl (by decide +kernel) rfl rfl (Nat.le_of_ble_eq_true rfl) rfl dX6_init_45 ?_
  refine g_aload_n (j := 0) C dX6_init_48 rfl rfl ?_
  refine g_iconst (v := (-1 : Int32)) C dX6_init_49 (by decide) ?_
  refine p_put (q0 := 5) (k := 12) (ci := 10) (N := 27) (ty := .int) (ty0 := tyX6) (v := .int (-1 : Int32)) (ws' := ((q5, .inl (cy 1, 60, .inl (fun _ => 0))) :: (q4, .inl (cy 0, 580, .inl (fun _ => 0))) :: (q3, .inl (cy 0, 580, .inl (fun _ => 0))) :: (q2, .inl (cy 0, 4640, .inl (fun _ => 0))) :: (q1, .inl (cy 0, 580, .inl (fun _ => 0))) :: (a, .inr (10, [.int 0, .ref q1, .ref q2, .int 0, .ref q3, .int 0, .ref q4, .int 0, .int 0, .int 0, .ref q5, .int 0, .int (-1 : Int32), .null, .int 0, .int 0, .int 0, .int 0, .int 0, .int 0, .int 0, .int 0, .int 0, .int 0, .int 0, .int 0, .null])) :: E)) C rfl rfl zin_RX6 (by decide) zfl_RX6_26 tyX6_ok nmX6 rfl (by decide +kernel) rfl rfl (Nat.le_of_ble_eq_true rfl) rfl dX6_init_50 ?_
  refine g_aload_n (j := 0) C dX6_init_53 rfl rfl ?_
  refine g_sipush (v := (nI 1200)) C dX6_init_54 (by decide) ?_
  refine n_newa (k := 1) (ty := .char) (a0 := (1200, .inl (fun _ => 0))) (N := 1200) C rfl (fun _ h => nomatch h) rfl znr_char (fun _ => rfl) (nI_pos (by decide)) (nI_clamp (by decide)) (Nat.le_of_ble_eq_true rfl) (Nat.le_of_ble_eq_true rfl) (Nat.le_of_ble_eq_true rfl) dX6_init_57 (fun q6 => ?_)
  refine n_putF C hnm (q0 := 6) (k := 13) (ci := 10) (N := 27) (ty := (.array .char)) (ty0 := tyX6) (v := .ref q6) (ws' := ((q6, .inl (cy 1, 1200, .inl (fun _ => 0))) :: (q5, .inl (cy 1, 60, .inl (fun _ => 0))) :: (q4, .inl (cy 0, 580, .inl (fun _ => 0))) :: (q3, .inl (cy 0, 580, .inl (fun _ => 0))) :: (q2, .inl (cy 0, 4640, .inl (fun _ => 0))) :: (q1, .inl (cy 0, 580, .inl (fun _ => 0))) :: (a, .inr (10, [.int 0, .ref q1, .ref q2, .int 0, .ref q3, .int 0, .ref q4, .int 0, .int 0, .int 0, .ref q5, .int 0, .int (-1 : Int32), .ref q6, .int 0, .int 0, .int 0, .int 0, .int 0, .int 0, .int 0, .int 0, .int 0, .int 0, .int 0, .int 0, .null])) :: E)) rfl rfl zin_RX6 (by decide) zfl_RX6_30 tyX6_ok nmX6 rfl rfl (by decide +kernel) rfl rfl (Nat.le_of_ble_eq_true rfl) rfl dX6_init_59 ?_
  refine g_aload_n (j := 0) C dX6_init_62 rfl rfl ?_
  refine g_sipush (v := (nI 300)) C dX6_init_63 (by decide) ?_
  refine n_newa (k := 0) (ty := .int) (a0 := (300, .inl (fun _ => 0))) (N := 300) C rfl (fun _ h => nomatch h) rfl znr_int (fun _ => rfl) (nI_pos (by decide)) (nI_clamp (by decide)) (Nat.le_of_ble_eq_true rfl) (Nat.le_of_ble_eq_true rfl) (Nat.le_of_ble_eq_true rfl) dX6_init_66 (fun q7 => ?_)
  refine n_putF C hnm (q0 := 7) (k := 26) (ci := 10) (N := 27) (ty := (.array .int)) (ty0 := tyX6) (v := .ref q7) (ws' := ((q7, .inl (cy 0, 300, .inl (fun _ => 0))) :: (q6, .inl (cy 1, 1200, .inl (fun _ => 0))) :: (q5, .inl (cy 1, 60, .inl (fun _ => 0))) :: (q4, .inl (cy 0, 580, .inl (fun _ => 0))) :: (q3, .inl (cy 0, 580, .inl (fun _ => 0))) :: (q2, .inl (cy 0, 4640, .inl (fun _ => 0))) :: (q1, .inl (cy 0, 580, .inl (fun _ => 0))) :: (a, .inr (10, [.int 0, .ref q1, .ref q2, .int 0, .ref q3, .int 0, .ref q4, .int 0, .int 0, .int 0, .ref q5, .int 0, .int (-1 : Int32), .ref q6, .int 0, .int 0, .int 0, .int 0, .int 0, .int 0, .int 0, .int 0, .int 0, .int 0, .int 0, .int 0, .ref q7])) :: E)) rfl rfl zin_RX6 (by decide) zfl_RX6_33 tyX6_ok nmX6 rfl rfl (by decide +kernel) rfl rfl (Nat.le_of_ble_eq_true rfl) rfl dX6_init_68 ?_
  refine g_aload_n (j := 0) C dX6_init_71 rfl rfl ?_
  refine p_get (q0 := 7) (k := 1) (ci := 10) (N := 27) (v := .ref q1) C rfl rfl zin_RX6 (by decide) zfl_RX6_9 rfl dX6_init_72 ?_
  refine g_bipush (v := (nI 8)) C dX6_init_75 (by decide) ?_
  refine g_bipush (v := (nI 10)) C dX6_init_77 (by decide) ?_
  refine n_iast (q0 := 6) (n := 580) (ws' := ((q7, .inl (cy 0, 300, .inl (fun _ => 0))) :: (q6, .inl (cy 1, 1200, .inl (fun _ => 0))) :: (q5, .inl (cy 1, 60, .inl (fun _ => 0))) :: (q4, .inl (cy 0, 580, .inl (fun _ => 0))) :: (q3, .inl (cy 0, 580, .inl (fun _ => 0))) :: (q2, .inl (cy 0, 4640, .inl (fun _ => 0))) :: (q1, .inl (cy 0, 580, .inl (zG6 1))) :: (a, .inr (10, [.int 0, .ref q1, .ref q2, .int 0, .ref q3, .int 0, .ref q4, .int 0, .int 0, .int 0, .ref q5, .int 0, .int (-1 : Int32), .ref q6, .int 0, .int 0, .int 0, .int 0, .int 0, .int 0, .int 0, .int 0, .int 0, .int 0, .int 0, .int 0, .ref q7])) :: E)) C rfl (nI_in (by decide) (by decide)) (by rw [nI_clamp (by decide)]; rfl) dX6_init_79 ?_
  refine g_aload_n (j := 0) C dX6_init_80 rfl rfl ?_
  refine p_get (q0 := 7) (k := 1) (ci := 10) (N := 27) (v := .ref q1) C rfl rfl zin_RX6 (by decide) zfl_RX6_9 rfl dX6_init_81 ?_
  refine g_bipush (v := (nI 9)) C dX6_init_84 (by decide) ?_
  refine g_iconst (v := (nI 2)) C dX6_init_86 (by decide) ?_
  refine n_iast (q0 := 6) (n := 580) (ws' := ((q7, .inl (cy 0, 300, .inl (fun _ => 0))) :: (q6, .inl (cy 1, 1200, .inl (fun _ => 0))) :: (q5, .inl (cy 1, 60, .inl (fun _ => 0))) :: (q4, .inl (cy 0, 580, .inl (fun _ => 0))) :: (q3, .inl (cy 0, 580, .inl (fun _ => 0))) :: (q2, .inl (cy 0, 4640, .inl (fun _ => 0))) :: (q1, .inl (cy 0, 580, .inl (zG6 2))) :: (a, .inr (10, [.int 0, .ref q1, .ref q2, .int 0, .ref q3, .int 0, .ref q4, .int 0, .int 0, .int 0, .ref q5, .int 0, .int (-1 : Int32), .ref q6, .int 0, .int 0, .int 0, .int 0, .int 0, .int 0, .int 0, .int 0, .int 0, .int 0, .int 0, .int 0, .ref q7])) :: E)) C rfl (nI_in (by decide) (by decide)) (by rw [nI_clamp (by decide)]; rfl) dX6_init_87 ?_
  refine g_aload_n (j := 0) C dX6_init_88 rfl rfl ?_
  refine p_get (q0 := 7) (k := 1) (ci := 10) (N := 27) (v := .ref q1) C rfl rfl zin_RX6 (by decide) zfl_RX6_9 rfl dX6_init_89 ?_
  refine g_bipush (v := (nI 10)) C dX6_init_92 (by decide) ?_
  refine g_bipush (v := (nI 15)) C dX6_init_94 (by decide) ?_
  refine n_iast (q0 := 6) (n := 580) (ws' := ((q7, .inl (cy 0, 300, .inl (fun _ => 0))) :: (q6, .inl (cy 1, 1200, .inl (fun _ => 0))) :: (q5, .inl (cy 1, 60, .inl (fun _ => 0))) :: (q4, .inl (cy 0, 580, .inl (fun _ => 0))) :: (q3, .inl (cy 0, 580, .inl (fun _ => 0))) :: (q2, .inl (cy 0, 4640, .inl (fun _ => 0))) :: (q1, .inl (cy 0, 580, .inl (zG6 3))) :: (a, .inr (10, [.int 0, .ref q1, .ref q2, .int 0, .ref q3, .int 0, .ref q4, .int 0, .int 0, .int 0, .ref q5, .int 0, .int (-1 : Int32), .ref q6, .int 0, .int 0, .int 0, .int 0, .int 0, .int 0, .int 0, .int 0, .int 0, .int 0, .int 0, .int 0, .ref q7])) :: E)) C rfl (nI_in (by decide) (by decide)) (by rw [nI_clamp (by decide)]; rfl) dX6_init_96 ?_
  refine g_aload_n (j := 0) C dX6_init_97 rfl rfl ?_
  refine p_get (q0 := 7) (k := 1) (ci := 10) (N := 27) (v := .ref q1) C rfl rfl zin_RX6 (by decide) zfl_RX6_9 rfl dX6_init_98 ?_
  refine g_bipush (v := (nI 11)) C dX6_init_101 (by decide) ?_
  refine g_bipush (v := (nI 10)) C dX6_init_103 (by decide) ?_
  refine n_iast (q0 := 6) (n := 580) (ws' := ((q7, .inl (cy 0, 300, .inl (fun _ => 0))) :: (q6, .inl (cy 1, 1200, .inl (fun _ => 0))) :: (q5, .inl (cy 1, 60, .inl (fun _ => 0))) :: (q4, .inl (cy 0, 580, .inl (fun _ => 0))) :: (q3, .inl (cy 0, 580, .inl (fun _ => 0))) :: (q2, .inl (cy 0, 4640, .inl (fun _ => 0))) :: (q1, .inl (cy 0, 580, .inl (zG6 4))) :: (a, .inr (10, [.int 0, .ref q1, .ref q2, .int 0, .ref q3, .int 0, .ref q4, .int 0, .int 0, .int 0, .ref q5, .int 0, .int (-1 : Int32), .ref q6, .int 0, .int 0, .int 0, .int 0, .int 0, .int 0, .int 0, .int 0, .int 0, .int 0, .int 0, .int 0, .ref q7])) :: E)) C rfl (nI_in (by decide) (by decide)) (by rw [nI_clamp (by decide)]; rfl) dX6_init_105 ?_
  refine g_aload_n (j := 0) C dX6_init_106 rfl rfl ?_
  refine p_get (q0 := 7) (k := 1) (ci := 10) (N := 27) (v := .ref q1) C rfl rfl zin_RX6 (by decide) zfl_RX6_9 rfl dX6_init_107 ?_
  refine g_bipush (v := (nI 12)) C dX6_init_110 (by decide) ?_
  refine g_bipush (v := (nI 60)) C dX6_init_112 (by decide) ?_
  refine n_iast (q0 := 6) (n := 580) (ws' := ((q7, .inl (cy 0, 300, .inl (fun _ => 0))) :: (q6, .inl (cy 1, 1200, .inl (fun _ => 0))) :: (q5, .inl (cy 1, 60, .inl (fun _ => 0))) :: (q4, .inl (cy 0, 580, .inl (fun _ => 0))) :: (q3, .inl (cy 0, 580, .inl (fun _ => 0))) :: (q2, .inl (cy 0, 4640, .inl (fun _ => 0))) :: (q1, .inl (cy 0, 580, .inl (zG6 5))) :: (a, .inr (10, [.int 0, .ref q1, .ref q2, .int 0, .ref q3, .int 0, .ref q4, .int 0, .int 0, .int 0, .ref q5, .int 0, .int (-1 : Int32), .ref q6, .int 0, .int 0, .int 0, .int 0, .int 0, .int 0, .int 0, .int 0, .int 0, .int 0, .int 0, .int 0, .ref q7])) :: E)) C rfl (nI_in (by decide) (by decide)) (by rw [nI_clamp (by decide)]; rfl) dX6_init_114 ?_
  refine g_aload_n (j := 0) C dX6_init_115 rfl rfl ?_
  refine p_get (q0 := 7) (k := 1) (ci := 10) (N := 27) (v := .ref q1) C rfl rfl zin_RX6 (by decide) zfl_RX6_9 rfl dX6_init_116 ?_
  refine g_bipush (v := (nI 13)) C dX6_init_119 (by decide) ?_
  refine g_bipush (v := (nI 10)) C dX6_init_121 (by decide) ?_
  refine n_iast (q0 := 6) (n := 580) (ws' := ((q7, .inl (cy 0, 300, .inl (fun _ => 0))) :: (q6, .inl (cy 1, 1200, .inl (fun _ => 0))) :: (q5, .inl (cy 1, 60, .inl (fun _ => 0))) :: (q4, .inl (cy 0, 580, .inl (fun _ => 0))) :: (q3, .inl (cy 0, 580, .inl (fun _ => 0))) :: (q2, .inl (cy 0, 4640, .inl (fun _ => 0))) :: (q1, .inl (cy 0, 580, .inl (zG6 6))) :: (a, .inr (10, [.int 0, .ref q1, .ref q2, .int 0, .ref q3, .int 0, .ref q4, .int 0, .int 0, .int 0, .ref q5, .int 0, .int (-1 : Int32), .ref q6, .int 0, .int 0, .int 0, .int 0, .int 0, .int 0, .int 0, .int 0, .int 0, .int 0, .int 0, .int 0, .ref q7])) :: E)) C rfl (nI_in (by decide) (by decide)) (by rw [nI_clamp (by decide)]; rfl) dX6_init_123 ?_
  refine g_iconst (v := (nI 0)) C dX6_init_124 (by decide) ?_
  refine g_istore_n (L' := [(1, .int (nI 0)), (0, .ref a)]) C dX6_init_125 rfl (by decide) rfl ?_
  refine g_iload_n (j := 0) C dX6_init_126 rfl rfl ?_
  refine g_bipush (v := (nI 16)) C dX6_init_127 (by decide) ?_
  refine g_icmp_ge C dX6_init_129 (tgt := 148) (by decide) (fun h9 => absurd h9 (by decide)) (fun _ => ?_)
  refine g_aload_n (j := 1) C dX6_init_132 rfl rfl ?_
  refine p_get (q0 := 7) (k := 1) (ci := 10) (N := 27) (v := .ref q1) C rfl rfl zin_RX6 (by decide) zfl_RX6_9 rfl dX6_init_133 ?_
  refine g_bipush (v := (nI 14)) C dX6_init_136 (by decide) ?_
  refine g_iload_n (j := 0) C dX6_init_138 rfl rfl ?_
  refine g_iadd C dX6_init_139 ?_
  refine p_num (y := (nI 14)) (by decide) ?_
  refine g_iconst (v := (nI 3)) C dX6_init_140 (by decide) ?_
  refine n_iast (q0 := 6) (n := 580) (ws' := ((q7, .inl (cy 0, 300, .inl (fun _ => 0))) :: (q6, .inl (cy 1, 1200, .inl (fun _ => 0))) :: (q5, .inl (cy 1, 60, .inl (fun _ => 0))) :: (q4, .inl (cy 0, 580, .inl (fun _ => 0))) :: (q3, .inl (cy 0, 580, .inl (fun _ => 0))) :: (q2, .inl (cy 0, 4640, .inl (fun _ => 0))) :: (q1, .inl (cy 0, 580, .inl (zG6 7))) :: (a, .inr (10, [.int 0, .ref q1, .ref q2, .int 0, .ref q3, .int 0, .ref q4, .int 0, .int 0, .int 0, .ref q5, .int 0, .int (-1 : Int32), .ref q6, .int 0, .int 0, .int 0, .int 0, .int 0, .int 0, .int 0, .int 0, .int 0, .int 0, .int 0, .int 0, .ref q7])) :: E)) C rfl (nI_in (by decide) (by decide)) (by rw [nI_clamp (by decide)]; rfl) dX6_init_141 ?_
  refine g_iinc (k := 0) (L' := [(1, .int (nI 1)), (0, .ref a)]) C dX6_init_142 rfl (by decide) (by decide) rfl ?_
  refine g_goto C dX6_init_145 (tgt := 126) (by decide) ?_
  refine g_iload_n (j := 0) C dX6_init_126 rfl rfl ?_
  refine g_bipush (v := (nI 16)) C dX6_init_127 (by decide) ?_
  refine g_icmp_ge C dX6_init_129 (tgt := 148) (by decide) (fun h9 => absurd h9 (by decide)) (fun _ => ?_)
  refine g_aload_n (j := 1) C dX6_init_132 rfl rfl ?_
  refine p_get (q0 := 7) (k := 1) (ci := 10) (N := 27) (v := .ref q1) C rfl rfl zin_RX6 (by decide) zfl_RX6_9 rfl dX6_init_133 ?_
  refine g_bipush (v := (nI 14)) C dX6_init_136 (by decide) ?_
  refine g_iload_n (j := 0) C dX6_init_138 rfl rfl ?_
  refine g_iadd C dX6_init_139 ?_
  refine p_num (y := (nI 15)) (by decide) ?_
  refine g_iconst (v := (nI 3)) C dX6_init_140 (by decide) ?_
  refine n_iast (q0 := 6) (n := 580) (ws' := ((q7, .inl (cy 0, 300, .inl (fun _ => 0))) :: (q6, .inl (cy 1, 1200, .inl (fun _ => 0))) :: (q5, .inl (cy 1, 60, .inl (fun _ => 0))) :: (q4, .inl (cy 0, 580, .inl (fun _ => 0))) :: (q3, .inl (cy 0, 580, .inl (fun _ => 0))) :: (q2, .inl (cy 0, 4640, .inl (fun _ => 0))) :: (q1, .inl (cy 0, 580, .inl (zG6 8))) :: (a, .inr (10, [.int 0, .ref q1, .ref q2, .int 0, .ref q3, .int 0, .ref q4, .int 0, .int 0, .int 0, .ref q5, .int 0, .int (-1 : Int32), .ref q6, .int 0, .int 0, .int 0, .int 0, .int 0, .int 0, .int 0, .int 0, .int 0, .int 0, .int 0, .int 0, .ref q7])) :: E)) C rfl (nI_in (by decide) (by decide)) (by rw [nI_clamp (by decide)]; rfl) dX6_init_141 ?_
  refine g_iinc (k := 0) (L' := [(1, .int (nI 2)), (0, .ref a)]) C dX6_init_142 rfl (by decide) (by decide) rfl ?_
  refine g_goto C dX6_init_145 (tgt := 126) (by decide) ?_
  refine g_iload_n (j := 0) C dX6_init_126 rfl rfl ?_
  refine g_bipush (v := (nI 16)) C dX6_init_127 (by decide) ?_
  refine g_icmp_ge C dX6_init_129 (tgt := 148) (by decide) (fun h9 => absurd h9 (by decide)) (fun _ => ?_)
  refine g_aload_n (j := 1) C dX6_init_132 rfl rfl ?_
  refine p_get (q0 := 7) (k := 1) (ci := 10) (N := 27) (v := .ref q1) C rfl rfl zin_RX6 (by decide) zfl_RX6_9 rfl dX6_init_133 ?_
  refine g_bipush (v := (nI 14)) C dX6_init_136 (by decide) ?_
  refine g_iload_n (j := 0) C dX6_init_138 rfl rfl ?_
  refine g_iadd C dX6_init_139 ?_
  refine p_num (y := (nI 16)) (by decide) ?_
  refine g_iconst (v := (nI 3)) C dX6_init_140 (by decide) ?_
  refine n_iast (q0 := 6) (n := 580) (ws' := ((q7, .inl (cy 0, 300, .inl (fun _ => 0))) :: (q6, .inl (cy 1, 1200, .inl (fun _ => 0))) :: (q5, .inl (cy 1, 60, .inl (fun _ => 0))) :: (q4, .inl (cy 0, 580, .inl (fun _ => 0))) :: (q3, .inl (cy 0, 580, .inl (fun _ => 0))) :: (q2, .inl (cy 0, 4640, .inl (fun _ => 0))) :: (q1, .inl (cy 0, 580, .inl (zG6 9))) :: (a, .inr (10, [.int 0, .ref q1, .ref q2, .int 0, .ref q3, .int 0, .ref q4, .int 0, .int 0, .int 0, .ref q5, .int 0, .int (-1 : Int32), .ref q6, .int 0, .int 0, .int 0, .int 0, .int 0, .int 0, .int 0, .int 0, .int 0, .int 0, .int 0, .int 0, .ref q7])) :: E)) C rfl (nI_in (by decide) (by decide)) (by rw [nI_clamp (by decide)]; rfl) dX6_init_141 ?_
  refine g_iinc (k := 0) (L' := [(1, .int (nI 3)), (0, .ref a)]) C dX6_init_142 rfl (by decide) (by decide) rfl ?_
  refine g_goto C dX6_init_145 (tgt := 126) (by decide) ?_
  refine g_iload_n (j := 0) C dX6_init_126 rfl rfl ?_
  refine g_bipush (v := (nI 16)) C dX6_init_127 (by decide) ?_
  refine g_icmp_ge C dX6_init_129 (tgt := 148) (by decide) (fun h9 => absurd h9 (by decide)) (fun _ => ?_)
  refine g_aload_n (j := 1) C dX6_init_132 rfl rfl ?_
  refine p_get (q0 := 7) (k := 1) (ci := 10) (N := 27) (v := .ref q1) C rfl rfl zin_RX6 (by decide) zfl_RX6_9 rfl dX6_init_133 ?_
  refine g_bipush (v := (nI 14)) C dX6_init_136 (by decide) ?_
  refine g_iload_n (j := 0) C dX6_init_138 rfl rfl ?_
  refine g_iadd C dX6_init_139 ?_
  refine p_num (y := (nI 17)) (by decide) ?_
  refine g_iconst (v := (nI 3)) C dX6_init_140 (by decide) ?_
  refine n_iast (q0 := 6) (n := 580) (ws' := ((q7, .inl (cy 0, 300, .inl (fun _ => 0))) :: (q6, .inl (cy 1, 1200, .inl (fun _ => 0))) :: (q5, .inl (cy 1, 60, .inl (fun _ => 0))) :: (q4, .inl (cy 0, 580, .inl (fun _ => 0))) :: (q3, .inl (cy 0, 580, .inl (fun _ => 0))) :: (q2, .inl (cy 0, 4640, .inl (fun _ => 0))) :: (q1, .inl (cy 0, 580, .inl (zG6 10))) :: (a, .inr (10, [.int 0, .ref q1, .ref q2, .int 0, .ref q3, .int 0, .ref q4, .int 0, .int 0, .int 0, .ref q5, .int 0, .int (-1 : Int32), .ref q6, .int 0, .int 0, .int 0, .int 0, .int 0, .int 0, .int 0, .int 0, .int 0, .int 0, .int 0, .int 0, .ref q7])) :: E)) C rfl (nI_in (by decide) (by decide)) (by rw [nI_clamp (by decide)]; rfl) dX6_init_141 ?_
  refine g_iinc (k := 0) (L' := [(1, .int (nI 4)), (0, .ref a)]) C dX6_init_142 rfl (by decide) (by decide) rfl ?_
  refine g_goto C dX6_init_145 (tgt := 126) (by decide) ?_
  refine g_iload_n (j := 0) C dX6_init_126 rfl rfl ?_
  refine g_bipush (v := (nI 16)) C dX6_init_127 (by decide) ?_
  refine g_icmp_ge C dX6_init_129 (tgt := 148) (by decide) (fun h9 => absurd h9 (by decide)) (fun _ => ?_)
  refine g_aload_n (j := 1) C dX6_init_132 rfl rfl ?_
  refine p_get (q0 := 7) (k := 1) (ci := 10) (N := 27) (v := .ref q1) C rfl rfl zin_RX6 (by decide) zfl_RX6_9 rfl dX6_init_133 ?_
  refine g_bipush (v := (nI 14)) C dX6_init_136 (by decide) ?_
  refine g_iload_n (j := 0) C dX6_init_138 rfl rfl ?_
  refine g_iadd C dX6_init_139 ?_
  refine p_num (y := (nI 18)) (by decide) ?_
  refine g_iconst (v := (nI 3)) C dX6_init_140 (by decide) ?_
  refine n_iast (q0 := 6) (n := 580) (ws' := ((q7, .inl (cy 0, 300, .inl (fun _ => 0))) :: (q6, .inl (cy 1, 1200, .inl (fun _ => 0))) :: (q5, .inl (cy 1, 60, .inl (fun _ => 0))) :: (q4, .inl (cy 0, 580, .inl (fun _ => 0))) :: (q3, .inl (cy 0, 580, .inl (fun _ => 0))) :: (q2, .inl (cy 0, 4640, .inl (fun _ => 0))) :: (q1, .inl (cy 0, 580, .inl (zG6 11))) :: (a, .inr (10, [.int 0, .ref q1, .ref q2, .int 0, .ref q3, .int 0, .ref q4, .int 0, .int 0, .int 0, .ref q5, .int 0, .int (-1 : Int32), .ref q6, .int 0, .int 0, .int 0, .int 0, .int 0, .int 0, .int 0, .int 0, .int 0, .int 0, .int 0, .int 0, .ref q7])) :: E)) C rfl (nI_in (by decide) (by decide)) (by rw [nI_clamp (by decide)]; rfl) dX6_init_141 ?_
  refine g_iinc (k := 0) (L' := [(1, .int (nI 5)), (0, .ref a)]) C dX6_init_142 rfl (by decide) (by decide) rfl ?_
  refine g_goto C dX6_init_145 (tgt := 126) (by decide) ?_
  refine g_iload_n (j := 0) C dX6_init_126 rfl rfl ?_
  refine g_bipush (v := (nI 16)) C dX6_init_127 (by decide) ?_
  refine g_icmp_ge C dX6_init_129 (tgt := 148) (by decide) (fun h9 => absurd h9 (by decide)) (fun _ => ?_)
  refine g_aload_n (j := 1) C dX6_init_132 rfl rfl ?_
  refine p_get (q0 := 7) (k := 1) (ci := 10) (N := 27) (v := .ref q1) C rfl rfl zin_RX6 (by decide) zfl_RX6_9 rfl dX6_init_133 ?_
  refine g_bipush (v := (nI 14)) C dX6_init_136 (by decide) ?_
  refine g_iload_n (j := 0) C dX6_init_138 rfl rfl ?_
  refine g_iadd C dX6_init_139 ?_
  refine p_num (y := (nI 19)) (by decide) ?_
  refine g_iconst (v := (nI 3)) C dX6_init_140 (by decide) ?_
  refine n_iast (q0 := 6) (n := 580) (ws' := ((q7, .inl (cy 0, 300, .inl (fun _ => 0))) :: (q6, .inl (cy 1, 1200, .inl (fun _ => 0))) :: (q5, .inl (cy 1, 60, .inl (fun _ => 0))) :: (q4, .inl (cy 0, 580, .inl (fun _ => 0))) :: (q3, .inl (cy 0, 580, .inl (fun _ => 0))) :: (q2, .inl (cy 0, 4640, .inl (fun _ => 0))) :: (q1, .inl (cy 0, 580, .inl (zG6 12))) :: (a, .inr (10, [.int 0, .ref q1, .ref q2, .int 0, .ref q3, .int 0, .ref q4, .int 0, .int 0, .int 0, .ref q5, .int 0, .int (-1 : Int32), .ref q6, .int 0, .int 0, .int 0, .int 0, .int 0, .int 0, .int 0, .int 0, .int 0, .int 0, .int 0, .int 0, .ref q7])) :: E)) C rfl (nI_in (by decide) (by decide)) (by rw [nI_clamp (by decide)]; rfl) dX6_init_141 ?_
  refine g_iinc (k := 0) (L' := [(1, .int (nI 6)), (0, .ref a)]) C dX6_init_142 rfl (by decide) (by decide) rfl ?_
  refine g_goto C dX6_init_145 (tgt := 126) (by decide) ?_
  refine g_iload_n (j := 0) C dX6_init_126 rfl rfl ?_
  refine g_bipush (v := (nI 16)) C dX6_init_127 (by decide) ?_
  refine g_icmp_ge C dX6_init_129 (tgt := 148) (by decide) (fun h9 => absurd h9 (by decide)) (fun _ => ?_)
  refine g_aload_n (j := 1) C dX6_init_132 rfl rfl ?_
  refine p_get (q0 := 7) (k := 1) (ci := 10) (N := 27) (v := .ref q1) C rfl rfl zin_RX6 (by decide) zfl_RX6_9 rfl dX6_init_133 ?_
  refine g_bipush (v := (nI 14)) C dX6_init_136 (by decide) ?_
  refine g_iload_n (j := 0) C dX6_init_138 rfl rfl ?_
  refine g_iadd C dX6_init_139 ?_
  refine p_num (y := (nI 20)) (by decide) ?_
  refine g_iconst (v := (nI 3)) C dX6_init_140 (by decide) ?_
  refine n_iast (q0 := 6) (n := 580) (ws' := ((q7, .inl (cy 0, 300, .inl (fun _ => 0))) :: (q6, .inl (cy 1, 1200, .inl (fun _ => 0))) :: (q5, .inl (cy 1, 60, .inl (fun _ => 0))) :: (q4, .inl (cy 0, 580, .inl (fun _ => 0))) :: (q3, .inl (cy 0, 580, .inl (fun _ => 0))) :: (q2, .inl (cy 0, 4640, .inl (fun _ => 0))) :: (q1, .inl (cy 0, 580, .inl (zG6 13))) :: (a, .inr (10, [.int 0, .ref q1, .ref q2, .int 0, .ref q3, .int 0, .ref q4, .int 0, .int 0, .int 0, .ref q5, .int 0, .int (-1 : Int32), .ref q6, .int 0, .int 0, .int 0, .int 0, .int 0, .int 0, .int 0, .int 0, .int 0, .int 0, .int 0, .int 0, .ref q7])) :: E)) C rfl (nI_in (by decide) (by decide)) (by rw [nI_clamp (by decide)]; rfl) dX6_init_141 ?_
  refine g_iinc (k := 0) (L' := [(1, .int (nI 7)), (0, .ref a)]) C dX6_init_142 rfl (by decide) (by decide) rfl ?_
  refine g_goto C dX6_init_145 (tgt := 126) (by decide) ?_
  refine g_iload_n (j := 0) C dX6_init_126 rfl rfl ?_
  refine g_bipush (v := (nI 16)) C dX6_init_127 (by decide) ?_
  refine g_icmp_ge C dX6_init_129 (tgt := 148) (by decide) (fun h9 => absurd h9 (by decide)) (fun _ => ?_)
  refine g_aload_n (j := 1) C dX6_init_132 rfl rfl ?_
  refine p_get (q0 := 7) (k := 1) (ci := 10) (N := 27) (v := .ref q1) C rfl rfl zin_RX6 (by decide) zfl_RX6_9 rfl dX6_init_133 ?_
  refine g_bipush (v := (nI 14)) C dX6_init_136 (by decide) ?_
  refine g_iload_n (j := 0) C dX6_init_138 rfl rfl ?_
  refine g_iadd C dX6_init_139 ?_
  refine p_num (y := (nI 21)) (by decide) ?_
  refine g_iconst (v := (nI 3)) C dX6_init_140 (by decide) ?_
  refine n_iast (q0 := 6) (n := 580) (ws' := ((q7, .inl (cy 0, 300, .inl (fun _ => 0))) :: (q6, .inl (cy 1, 1200, .inl (fun _ => 0))) :: (q5, .inl (cy 1, 60, .inl (fun _ => 0))) :: (q4, .inl (cy 0, 580, .inl (fun _ => 0))) :: (q3, .inl (cy 0, 580, .inl (fun _ => 0))) :: (q2, .inl (cy 0, 4640, .inl (fun _ => 0))) :: (q1, .inl (cy 0, 580, .inl (zG6 14))) :: (a, .inr (10, [.int 0, .ref q1, .ref q2, .int 0, .ref q3, .int 0, .ref q4, .int 0, .int 0, .int 0, .ref q5, .int 0, .int (-1 : Int32), .ref q6, .int 0, .int 0, .int 0, .int 0, .int 0, .int 0, .int 0, .int 0, .int 0, .int 0, .int 0, .int 0, .ref q7])) :: E)) C rfl (nI_in (by decide) (by decide)) (by rw [nI_clamp (by decide)]; rfl) dX6_init_141 ?_
  refine g_iinc (k := 0) (L' := [(1, .int (nI 8)), (0, .ref a)]) C dX6_init_142 rfl (by decide) (by decide) rfl ?_
  refine g_goto C dX6_init_145 (tgt := 126) (by decide) ?_
  refine g_iload_n (j := 0) C dX6_init_126 rfl rfl ?_
  refine g_bipush (v := (nI 16)) C dX6_init_127 (by decide) ?_
  refine g_icmp_ge C dX6_init_129 (tgt := 148) (by decide) (fun h9 => absurd h9 (by decide)) (fun _ => ?_)
  refine g_aload_n (j := 1) C dX6_init_132 rfl rfl ?_
  refine p_get (q0 := 7) (k := 1) (ci := 10) (N := 27) (v := .ref q1) C rfl rfl zin_RX6 (by decide) zfl_RX6_9 rfl dX6_init_133 ?_
  refine g_bipush (v := (nI 14)) C dX6_init_136 (by decide) ?_
  refine g_iload_n (j := 0) C dX6_init_138 rfl rfl ?_
  refine g_iadd C dX6_init_139 ?_
  refine p_num (y := (nI 22)) (by decide) ?_
  refine g_iconst (v := (nI 3)) C dX6_init_140 (by decide) ?_
  refine n_iast (q0 := 6) (n := 580) (ws' := ((q7, .inl (cy 0, 300, .inl (fun _ => 0))) :: (q6, .inl (cy 1, 1200, .inl (fun _ => 0))) :: (q5, .inl (cy 1, 60, .inl (fun _ => 0))) :: (q4, .inl (cy 0, 580, .inl (fun _ => 0))) :: (q3, .inl (cy 0, 580, .inl (fun _ => 0))) :: (q2, .inl (cy 0, 4640, .inl (fun _ => 0))) :: (q1, .inl (cy 0, 580, .inl (zG6 15))) :: (a, .inr (10, [.int 0, .ref q1, .ref q2, .int 0, .ref q3, .int 0, .ref q4, .int 0, .int 0, .int 0, .ref q5, .int 0, .int (-1 : Int32), .ref q6, .int 0, .int 0, .int 0, .int 0, .int 0, .int 0, .int 0, .int 0, .int 0, .int 0, .int 0, .int 0, .ref q7])) :: E)) C rfl (nI_in (by decide) (by decide)) (by rw [nI_clamp (by decide)]; rfl) dX6_init_141 ?_
  refine g_iinc (k := 0) (L' := [(1, .int (nI 9)), (0, .ref a)]) C dX6_init_142 rfl (by decide) (by decide) rfl ?_
  refine g_goto C dX6_init_145 (tgt := 126) (by decide) ?_
  refine g_iload_n (j := 0) C dX6_init_126 rfl rfl ?_
  refine g_bipush (v := (nI 16)) C dX6_init_127 (by decide) ?_
  refine g_icmp_ge C dX6_init_129 (tgt := 148) (by decide) (fun h9 => absurd h9 (by decide)) (fun _ => ?_)
  refine g_aload_n (j := 1) C dX6_init_132 rfl rfl ?_
  refine p_get (q0 := 7) (k := 1) (ci := 10) (N := 27) (v := .ref q1) C rfl rfl zin_RX6 (by decide) zfl_RX6_9 rfl dX6_init_133 ?_
  refine g_bipush (v := (nI 14)) C dX6_init_136 (by decide) ?_
  refine g_iload_n (j := 0) C dX6_init_138 rfl rfl ?_
  refine g_iadd C dX6_init_139 ?_
  refine p_num (y := (nI 23)) (by decide) ?_
  refine g_iconst (v := (nI 3)) C dX6_init_140 (by decide) ?_
  refine n_iast (q0 := 6) (n := 580) (ws' := ((q7, .inl (cy 0, 300, .inl (fun _ => 0))) :: (q6, .inl (cy 1, 1200, .inl (fun _ => 0))) :: (q5, .inl (cy 1, 60, .inl (fun _ => 0))) :: (q4, .inl (cy 0, 580, .inl (fun _ => 0))) :: (q3, .inl (cy 0, 580, .inl (fun _ => 0))) :: (q2, .inl (cy 0, 4640, .inl (fun _ => 0))) :: (q1, .inl (cy 0, 580, .inl (zG6 16))) :: (a, .inr (10, [.int 0, .ref q1, .ref q2, .int 0, .ref q3, .int 0, .ref q4, .int 0, .int 0, .int 0, .ref q5, .int 0, .int (-1 : Int32), .ref q6, .int 0, .int 0, .int 0, .int 0, .int 0, .int 0, .int 0, .int 0, .int 0, .int 0, .int 0, .int 0, .ref q7])) :: E)) C rfl (nI_in (by decide) (by decide)) (by rw [nI_clamp (by decide)]; rfl) dX6_init_141 ?_
  refine g_iinc (k := 0) (L' := [(1, .int (nI 10)), (0, .ref a)]) C dX6_init_142 rfl (by decide) (by decide) rfl ?_
  refine g_goto C dX6_init_145 (tgt := 126) (by decide) ?_
  refine g_iload_n (j := 0) C dX6_init_126 rfl rfl ?_
  refine g_bipush (v := (nI 16)) C dX6_init_127 (by decide) ?_
  refine g_icmp_ge C dX6_init_129 (tgt := 148) (by decide) (fun h9 => absurd h9 (by decide)) (fun _ => ?_)
  refine g_aload_n (j := 1) C dX6_init_132 rfl rfl ?_
  refine p_get (q0 := 7) (k := 1) (ci := 10) (N := 27) (v := .ref q1) C rfl rfl zin_RX6 (by decide) zfl_RX6_9 rfl dX6_init_133 ?_
  refine g_bipush (v := (nI 14)) C dX6_init_136 (by decide) ?_
  refine g_iload_n (j := 0) C dX6_init_138 rfl rfl ?_
  refine g_iadd C dX6_init_139 ?_
  refine p_num (y := (nI 24)) (by decide) ?_
  refine g_iconst (v := (nI 3)) C dX6_init_140 (by decide) ?_
  refine n_iast (q0 := 6) (n := 580) (ws' := ((q7, .inl (cy 0, 300, .inl (fun _ => 0))) :: (q6, .inl (cy 1, 1200, .inl (fun _ => 0))) :: (q5, .inl (cy 1, 60, .inl (fun _ => 0))) :: (q4, .inl (cy 0, 580, .inl (fun _ => 0))) :: (q3, .inl (cy 0, 580, .inl (fun _ => 0))) :: (q2, .inl (cy 0, 4640, .inl (fun _ => 0))) :: (q1, .inl (cy 0, 580, .inl (zG6 17))) :: (a, .inr (10, [.int 0, .ref q1, .ref q2, .int 0, .ref q3, .int 0, .ref q4, .int 0, .int 0, .int 0, .ref q5, .int 0, .int (-1 : Int32), .ref q6, .int 0, .int 0, .int 0, .int 0, .int 0, .int 0, .int 0, .int 0, .int 0, .int 0, .int 0, .int 0, .ref q7])) :: E)) C rfl (nI_in (by decide) (by decide)) (by rw [nI_clamp (by decide)]; rfl) dX6_init_141 ?_
  refine g_iinc (k := 0) (L' := [(1, .int (nI 11)), (0, .ref a)]) C dX6_init_142 rfl (by decide) (by decide) rfl ?_
  refine g_goto C dX6_init_145 (tgt := 126) (by decide) ?_
  refine g_iload_n (j := 0) C dX6_init_126 rfl rfl ?_
  refine g_bipush (v := (nI 16)) C dX6_init_127 (by decide) ?_
  refine g_icmp_ge C dX6_init_129 (tgt := 148) (by decide) (fun h9 => absurd h9 (by decide)) (fun _ => ?_)
  refine g_aload_n (j := 1) C dX6_init_132 rfl rfl ?_
  refine p_get (q0 := 7) (k := 1) (ci := 10) (N := 27) (v := .ref q1) C rfl rfl zin_RX6 (by decide) zfl_RX6_9 rfl dX6_init_133 ?_
  refine g_bipush (v := (nI 14)) C dX6_init_136 (by decide) ?_
  refine g_iload_n (j := 0) C dX6_init_138 rfl rfl ?_
  refine g_iadd C dX6_init_139 ?_
  refine p_num (y := (nI 25)) (by decide) ?_
  refine g_iconst (v := (nI 3)) C dX6_init_140 (by decide) ?_
  refine n_iast (q0 := 6) (n := 580) (ws' := ((q7, .inl (cy 0, 300, .inl (fun _ => 0))) :: (q6, .inl (cy 1, 1200, .inl (fun _ => 0))) :: (q5, .inl (cy 1, 60, .inl (fun _ => 0))) :: (q4, .inl (cy 0, 580, .inl (fun _ => 0))) :: (q3, .inl (cy 0, 580, .inl (fun _ => 0))) :: (q2, .inl (cy 0, 4640, .inl (fun _ => 0))) :: (q1, .inl (cy 0, 580, .inl (zG6 18))) :: (a, .inr (10, [.int 0, .ref q1, .ref q2, .int 0, .ref q3, .int 0, .ref q4, .int 0, .int 0, .int 0, .ref q5, .int 0, .int (-1 : Int32), .ref q6, .int 0, .int 0, .int 0, .int 0, .int 0, .int 0, .int 0, .int 0, .int 0, .int 0, .int 0, .int 0, .ref q7])) :: E)) C rfl (nI_in (by decide) (by decide)) (by rw [nI_clamp (by decide)]; rfl) dX6_init_141 ?_
  refine g_iinc (k := 0) (L' := [(1, .int (nI 12)), (0, .ref a)]) C dX6_init_142 rfl (by decide) (by decide) rfl ?_
  refine g_goto C dX6_init_145 (tgt := 126) (by decide) ?_
  refine g_iload_n (j := 0) C dX6_init_126 rfl rfl ?_
  refine g_bipush (v := (nI 16)) C dX6_init_127 (by decide) ?_
  refine g_icmp_ge C dX6_init_129 (tgt := 148) (by decide) (fun h9 => absurd h9 (by decide)) (fun _ => ?_)
  refine g_aload_n (j := 1) C dX6_init_132 rfl rfl ?_
  refine p_get (q0 := 7) (k := 1) (ci := 10) (N := 27) (v := .ref q1) C rfl rfl zin_RX6 (by decide) zfl_RX6_9 rfl dX6_init_133 ?_
  refine g_bipush (v := (nI 14)) C dX6_init_136 (by decide) ?_
  refine g_iload_n (j := 0) C dX6_init_138 rfl rfl ?_
  refine g_iadd C dX6_init_139 ?_
  refine p_num (y := (nI 26)) (by decide) ?_
  refine g_iconst (v := (nI 3)) C dX6_init_140 (by decide) ?_
  refine n_iast (q0 := 6) (n := 580) (ws' := ((q7, .inl (cy 0, 300, .inl (fun _ => 0))) :: (q6, .inl (cy 1, 1200, .inl (fun _ => 0))) :: (q5, .inl (cy 1, 60, .inl (fun _ => 0))) :: (q4, .inl (cy 0, 580, .inl (fun _ => 0))) :: (q3, .inl (cy 0, 580, .inl (fun _ => 0))) :: (q2, .inl (cy 0, 4640, .inl (fun _ => 0))) :: (q1, .inl (cy 0, 580, .inl (zG6 19))) :: (a, .inr (10, [.int 0, .ref q1, .ref q2, .int 0, .ref q3, .int 0, .ref q4, .int 0, .int 0, .int 0, .ref q5, .int 0, .int (-1 : Int32), .ref q6, .int 0, .int 0, .int 0, .int 0, .int 0, .int 0, .int 0, .int 0, .int 0, .int 0, .int 0, .int 0, .ref q7])) :: E)) C rfl (nI_in (by decide) (by decide)) (by rw [nI_clamp (by decide)]; rfl) dX6_init_141 ?_
  refine g_iinc (k := 0) (L' := [(1, .int (nI 13)), (0, .ref a)]) C dX6_init_142 rfl (by decide) (by decide) rfl ?_
  refine g_goto C dX6_init_145 (tgt := 126) (by decide) ?_
  refine g_iload_n (j := 0) C dX6_init_126 rfl rfl ?_
  refine g_bipush (v := (nI 16)) C dX6_init_127 (by decide) ?_
  refine g_icmp_ge C dX6_init_129 (tgt := 148) (by decide) (fun h9 => absurd h9 (by decide)) (fun _ => ?_)
  refine g_aload_n (j := 1) C dX6_init_132 rfl rfl ?_
  refine p_get (q0 := 7) (k := 1) (ci := 10) (N := 27) (v := .ref q1) C rfl rfl zin_RX6 (by decide) zfl_RX6_9 rfl dX6_init_133 ?_
  refine g_bipush (v := (nI 14)) C dX6_init_136 (by decide) ?_
  refine g_iload_n (j := 0) C dX6_init_138 rfl rfl ?_
  refine g_iadd C dX6_init_139 ?_
  refine p_num (y := (nI 27)) (by decide) ?_
  refine g_iconst (v := (nI 3)) C dX6_init_140 (by decide) ?_
  refine n_iast (q0 := 6) (n := 580) (ws' := ((q7, .inl (cy 0, 300, .inl (fun _ => 0))) :: (q6, .inl (cy 1, 1200, .inl (fun _ => 0))) :: (q5, .inl (cy 1, 60, .inl (fun _ => 0))) :: (q4, .inl (cy 0, 580, .inl (fun _ => 0))) :: (q3, .inl (cy 0, 580, .inl (fun _ => 0))) :: (q2, .inl (cy 0, 4640, .inl (fun _ => 0))) :: (q1, .inl (cy 0, 580, .inl (zG6 20))) :: (a, .inr (10, [.int 0, .ref q1, .ref q2, .int 0, .ref q3, .int 0, .ref q4, .int 0, .int 0, .int 0, .ref q5, .int 0, .int (-1 : Int32), .ref q6, .int 0, .int 0, .int 0, .int 0, .int 0, .int 0, .int 0, .int 0, .int 0, .int 0, .int 0, .int 0, .ref q7])) :: E)) C rfl (nI_in (by decide) (by decide)) (by rw [nI_clamp (by decide)]; rfl) dX6_init_141 ?_
  refine g_iinc (k := 0) (L' := [(1, .int (nI 14)), (0, .ref a)]) C dX6_init_142 rfl (by decide) (by decide) rfl ?_
  refine g_goto C dX6_init_145 (tgt := 126) (by decide) ?_
  refine g_iload_n (j := 0) C dX6_init_126 rfl rfl ?_
  refine g_bipush (v := (nI 16)) C dX6_init_127 (by decide) ?_
  refine g_icmp_ge C dX6_init_129 (tgt := 148) (by decide) (fun h9 => absurd h9 (by decide)) (fun _ => ?_)
  refine g_aload_n (j := 1) C dX6_init_132 rfl rfl ?_
  refine p_get (q0 := 7) (k := 1) (ci := 10) (N := 27) (v := .ref q1) C rfl rfl zin_RX6 (by decide) zfl_RX6_9 rfl dX6_init_133 ?_
  refine g_bipush (v := (nI 14)) C dX6_init_136 (by decide) ?_
  refine g_iload_n (j := 0) C dX6_init_138 rfl rfl ?_
  refine g_iadd C dX6_init_139 ?_
  refine p_num (y := (nI 28)) (by decide) ?_
  refine g_iconst (v := (nI 3)) C dX6_init_140 (by decide) ?_
  refine n_iast (q0 := 6) (n := 580) (ws' := ((q7, .inl (cy 0, 300, .inl (fun _ => 0))) :: (q6, .inl (cy 1, 1200, .inl (fun _ => 0))) :: (q5, .inl (cy 1, 60, .inl (fun _ => 0))) :: (q4, .inl (cy 0, 580, .inl (fun _ => 0))) :: (q3, .inl (cy 0, 580, .inl (fun _ => 0))) :: (q2, .inl (cy 0, 4640, .inl (fun _ => 0))) :: (q1, .inl (cy 0, 580, .inl (zG6 21))) :: (a, .inr (10, [.int 0, .ref q1, .ref q2, .int 0, .ref q3, .int 0, .ref q4, .int 0, .int 0, .int 0, .ref q5, .int 0, .int (-1 : Int32), .ref q6, .int 0, .int 0, .int 0, .int 0, .int 0, .int 0, .int 0, .int 0, .int 0, .int 0, .int 0, .int 0, .ref q7])) :: E)) C rfl (nI_in (by decide) (by decide)) (by rw [nI_clamp (by decide)]; rfl) dX6_init_141 ?_
  refine g_iinc (k := 0) (L' := [(1, .int (nI 15)), (0, .ref a)]) C dX6_init_142 rfl (by decide) (by decide) rfl ?_
  refine g_goto C dX6_init_145 (tgt := 126) (by decide) ?_
  refine g_iload_n (j := 0) C dX6_init_126 rfl rfl ?_
  refine g_bipush (v := (nI 16)) C dX6_init_127 (by decide) ?_
  refine g_icmp_ge C dX6_init_129 (tgt := 148) (by decide) (fun h9 => absurd h9 (by decide)) (fun _ => ?_)
  refine g_aload_n (j := 1) C dX6_init_132 rfl rfl ?_
  refine p_get (q0 := 7) (k := 1) (ci := 10) (N := 27) (v := .ref q1) C rfl rfl zin_RX6 (by decide) zfl_RX6_9 rfl dX6_init_133 ?_
  refine g_bipush (v := (nI 14)) C dX6_init_136 (by decide) ?_
  refine g_iload_n (j := 0) C dX6_init_138 rfl rfl ?_
  refine g_iadd C dX6_init_139 ?_
  refine p_num (y := (nI 29)) (by decide) ?_
  refine g_iconst (v := (nI 3)) C dX6_init_140 (by decide) ?_
  refine n_iast (q0 := 6) (n := 580) (ws' := ((q7, .inl (cy 0, 300, .inl (fun _ => 0))) :: (q6, .inl (cy 1, 1200, .inl (fun _ => 0))) :: (q5, .inl (cy 1, 60, .inl (fun _ => 0))) :: (q4, .inl (cy 0, 580, .inl (fun _ => 0))) :: (q3, .inl (cy 0, 580, .inl (fun _ => 0))) :: (q2, .inl (cy 0, 4640, .inl (fun _ => 0))) :: (q1, .inl (cy 0, 580, .inl (zG6 22))) :: (a, .inr (10, [.int 0, .ref q1, .ref q2, .int 0, .ref q3, .int 0, .ref q4, .int 0, .int 0, .int 0, .ref q5, .int 0, .int (-1 : Int32), .ref q6, .int 0, .int 0, .int 0, .int 0, .int 0, .int 0, .int 0, .int 0, .int 0, .int 0, .int 0, .int 0, .ref q7])) :: E)) C rfl (nI_in (by decide) (by decide)) (by rw [nI_clamp (by decide)]; rfl) dX6_init_141 ?_
  refine g_iinc (k := 0) (L' := [(1, .int (nI 16)), (0, .ref a)]) C dX6_init_142 rfl (by decide) (by decide) rfl ?_
  refine g_goto C dX6_init_145 (tgt := 126) (by decide) ?_
  refine g_iload_n (j := 0) C dX6_init_126 rfl rfl ?_
  refine g_bipush (v := (nI 16)) C dX6_init_127 (by decide) ?_
  refine g_icmp_ge C dX6_init_129 (tgt := 148) (by decide) (fun _ => ?_) (fun h9 => absurd (by decide) h9)
  refine zG.less (ws' := zW cy (fun r => ([a, q1, q2, q3, q4, q5, q6, q7] : List Nat).getD r 0) shM E zY0) (l' := ((q7, .inl (cy 0, 300, .inl (fun _ => 0))) :: (q6, .inl (cy 1, 1200, .inl (fun _ => 0))) :: (q5, .inl (cy 1, 60, .inl (fun _ => 0))) :: (q4, .inl (cy 0, 580, .inl (fun _ => 0))) :: (q3, .inl (cy 0, 580, .inl (fun _ => 0))) :: (q2, .inl (cy 0, 4640, .inl (fun _ => 0))) :: (q1, .inl (cy 0, 580, .inl (zG6 22))) :: (a, .inr (10, [.int 0, .ref q1, .ref q2, .int 0, .ref q3, .int 0, .ref q4, .int 0, .int 0, .int 0, .ref q5, .int 0, .int (-1 : Int32), .ref q6, .int 0, .int 0, .int 0, .int 0, .int 0, .int 0, .int 0, .int 0, .int 0, .int 0, .int 0, .int 0, .ref q7])) :: E)) ((List.reverse_perm (z_rend cy (fun r => ([a, q1, q2, q3, q4, q5, q6, q7] : List Nat).getD r 0) zY0 0 shM)).symm.append_right E) (List.Sublist.refl _) ?_
  exact t_vret C hr ⟨(fun r => ([a, q1, q2, q3, q4, q5, q6, q7] : List Nat).getD r 0), rfl, rfl⟩ (Nat.le_of_ble_eq_true rfl) (Nat.le_of_ble_eq_true rfl) dX6_init_148
