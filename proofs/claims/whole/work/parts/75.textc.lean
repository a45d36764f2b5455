/-! APPENDING NUMBERS (laid by wip/whole/mktext.py) -/
theorem zdg1 {v : Nat} (h : v < 10) : sb_dg v = 1 := if_pos h
theorem zdg2 {v : Nat} (h : ¬ v < 10) (h2 : v < 100) : sb_dg v = 2 := by unfold sb_dg; rw [if_neg h, if_pos h2]
theorem zdg3 {v : Nat} (h : ¬ v < 10) (h2 : ¬ v < 100) (h3 : v < 1000) : sb_dg v = 3 := by unfold sb_dg; rw [if_neg h, if_neg h2, if_pos h3]
theorem zdec1 {v : Nat} (h : sb_dg v = 1) : sb_dec v 0 = 48 + v % 10 := by
  show 48 + v / 10 ^ (sb_dg v - 1 - 0) % 10 = _
  rw [h]
  show 48 + v / 1 % 10 = _
  rw [Nat.div_one]
theorem zdec2 {v : Nat} (h : sb_dg v = 2) : sb_dec v 0 = 48 + v / 10 % 10 ∧ sb_dec v 1 = 48 + v % 10 := by
  refine ⟨?_, ?_⟩
  · show 48 + v / 10 ^ (sb_dg v - 1 - 0) % 10 = _
    rw [h]
  · show 48 + v / 10 ^ (sb_dg v - 1 - 1) % 10 = _
    rw [h]
    show 48 + v / 1 % 10 = _
    rw [Nat.div_one]
theorem zdec3 {v : Nat} (h : sb_dg v = 3) : sb_dec v 0 = 48 + v / 100 % 10 ∧ sb_dec v 1 = 48 + v / 10 % 10 ∧ sb_dec v 2 = 48 + v % 10 := by
  refine ⟨?_, ?_, ?_⟩
  · show 48 + v / 10 ^ (sb_dg v - 1 - 0) % 10 = _
    rw [h]
  · show 48 + v / 10 ^ (sb_dg v - 1 - 1) % 10 = _
    rw [h]
  · show 48 + v / 10 ^ (sb_dg v - 1 - 2) % 10 = _
    rw [h]
    show 48 + v / 1 % 10 = _
    rw [Nat.div_one]
theorem zdg4 {v : Nat} (h : ¬ v < 10) (h2 : ¬ v < 100) (h3 : ¬ v < 1000) (h4 : v < 10000) : sb_dg v = 4 := by unfold sb_dg; rw [if_neg h, if_neg h2, if_neg h3, if_pos h4]
theorem zdec4 {v : Nat} (h : sb_dg v = 4) : sb_dec v 0 = 48 + v / 1000 % 10 ∧ sb_dec v 1 = 48 + v / 100 % 10 ∧ sb_dec v 2 = 48 + v / 10 % 10 ∧ sb_dec v 3 = 48 + v % 10 := by
  refine ⟨?_, ?_, ?_, ?_⟩
  · show 48 + v / 10 ^ (sb_dg v - 1 - 0) % 10 = _
    rw [h]
  · show 48 + v / 10 ^ (sb_dg v - 1 - 1) % 10 = _
    rw [h]
  · show 48 + v / 10 ^ (sb_dg v - 1 - 2) % 10 = _
    rw [h]
  · show 48 + v / 10 ^ (sb_dg v - 1 - 3) % 10 = _
    rw [h]
    show 48 + v / 1 % 10 = _
    rw [Nat.div_one]
/-- the digits of v stand at k -/
def zDig (f f2 : Nat → Int32) (k v : Nat) : Prop := (∀ j, j < k → f2 j = f j) ∧ (∀ i, i < sb_dg v → sb_dec v i < 256 ∧ f2 (k + i) = sb_b (sb_dec v i)) ∧ (sb_Fit f → sb_Fit f2)
theorem zDig1 {f : Nat → Int32} {k v : Nat} (h : v < 10) : zDig f (upd f k (sb_b (48 + v % 10))) k v := by
  refine ⟨fun j hj => pk_un (by omega), fun i hi => ?_, fun hf => sb_fitU hf (sb_fitB _)⟩
  rw [zdg1 h] at hi
  obtain rfl : i = 0 := by omega
  rw [zdec1 (zdg1 h), Nat.add_zero, pk_us]
  exact ⟨by omega, rfl⟩
theorem zDig2 {f : Nat → Int32} {k v : Nat} (h : ¬ v < 10) (h2 : v < 100) : zDig f (upd (upd f (k + 1) (sb_b (48 + v % 10))) k (sb_b (48 + v / 10))) k v := by
  refine ⟨fun j hj => by rw [pk_un (by omega), pk_un (by omega)], fun i hi => ?_, fun hf => sb_fitU (sb_fitU hf (sb_fitB _)) (sb_fitB _)⟩
  have hd := zdg2 h h2
  obtain ⟨d0, d1⟩ := zdec2 hd
  rw [hd] at hi
  match i, hi with
  | 0, _ => show _ ∧ upd _ k _ k = _; rw [d0, pk_us, show v / 10 % 10 = v / 10 by omega]; exact ⟨by omega, rfl⟩
  | 1, _ => rw [d1, pk_un (by omega), pk_us]; exact ⟨by omega, rfl⟩
theorem zDig3 {f : Nat → Int32} {k v : Nat} (h : ¬ v < 10) (h2 : ¬ v < 100) (h3 : v < 1000) : zDig f (upd (upd (upd f (k + 2) (sb_b (48 + v % 100 % 10))) (k + 1) (sb_b (48 + v % 100 / 10))) k (sb_b (48 + v / 100 % 10))) k v := by
  refine ⟨fun j hj => by rw [pk_un (by omega), pk_un (by omega), pk_un (by omega)], fun i hi => ?_, fun hf => sb_fitU (sb_fitU (sb_fitU hf (sb_fitB _)) (sb_fitB _)) (sb_fitB _)⟩
  have hd := zdg3 h h2 h3
  obtain ⟨d0, d1, d2⟩ := zdec3 hd
  rw [hd] at hi
  match i, hi with
  | 0, _ => show _ ∧ upd _ k _ k = _; rw [d0, pk_us]; exact ⟨by omega, rfl⟩
  | 1, _ => rw [d1, pk_un (by omega), pk_us, show v % 100 / 10 = v / 10 % 10 by omega]; exact ⟨by omega, rfl⟩
  | 2, _ => rw [d2, pk_un (by omega), pk_un (by omega), pk_us, show v % 100 % 10 = v % 10 by omega]; exact ⟨by omega, rfl⟩
theorem zDig4 {f : Nat → Int32} {k v : Nat} (h : ¬ v < 10) (h2 : ¬ v < 100) (h3 : ¬ v < 1000) (h4 : v < 10000) : zDig f (upd (upd (upd (upd f (k + 3) (sb_b (48 + v % 100 % 10))) (k + 2) (sb_b (48 + v % 100 / 10))) (k + 1) (sb_b (48 + v / 100 % 10))) k (sb_b (48 + v / 100 / 10))) k v := by
  refine ⟨fun j hj => by rw [pk_un (by omega), pk_un (by omega), pk_un (by omega), pk_un (by omega)], fun i hi => ?_, fun hf => sb_fitU (sb_fitU (sb_fitU (sb_fitU hf (sb_fitB _)) (sb_fitB _)) (sb_fitB _)) (sb_fitB _)⟩
  have hd := zdg4 h h2 h3 h4
  obtain ⟨d0, d1, d2, d3⟩ := zdec4 hd
  rw [hd] at hi
  match i, hi with
  | 0, _ => show _ ∧ upd _ k _ k = _; rw [d0, pk_us, show v / 100 / 10 = v / 1000 % 10 by omega]; exact ⟨by omega, rfl⟩
  | 1, _ => rw [d1, pk_un (by omega), pk_us]; exact ⟨by omega, rfl⟩
  | 2, _ => rw [d2, pk_un (by omega), pk_un (by omega), pk_us, show v % 100 / 10 = v / 10 % 10 by omega]; exact ⟨by omega, rfl⟩
  | 3, _ => rw [d3, pk_un (by omega), pk_un (by omega), pk_un (by omega), pk_us, show v % 100 % 10 = v % 10 by omega]; exact ⟨by omega, rfl⟩
set_option maxRecDepth 100000 in
set_option maxHeartbeats 4000000 in
theorem c_strSize (l : Launch) (D : va_G) (cy : Nat → ClassId) (ws : va_W) (v : Nat) (hv : v < 10000) : zMt l yJ6_stringSize_0f7a4 cJ6_stringSize_0f7a4 4 (some .int) (zrt 1 0 0) D (zTy cy) zEn ws [.int (nI v)] 0 0 (tI D (zTy cy) (fun r w => r = nI (sb_dg v) ∧ w = ws)) := by
  refine zMt.of (by decide) (Nat.le_of_ble_eq_true rfl) ?_
  intro p e s m below meth c A C hr hE
  refine zG_L (L' := [(0, .int (nI v))]) rfl ?_
  by_cases c1 : v < 10
  · rw [zdg1 c1]
    refine g_iconst (v := (nI 1)) C dJ6_stringSize_0f7a4_0 (by decide) ?_
    refine g_istore_n (L' := [(1, .int (nI 1)), (0, .int (nI v))]) C dJ6_stringSize_0f7a4_1 rfl (by decide) rfl ?_
    refine g_iload_n (j := 1) C dJ6_stringSize_0f7a4_2 rfl rfl ?_
    refine g_if_lt C dJ6_stringSize_0f7a4_3 (tgt := 11) (by decide) (fun h9 => absurd h9 (nI_pos (by omega))) (fun _ => ?_)
    refine g_iconst (v := (nI 0)) C dJ6_stringSize_0f7a4_6 (by decide) ?_
    refine g_istore_n (L' := [(1, .int (nI 0)), (0, .int (nI v))]) C dJ6_stringSize_0f7a4_7 rfl (by decide) rfl ?_
    refine g_iload_n (j := 1) C dJ6_stringSize_0f7a4_8 rfl rfl ?_
    refine g_ineg C dJ6_stringSize_0f7a4_9 ?_
    refine g_istore_n (L' := [(0, .int (-(nI v))), (1, .int (nI 0))]) C dJ6_stringSize_0f7a4_10 rfl (by decide) rfl ?_
    refine g_bipush (v := (-10 : Int32)) C dJ6_stringSize_0f7a4_11 (by decide) ?_
    refine g_istore_n (L' := [(2, .int (-10 : Int32)), (0, .int (-(nI v))), (1, .int (nI 0))]) C dJ6_stringSize_0f7a4_13 rfl (by decide) rfl ?_
    refine g_iconst (v := (nI 1)) C dJ6_stringSize_0f7a4_14 (by decide) ?_
    refine g_istore_n (L' := [(3, .int (nI 1)), (2, .int (-10 : Int32)), (0, .int (-(nI v))), (1, .int (nI 0))]) C dJ6_stringSize_0f7a4_15 rfl (by decide) rfl ?_
    refine g_iload_n (j := 0) C dJ6_stringSize_0f7a4_16 rfl rfl ?_
    refine g_bipush (v := (nI 10)) C dJ6_stringSize_0f7a4_17 (by decide) ?_
    refine g_icmp_ge C dJ6_stringSize_0f7a4_19 (tgt := 42) (by decide) (fun h9 => absurd h9 (by decide)) (fun _ => ?_)
    refine g_iload_n (j := 2) C dJ6_stringSize_0f7a4_22 rfl rfl ?_
    refine g_iload_n (j := 1) C dJ6_stringSize_0f7a4_23 rfl rfl ?_
    refine g_icmp_le C dJ6_stringSize_0f7a4_24 (tgt := 31) (by decide) (fun h9 => absurd h9 (fun h9 => by have := (sb_nle (by omega) (by decide)).mp (show -nI v ≤ -nI 10 from h9); omega)) (fun _ => ?_)
    refine g_iload_n (j := 0) C dJ6_stringSize_0f7a4_27 rfl rfl ?_
    refine g_iload_n (j := 3) C dJ6_stringSize_0f7a4_28 rfl rfl ?_
    refine g_iadd C dJ6_stringSize_0f7a4_29 ?_
    refine p_num (y := (nI 1)) (by decide) ?_
    exact t_iret C hr rfl ⟨rfl, rfl⟩ (Nat.le_refl _) (Nat.le_refl _) dJ6_stringSize_0f7a4_30
  by_cases c2 : v < 100
  · rw [zdg2 c1 c2]
    refine g_iconst (v := (nI 1)) C dJ6_stringSize_0f7a4_0 (by decide) ?_
    refine g_istore_n (L' := [(1, .int (nI 1)), (0, .int (nI v))]) C dJ6_stringSize_0f7a4_1 rfl (by decide) rfl ?_
    refine g_iload_n (j := 1) C dJ6_stringSize_0f7a4_2 rfl rfl ?_
    refine g_if_lt C dJ6_stringSize_0f7a4_3 (tgt := 11) (by decide) (fun h9 => absurd h9 (nI_pos (by omega))) (fun _ => ?_)
    refine g_iconst (v := (nI 0)) C dJ6_stringSize_0f7a4_6 (by decide) ?_
    refine g_istore_n (L' := [(1, .int (nI 0)), (0, .int (nI v))]) C dJ6_stringSize_0f7a4_7 rfl (by decide) rfl ?_
    refine g_iload_n (j := 1) C dJ6_stringSize_0f7a4_8 rfl rfl ?_
    refine g_ineg C dJ6_stringSize_0f7a4_9 ?_
    refine g_istore_n (L' := [(0, .int (-(nI v))), (1, .int (nI 0))]) C dJ6_stringSize_0f7a4_10 rfl (by decide) rfl ?_
    refine g_bipush (v := (-10 : Int32)) C dJ6_stringSize_0f7a4_11 (by decide) ?_
    refine g_istore_n (L' := [(2, .int (-10 : Int32)), (0, .int (-(nI v))), (1, .int (nI 0))]) C dJ6_stringSize_0f7a4_13 rfl (by decide) rfl ?_
    refine g_iconst (v := (nI 1)) C dJ6_stringSize_0f7a4_14 (by decide) ?_
    refine g_istore_n (L' := [(3, .int (nI 1)), (2, .int (-10 : Int32)), (0, .int (-(nI v))), (1, .int (nI 0))]) C dJ6_stringSize_0f7a4_15 rfl (by decide) rfl ?_
    refine g_iload_n (j := 0) C dJ6_stringSize_0f7a4_16 rfl rfl ?_
    refine g_bipush (v := (nI 10)) C dJ6_stringSize_0f7a4_17 (by decide) ?_
    refine g_icmp_ge C dJ6_stringSize_0f7a4_19 (tgt := 42) (by decide) (fun h9 => absurd h9 (by decide)) (fun _ => ?_)
    refine g_iload_n (j := 2) C dJ6_stringSize_0f7a4_22 rfl rfl ?_
    refine g_iload_n (j := 1) C dJ6_stringSize_0f7a4_23 rfl rfl ?_
    refine g_icmp_le C dJ6_stringSize_0f7a4_24 (tgt := 31) (by decide) (fun _ => ?_) (fun h9 => absurd (show -nI v ≤ -nI 10 from (sb_nle (by omega) (by decide)).mpr (by omega)) h9)
    refine g_bipush (v := (nI 10)) C dJ6_stringSize_0f7a4_31 (by decide) ?_
    refine g_iload_n (j := 1) C dJ6_stringSize_0f7a4_33 rfl rfl ?_
    refine g_imul C dJ6_stringSize_0f7a4_34 ?_
    refine p_num (y := (-100 : Int32)) (by decide) ?_
    refine g_istore_n (L' := [(2, .int (-100 : Int32)), (3, .int (nI 1)), (0, .int (-(nI v))), (1, .int (nI 0))]) C dJ6_stringSize_0f7a4_35 rfl (by decide) rfl ?_
    refine g_iinc (k := 1) (L' := [(3, .int (nI 2)), (2, .int (-100 : Int32)), (0, .int (-(nI v))), (1, .int (nI 0))]) C dJ6_stringSize_0f7a4_36 rfl (by decide) (by decide) rfl ?_
    refine g_goto C dJ6_stringSize_0f7a4_39 (tgt := 16) (by decide) ?_
    refine g_iload_n (j := 0) C dJ6_stringSize_0f7a4_16 rfl rfl ?_
    refine g_bipush (v := (nI 10)) C dJ6_stringSize_0f7a4_17 (by decide) ?_
    refine g_icmp_ge C dJ6_stringSize_0f7a4_19 (tgt := 42) (by decide) (fun h9 => absurd h9 (by decide)) (fun _ => ?_)
    refine g_iload_n (j := 2) C dJ6_stringSize_0f7a4_22 rfl rfl ?_
    refine g_iload_n (j := 1) C dJ6_stringSize_0f7a4_23 rfl rfl ?_
    refine g_icmp_le C dJ6_stringSize_0f7a4_24 (tgt := 31) (by decide) (fun h9 => absurd h9 (fun h9 => by have := (sb_nle (by omega) (by decide)).mp (show -nI v ≤ -nI 100 from h9); omega)) (fun _ => ?_)
    refine g_iload_n (j := 0) C dJ6_stringSize_0f7a4_27 rfl rfl ?_
    refine g_iload_n (j := 3) C dJ6_stringSize_0f7a4_28 rfl rfl ?_
    refine g_iadd C dJ6_stringSize_0f7a4_29 ?_
    refine p_num (y := (nI 2)) (by decide) ?_
    exact t_iret C hr rfl ⟨rfl, rfl⟩ (Nat.le_refl _) (Nat.le_refl _) dJ6_stringSize_0f7a4_30
  by_cases c3 : v < 1000
  · rw [zdg3 c1 c2 c3]
    refine g_iconst (v := (nI 1)) C dJ6_stringSize_0f7a4_0 (by decide) ?_
    refine g_istore_n (L' := [(1, .int (nI 1)), (0, .int (nI v))]) C dJ6_stringSize_0f7a4_1 rfl (by decide) rfl ?_
    refine g_iload_n (j := 1) C dJ6_stringSize_0f7a4_2 rfl rfl ?_
    refine g_if_lt C dJ6_stringSize_0f7a4_3 (tgt := 11) (by decide) (fun h9 => absurd h9 (nI_pos (by omega))) (fun _ => ?_)
    refine g_iconst (v := (nI 0)) C dJ6_stringSize_0f7a4_6 (by decide) ?_
    refine g_istore_n (L' := [(1, .int (nI 0)), (0, .int (nI v))]) C dJ6_stringSize_0f7a4_7 rfl (by decide) rfl ?_
    refine g_iload_n (j := 1) C dJ6_stringSize_0f7a4_8 rfl rfl ?_
    refine g_ineg C dJ6_stringSize_0f7a4_9 ?_
    refine g_istore_n (L' := [(0, .int (-(nI v))), (1, .int (nI 0))]) C dJ6_stringSize_0f7a4_10 rfl (by decide) rfl ?_
    refine g_bipush (v := (-10 : Int32)) C dJ6_stringSize_0f7a4_11 (by decide) ?_
    refine g_istore_n (L' := [(2, .int (-10 : Int32)), (0, .int (-(nI v))), (1, .int (nI 0))]) C dJ6_stringSize_0f7a4_13 rfl (by decide) rfl ?_
    refine g_iconst (v := (nI 1)) C dJ6_stringSize_0f7a4_14 (by decide) ?_
    refine g_istore_n (L' := [(3, .int (nI 1)), (2, .int (-10 : Int32)), (0, .int (-(nI v))), (1, .int (nI 0))]) C dJ6_stringSize_0f7a4_15 rfl (by decide) rfl ?_
    refine g_iload_n (j := 0) C dJ6_stringSize_0f7a4_16 rfl rfl ?_
    refine g_bipush (v := (nI 10)) C dJ6_stringSize_0f7a4_17 (by decide) ?_
    refine g_icmp_ge C dJ6_stringSize_0f7a4_19 (tgt := 42) (by decide) (fun h9 => absurd h9 (by decide)) (fun _ => ?_)
    refine g_iload_n (j := 2) C dJ6_stringSize_0f7a4_22 rfl rfl ?_
    refine g_iload_n (j := 1) C dJ6_stringSize_0f7a4_23 rfl rfl ?_
    refine g_icmp_le C dJ6_stringSize_0f7a4_24 (tgt := 31) (by decide) (fun _ => ?_) (fun h9 => absurd (show -nI v ≤ -nI 10 from (sb_nle (by omega) (by decide)).mpr (by omega)) h9)
    refine g_bipush (v := (nI 10)) C dJ6_stringSize_0f7a4_31 (by decide) ?_
    refine g_iload_n (j := 1) C dJ6_stringSize_0f7a4_33 rfl rfl ?_
    refine g_imul C dJ6_stringSize_0f7a4_34 ?_
    refine p_num (y := (-100 : Int32)) (by decide) ?_
    refine g_istore_n (L' := [(2, .int (-100 : Int32)), (3, .int (nI 1)), (0, .int (-(nI v))), (1, .int (nI 0))]) C dJ6_stringSize_0f7a4_35 rfl (by decide) rfl ?_
    refine g_iinc (k := 1) (L' := [(3, .int (nI 2)), (2, .int (-100 : Int32)), (0, .int (-(nI v))), (1, .int (nI 0))]) C dJ6_stringSize_0f7a4_36 rfl (by decide) (by decide) rfl ?_
    refine g_goto C dJ6_stringSize_0f7a4_39 (tgt := 16) (by decide) ?_
    refine g_iload_n (j := 0) C dJ6_stringSize_0f7a4_16 rfl rfl ?_
    refine g_bipush (v := (nI 10)) C dJ6_stringSize_0f7a4_17 (by decide) ?_
    refine g_icmp_ge C dJ6_stringSize_0f7a4_19 (tgt := 42) (by decide) (fun h9 => absurd h9 (by decide)) (fun _ => ?_)
    refine g_iload_n (j := 2) C dJ6_stringSize_0f7a4_22 rfl rfl ?_
    refine g_iload_n (j := 1) C dJ6_stringSize_0f7a4_23 rfl rfl ?_
    refine g_icmp_le C dJ6_stringSize_0f7a4_24 (tgt := 31) (by decide) (fun _ => ?_) (fun h9 => absurd (show -nI v ≤ -nI 100 from (sb_nle (by omega) (by decide)).mpr (by omega)) h9)
    refine g_bipush (v := (nI 10)) C dJ6_stringSize_0f7a4_31 (by decide) ?_
    refine g_iload_n (j := 1) C dJ6_stringSize_0f7a4_33 rfl rfl ?_
    refine g_imul C dJ6_stringSize_0f7a4_34 ?_
    refine p_num (y := (-1000 : Int32)) (by decide) ?_
    refine g_istore_n (L' := [(2, .int (-1000 : Int32)), (3, .int (nI 2)), (0, .int (-(nI v))), (1, .int (nI 0))]) C dJ6_stringSize_0f7a4_35 rfl (by decide) rfl ?_
    refine g_iinc (k := 1) (L' := [(3, .int (nI 3)), (2, .int (-1000 : Int32)), (0, .int (-(nI v))), (1, .int (nI 0))]) C dJ6_stringSize_0f7a4_36 rfl (by decide) (by decide) rfl ?_
    refine g_goto C dJ6_stringSize_0f7a4_39 (tgt := 16) (by decide) ?_
    refine g_iload_n (j := 0) C dJ6_stringSize_0f7a4_16 rfl rfl ?_
    refine g_bipush (v := (nI 10)) C dJ6_stringSize_0f7a4_17 (by decide) ?_
    refine g_icmp_ge C dJ6_stringSize_0f7a4_19 (tgt := 42) (by decide) (fun h9 => absurd h9 (by decide)) (fun _ => ?_)
    refine g_iload_n (j := 2) C dJ6_stringSize_0f7a4_22 rfl rfl ?_
    refine g_iload_n (j := 1) C dJ6_stringSize_0f7a4_23 rfl rfl ?_
    refine g_icmp_le C dJ6_stringSize_0f7a4_24 (tgt := 31) (by decide) (fun h9 => absurd h9 (fun h9 => by have := (sb_nle (by omega) (by decide)).mp (show -nI v ≤ -nI 1000 from h9); omega)) (fun _ => ?_)
    refine g_iload_n (j := 0) C dJ6_stringSize_0f7a4_27 rfl rfl ?_
    refine g_iload_n (j := 3) C dJ6_stringSize_0f7a4_28 rfl rfl ?_
    refine g_iadd C dJ6_stringSize_0f7a4_29 ?_
    refine p_num (y := (nI 3)) (by decide) ?_
    exact t_iret C hr rfl ⟨rfl, rfl⟩ (Nat.le_refl _) (Nat.le_refl _) dJ6_stringSize_0f7a4_30
  · rw [zdg4 c1 c2 c3 hv]
    refine g_iconst (v := (nI 1)) C dJ6_stringSize_0f7a4_0 (by decide) ?_
    refine g_istore_n (L' := [(1, .int (nI 1)), (0, .int (nI v))]) C dJ6_stringSize_0f7a4_1 rfl (by decide) rfl ?_
    refine g_iload_n (j := 1) C dJ6_stringSize_0f7a4_2 rfl rfl ?_
    refine g_if_lt C dJ6_stringSize_0f7a4_3 (tgt := 11) (by decide) (fun h9 => absurd h9 (nI_pos (by omega))) (fun _ => ?_)
    refine g_iconst (v := (nI 0)) C dJ6_stringSize_0f7a4_6 (by decide) ?_
    refine g_istore_n (L' := [(1, .int (nI 0)), (0, .int (nI v))]) C dJ6_stringSize_0f7a4_7 rfl (by decide) rfl ?_
    refine g_iload_n (j := 1) C dJ6_stringSize_0f7a4_8 rfl rfl ?_
    refine g_ineg C dJ6_stringSize_0f7a4_9 ?_
    refine g_istore_n (L' := [(0, .int (-(nI v))), (1, .int (nI 0))]) C dJ6_stringSize_0f7a4_10 rfl (by decide) rfl ?_
    refine g_bipush (v := (-10 : Int32)) C dJ6_stringSize_0f7a4_11 (by decide) ?_
    refine g_istore_n (L' := [(2, .int (-10 : Int32)), (0, .int (-(nI v))), (1, .int (nI 0))]) C dJ6_stringSize_0f7a4_13 rfl (by decide) rfl ?_
    refine g_iconst (v := (nI 1)) C dJ6_stringSize_0f7a4_14 (by decide) ?_
    refine g_istore_n (L' := [(3, .int (nI 1)), (2, .int (-10 : Int32)), (0, .int (-(nI v))), (1, .int (nI 0))]) C dJ6_stringSize_0f7a4_15 rfl (by decide) rfl ?_
    refine g_iload_n (j := 0) C dJ6_stringSize_0f7a4_16 rfl rfl ?_
    refine g_bipush (v := (nI 10)) C dJ6_stringSize_0f7a4_17 (by decide) ?_
    refine g_icmp_ge C dJ6_stringSize_0f7a4_19 (tgt := 42) (by decide) (fun h9 => absurd h9 (by decide)) (fun _ => ?_)
    refine g_iload_n (j := 2) C dJ6_stringSize_0f7a4_22 rfl rfl ?_
    refine g_iload_n (j := 1) C dJ6_stringSize_0f7a4_23 rfl rfl ?_
    refine g_icmp_le C dJ6_stringSize_0f7a4_24 (tgt := 31) (by decide) (fun _ => ?_) (fun h9 => absurd (show -nI v ≤ -nI 10 from (sb_nle (by omega) (by decide)).mpr (by omega)) h9)
    refine g_bipush (v := (nI 10)) C dJ6_stringSize_0f7a4_31 (by decide) ?_
    refine g_iload_n (j := 1) C dJ6_stringSize_0f7a4_33 rfl rfl ?_
    refine g_imul C dJ6_stringSize_0f7a4_34 ?_
    refine p_num (y := (-100 : Int32)) (by decide) ?_
    refine g_istore_n (L' := [(2, .int (-100 : Int32)), (3, .int (nI 1)), (0, .int (-(nI v))), (1, .int (nI 0))]) C dJ6_stringSize_0f7a4_35 rfl (by decide) rfl ?_
    refine g_iinc (k := 1) (L' := [(3, .int (nI 2)), (2, .int (-100 : Int32)), (0, .int (-(nI v))), (1, .int (nI 0))]) C dJ6_stringSize_0f7a4_36 rfl (by decide) (by decide) rfl ?_
    refine g_goto C dJ6_stringSize_0f7a4_39 (tgt := 16) (by decide) ?_
    refine g_iload_n (j := 0) C dJ6_stringSize_0f7a4_16 rfl rfl ?_
    refine g_bipush (v := (nI 10)) C dJ6_stringSize_0f7a4_17 (by decide) ?_
    refine g_icmp_ge C dJ6_stringSize_0f7a4_19 (tgt := 42) (by decide) (fun h9 => absurd h9 (by decide)) (fun _ => ?_)
    refine g_iload_n (j := 2) C dJ6_stringSize_0f7a4_22 rfl rfl ?_
    refine g_iload_n (j := 1) C dJ6_stringSize_0f7a4_23 rfl rfl ?_
    refine g_icmp_le C dJ6_stringSize_0f7a4_24 (tgt := 31) (by decide) (fun _ => ?_) (fun h9 => absurd (show -nI v ≤ -nI 100 from (sb_nle (by omega) (by decide)).mpr (by omega)) h9)
    refine g_bipush (v := (nI 10)) C dJ6_stringSize_0f7a4_31 (by decide) ?_
    refine g_iload_n (j := 1) C dJ6_stringSize_0f7a4_33 rfl rfl ?_
    refine g_imul C dJ6_stringSize_0f7a4_34 ?_
    refine p_num (y := (-1000 : Int32)) (by decide) ?_
    refine g_istore_n (L' := [(2, .int (-1000 : Int32)), (3, .int (nI 2)), (0, .int (-(nI v))), (1, .int (nI 0))]) C dJ6_stringSize_0f7a4_35 rfl (by decide) rfl ?_
    refine g_iinc (k := 1) (L' := [(3, .int (nI 3)), (2, .int (-1000 : Int32)), (0, .int (-(nI v))), (1, .int (nI 0))]) C dJ6_stringSize_0f7a4_36 rfl (by decide) (by decide) rfl ?_
    refine g_goto C dJ6_stringSize_0f7a4_39 (tgt := 16) (by decide) ?_
    refine g_iload_n (j := 0) C dJ6_stringSize_0f7a4_16 rfl rfl ?_
    refine g_bipush (v := (nI 10)) C dJ6_stringSize_0f7a4_17 (by decide) ?_
    refine g_icmp_ge C dJ6_stringSize_0f7a4_19 (tgt := 42) (by decide) (fun h9 => absurd h9 (by decide)) (fun _ => ?_)
    refine g_iload_n (j := 2) C dJ6_stringSize_0f7a4_22 rfl rfl ?_
    refine g_iload_n (j := 1) C dJ6_stringSize_0f7a4_23 rfl rfl ?_
    refine g_icmp_le C dJ6_stringSize_0f7a4_24 (tgt := 31) (by decide) (fun _ => ?_) (fun h9 => absurd (show -nI v ≤ -nI 1000 from (sb_nle (by omega) (by decide)).mpr (by omega)) h9)
    refine g_bipush (v := (nI 10)) C dJ6_stringSize_0f7a4_31 (by decide) ?_
    refine g_iload_n (j := 1) C dJ6_stringSize_0f7a4_33 rfl rfl ?_
    refine g_imul C dJ6_stringSize_0f7a4_34 ?_
    refine p_num (y := (-10000 : Int32)) (by decide) ?_
    refine g_istore_n (L' := [(2, .int (-10000 : Int32)), (3, .int (nI 3)), (0, .int (-(nI v))), (1, .int (nI 0))]) C dJ6_stringSize_0f7a4_35 rfl (by decide) rfl ?_
    refine g_iinc (k := 1) (L' := [(3, .int (nI 4)), (2, .int (-10000 : Int32)), (0, .int (-(nI v))), (1, .int (nI 0))]) C dJ6_stringSize_0f7a4_36 rfl (by decide) (by decide) rfl ?_
    refine g_goto C dJ6_stringSize_0f7a4_39 (tgt := 16) (by decide) ?_
    refine g_iload_n (j := 0) C dJ6_stringSize_0f7a4_16 rfl rfl ?_
    refine g_bipush (v := (nI 10)) C dJ6_stringSize_0f7a4_17 (by decide) ?_
    refine g_icmp_ge C dJ6_stringSize_0f7a4_19 (tgt := 42) (by decide) (fun h9 => absurd h9 (by decide)) (fun _ => ?_)
    refine g_iload_n (j := 2) C dJ6_stringSize_0f7a4_22 rfl rfl ?_
    refine g_iload_n (j := 1) C dJ6_stringSize_0f7a4_23 rfl rfl ?_
    refine g_icmp_le C dJ6_stringSize_0f7a4_24 (tgt := 31) (by decide) (fun h9 => absurd h9 (fun h9 => by have := (sb_nle (by omega) (by decide)).mp (show -nI v ≤ -nI 10000 from h9); omega)) (fun _ => ?_)
    refine g_iload_n (j := 0) C dJ6_stringSize_0f7a4_27 rfl rfl ?_
    refine g_iload_n (j := 3) C dJ6_stringSize_0f7a4_28 rfl rfl ?_
    refine g_iadd C dJ6_stringSize_0f7a4_29 ?_
    refine p_num (y := (nI 4)) (by decide) ?_
    exact t_iret C hr rfl ⟨rfl, rfl⟩ (Nat.le_refl _) (Nat.le_refl _) dJ6_stringSize_0f7a4_30
set_option maxRecDepth 100000 in
set_option maxHeartbeats 8000000 in
theorem c_getChars (l : Launch) (D : va_G) (cy : Nat → ClassId) (E : va_W) (q vb n k : Nat) (z : Int32) (f : Nat → Int32) (v : Nat) (hv : v < 10000) (hkn : k + sb_dg v ≤ n) (hn : n < 2 ^ 30) : zMt l yJ6_getChars_ba4f3 cJ6_getChars_ba4f3 7 (some .int) (zrt 1 0 0) D (zTy cy) zEn (tB cy q vb n z k f ++ E) [.int (nI v), .int (nI (k + sb_dg v)), .ref vb] 0 0 (tI D (zTy cy) (fun _ w => ∃ f2, w = tB cy q vb n z k f2 ++ E ∧ zDig f f2 k v)) := by
  by_cases c1 : v < 10
  · rw [zdg1 c1] at hkn ⊢
    refine zMt.of (by decide) (Nat.le_of_ble_eq_true rfl) ?_
    intro p e s m below meth c A C hr hE
    obtain ⟨t1, ho1, ho2⟩ := hE.2.1
    obtain ⟨t2, hn1, hn2⟩ := hE.2.2.1
    refine zG_L (L' := [(0, .int (nI v)), (1, .int (nI (k + 1))), (2, .ref vb)]) rfl ?_
    refine g_iload_n (j := 1) C dJ6_getChars_ba4f3_0 rfl rfl ?_
    refine g_istore (L' := [(5, .int (nI (k + 1))), (0, .int (nI v)), (1, .int (nI (k + 1))), (2, .ref vb)]) C dJ6_getChars_ba4f3_1 (by decide) rfl ?_
    refine g_iload_n (j := 1) C dJ6_getChars_ba4f3_3 rfl rfl ?_
    refine g_if_ge C dJ6_getChars_ba4f3_4 (tgt := 11) (by decide) (fun _ => ?_) (fun h9 => absurd (nI_pos' (by omega)) h9)
    refine g_iconst (v := (nI 0)) C dJ6_getChars_ba4f3_11 (by decide) ?_
    refine g_istore (L' := [(6, .int (nI 0)), (5, .int (nI (k + 1))), (0, .int (nI v)), (1, .int (nI (k + 1))), (2, .ref vb)]) C dJ6_getChars_ba4f3_12 (by decide) rfl ?_
    refine g_iload (j := 0) C dJ6_getChars_ba4f3_14 rfl ?_
    refine g_if_ne C dJ6_getChars_ba4f3_16 (tgt := 22) (by decide) (fun h9 => absurd rfl h9) (fun _ => ?_)
    refine g_iload_n (j := 2) C dJ6_getChars_ba4f3_19 rfl rfl ?_
    refine g_ineg C dJ6_getChars_ba4f3_20 ?_
    refine g_istore_n (L' := [(0, .int (-(nI v))), (6, .int (nI 0)), (5, .int (nI (k + 1))), (1, .int (nI (k + 1))), (2, .ref vb)]) C dJ6_getChars_ba4f3_21 rfl (by decide) rfl ?_
    refine g_iload_n (j := 0) C dJ6_getChars_ba4f3_22 rfl rfl ?_
    refine g_bipush (v := (-100 : Int32)) C dJ6_getChars_ba4f3_23 (by decide) ?_
    refine g_icmp_gt C dJ6_getChars_ba4f3_25 (tgt := 72) (by decide) (fun _ => ?_) (fun h9 => absurd (show -nI 100 < -nI v from (sb_nlt (by decide) (by omega)).mpr (by omega)) h9)
    refine g_aload_n (j := 4) C dJ6_getChars_ba4f3_72 rfl rfl ?_
    refine g_iinc (k := 2) (L' := [(5, .int (nI (k))), (0, .int (-(nI v))), (6, .int (nI 0)), (1, .int (nI (k + 1))), (2, .ref vb)]) C dJ6_getChars_ba4f3_73 rfl (by rw [show Int32.ofInt (-1) = (-1 : Int32) from by decide]; exact sb_m1 (by omega)) (by decide) rfl ?_
    refine g_iload (j := 0) C dJ6_getChars_ba4f3_76 rfl ?_
    refine p_gets (v := .ref t1) C ho1 zfs_RJ6_83 dJ6_getChars_ba4f3_78 ?_
    refine g_iload_n (j := 1) C dJ6_getChars_ba4f3_81 rfl rfl ?_
    refine g_ineg C dJ6_getChars_ba4f3_82 ?_
    refine p_num (y := (nI v)) Int32.neg_neg ?_
    refine p_tb (v := .int (nI (48 + v % 10))) C ho2 (vp_in_nI (by omega) (by decide)) (by rw [nI_clamp (by omega)]) dJ6_getChars_ba4f3_83 ?_
    refine p_bast (q0 := 1) (ws' := (tB cy q vb n z k (upd f k (sb_b (48 + v % 10))) ++ E)) C rfl (vp_in_nI (by omega) (by omega)) (by rw [nI_clamp (by omega), vp_nar_byte]; rfl) dJ6_getChars_ba4f3_84 ?_
    refine g_iload_n (j := 1) C dJ6_getChars_ba4f3_85 rfl rfl ?_
    refine g_bipush (v := (-9 : Int32)) C dJ6_getChars_ba4f3_86 (by decide) ?_
    refine g_icmp_ge C dJ6_getChars_ba4f3_88 (tgt := 104) (by decide) (fun _ => ?_) (fun h9 => absurd (show -nI 9 ≤ -nI v from (sb_nle (by decide) (by omega)).mpr (by omega)) h9)
    refine g_iload (j := 2) C dJ6_getChars_ba4f3_104 rfl ?_
    refine g_if_eq C dJ6_getChars_ba4f3_106 (tgt := 118) (by decide) (fun _ => ?_) (fun h9 => absurd rfl h9)
    refine g_iload (j := 0) C dJ6_getChars_ba4f3_118 rfl ?_
    exact t_iret C hr rfl ⟨_, rfl, zDig1 c1⟩ (Nat.le_refl _) (Nat.le_refl _) dJ6_getChars_ba4f3_120
  by_cases c2 : v < 100
  · rw [zdg2 c1 c2] at hkn ⊢
    refine zMt.of (by decide) (Nat.le_of_ble_eq_true rfl) ?_
    intro p e s m below meth c A C hr hE
    obtain ⟨t1, ho1, ho2⟩ := hE.2.1
    obtain ⟨t2, hn1, hn2⟩ := hE.2.2.1
    refine zG_L (L' := [(0, .int (nI v)), (1, .int (nI (k + 2))), (2, .ref vb)]) rfl ?_
    refine g_iload_n (j := 1) C dJ6_getChars_ba4f3_0 rfl rfl ?_
    refine g_istore (L' := [(5, .int (nI (k + 2))), (0, .int (nI v)), (1, .int (nI (k + 2))), (2, .ref vb)]) C dJ6_getChars_ba4f3_1 (by decide) rfl ?_
    refine g_iload_n (j := 1) C dJ6_getChars_ba4f3_3 rfl rfl ?_
    refine g_if_ge C dJ6_getChars_ba4f3_4 (tgt := 11) (by decide) (fun _ => ?_) (fun h9 => absurd (nI_pos' (by omega)) h9)
    refine g_iconst (v := (nI 0)) C dJ6_getChars_ba4f3_11 (by decide) ?_
    refine g_istore (L' := [(6, .int (nI 0)), (5, .int (nI (k + 2))), (0, .int (nI v)), (1, .int (nI (k + 2))), (2, .ref vb)]) C dJ6_getChars_ba4f3_12 (by decide) rfl ?_
    refine g_iload (j := 0) C dJ6_getChars_ba4f3_14 rfl ?_
    refine g_if_ne C dJ6_getChars_ba4f3_16 (tgt := 22) (by decide) (fun h9 => absurd rfl h9) (fun _ => ?_)
    refine g_iload_n (j := 2) C dJ6_getChars_ba4f3_19 rfl rfl ?_
    refine g_ineg C dJ6_getChars_ba4f3_20 ?_
    refine g_istore_n (L' := [(0, .int (-(nI v))), (6, .int (nI 0)), (5, .int (nI (k + 2))), (1, .int (nI (k + 2))), (2, .ref vb)]) C dJ6_getChars_ba4f3_21 rfl (by decide) rfl ?_
    refine g_iload_n (j := 0) C dJ6_getChars_ba4f3_22 rfl rfl ?_
    refine g_bipush (v := (-100 : Int32)) C dJ6_getChars_ba4f3_23 (by decide) ?_
    refine g_icmp_gt C dJ6_getChars_ba4f3_25 (tgt := 72) (by decide) (fun _ => ?_) (fun h9 => absurd (show -nI 100 < -nI v from (sb_nlt (by decide) (by omega)).mpr (by omega)) h9)
    refine g_aload_n (j := 4) C dJ6_getChars_ba4f3_72 rfl rfl ?_
    refine g_iinc (k := 2) (L' := [(5, .int (nI (k + 1))), (0, .int (-(nI v))), (6, .int (nI 0)), (1, .int (nI (k + 2))), (2, .ref vb)]) C dJ6_getChars_ba4f3_73 rfl (by rw [show Int32.ofInt (-1) = (-1 : Int32) from by decide]; exact sb_m1 (by omega)) (by decide) rfl ?_
    refine g_iload (j := 0) C dJ6_getChars_ba4f3_76 rfl ?_
    refine p_gets (v := .ref t1) C ho1 zfs_RJ6_83 dJ6_getChars_ba4f3_78 ?_
    refine g_iload_n (j := 1) C dJ6_getChars_ba4f3_81 rfl rfl ?_
    refine g_ineg C dJ6_getChars_ba4f3_82 ?_
    refine p_num (y := (nI v)) Int32.neg_neg ?_
    refine p_tb (v := .int (nI (48 + v % 10))) C ho2 (vp_in_nI (by omega) (by decide)) (by rw [nI_clamp (by omega)]) dJ6_getChars_ba4f3_83 ?_
    refine p_bast (q0 := 1) (ws' := (tB cy q vb n z k (upd f (k + 1) (sb_b (48 + v % 10))) ++ E)) C rfl (vp_in_nI (by omega) (by omega)) (by rw [nI_clamp (by omega), vp_nar_byte]; rfl) dJ6_getChars_ba4f3_84 ?_
    refine g_iload_n (j := 1) C dJ6_getChars_ba4f3_85 rfl rfl ?_
    refine g_bipush (v := (-9 : Int32)) C dJ6_getChars_ba4f3_86 (by decide) ?_
    refine g_icmp_ge C dJ6_getChars_ba4f3_88 (tgt := 104) (by decide) (fun h9 => absurd h9 (fun h9 => by have := (sb_nle (by decide) (by omega)).mp (show -nI 9 ≤ -nI v from h9); omega)) (fun _ => ?_)
    refine g_aload_n (j := 4) C dJ6_getChars_ba4f3_91 rfl rfl ?_
    refine g_iinc (k := 0) (L' := [(5, .int (nI (k))), (0, .int (-(nI v))), (6, .int (nI 0)), (1, .int (nI (k + 2))), (2, .ref vb)]) C dJ6_getChars_ba4f3_92 rfl (by rw [show Int32.ofInt (-1) = (-1 : Int32) from by decide]; exact sb_m1 (by omega)) (by decide) rfl ?_
    refine g_iload (j := 0) C dJ6_getChars_ba4f3_95 rfl ?_
    refine p_gets (v := .ref t2) C hn1 zfs_RJ6_87 dJ6_getChars_ba4f3_97 ?_
    refine g_iload_n (j := 1) C dJ6_getChars_ba4f3_100 rfl rfl ?_
    refine g_ineg C dJ6_getChars_ba4f3_101 ?_
    refine p_num (y := (nI v)) Int32.neg_neg ?_
    refine p_tb (v := .int (nI (48 + v / 10))) C hn2 (vp_in_nI (by omega) (by decide)) (by rw [nI_clamp (by omega)]) dJ6_getChars_ba4f3_102 ?_
    refine p_bast (q0 := 1) (ws' := (tB cy q vb n z k (upd (upd f (k + 1) (sb_b (48 + v % 10))) k (sb_b (48 + v / 10))) ++ E)) C rfl (vp_in_nI (by omega) (by omega)) (by rw [nI_clamp (by omega), vp_nar_byte]; rfl) dJ6_getChars_ba4f3_103 ?_
    refine g_iload (j := 2) C dJ6_getChars_ba4f3_104 rfl ?_
    refine g_if_eq C dJ6_getChars_ba4f3_106 (tgt := 118) (by decide) (fun _ => ?_) (fun h9 => absurd rfl h9)
    refine g_iload (j := 0) C dJ6_getChars_ba4f3_118 rfl ?_
    exact t_iret C hr rfl ⟨_, rfl, zDig2 c1 c2⟩ (Nat.le_refl _) (Nat.le_refl _) dJ6_getChars_ba4f3_120
  by_cases c3 : v < 1000
  · rw [zdg3 c1 c2 c3] at hkn ⊢
    refine zMt.of (by decide) (Nat.le_of_ble_eq_true rfl) ?_
    intro p e s m below meth c A C hr hE
    obtain ⟨t1, ho1, ho2⟩ := hE.2.1
    obtain ⟨t2, hn1, hn2⟩ := hE.2.2.1
    refine zG_L (L' := [(0, .int (nI v)), (1, .int (nI (k + 3))), (2, .ref vb)]) rfl ?_
    refine g_iload_n (j := 1) C dJ6_getChars_ba4f3_0 rfl rfl ?_
    refine g_istore (L' := [(5, .int (nI (k + 3))), (0, .int (nI v)), (1, .int (nI (k + 3))), (2, .ref vb)]) C dJ6_getChars_ba4f3_1 (by decide) rfl ?_
    refine g_iload_n (j := 1) C dJ6_getChars_ba4f3_3 rfl rfl ?_
    refine g_if_ge C dJ6_getChars_ba4f3_4 (tgt := 11) (by decide) (fun _ => ?_) (fun h9 => absurd (nI_pos' (by omega)) h9)
    refine g_iconst (v := (nI 0)) C dJ6_getChars_ba4f3_11 (by decide) ?_
    refine g_istore (L' := [(6, .int (nI 0)), (5, .int (nI (k + 3))), (0, .int (nI v)), (1, .int (nI (k + 3))), (2, .ref vb)]) C dJ6_getChars_ba4f3_12 (by decide) rfl ?_
    refine g_iload (j := 0) C dJ6_getChars_ba4f3_14 rfl ?_
    refine g_if_ne C dJ6_getChars_ba4f3_16 (tgt := 22) (by decide) (fun h9 => absurd rfl h9) (fun _ => ?_)
    refine g_iload_n (j := 2) C dJ6_getChars_ba4f3_19 rfl rfl ?_
    refine g_ineg C dJ6_getChars_ba4f3_20 ?_
    refine g_istore_n (L' := [(0, .int (-(nI v))), (6, .int (nI 0)), (5, .int (nI (k + 3))), (1, .int (nI (k + 3))), (2, .ref vb)]) C dJ6_getChars_ba4f3_21 rfl (by decide) rfl ?_
    refine g_iload_n (j := 0) C dJ6_getChars_ba4f3_22 rfl rfl ?_
    refine g_bipush (v := (-100 : Int32)) C dJ6_getChars_ba4f3_23 (by decide) ?_
    refine g_icmp_gt C dJ6_getChars_ba4f3_25 (tgt := 72) (by decide) (fun h9 => absurd h9 (fun h9 => by have := (sb_nlt (by decide) (by omega)).mp (show -nI 100 < -nI v from h9); omega)) (fun _ => ?_)
    refine g_iload_n (j := 0) C dJ6_getChars_ba4f3_28 rfl rfl ?_
    refine g_bipush (v := (nI 100)) C dJ6_getChars_ba4f3_29 (by decide) ?_
    refine g_idiv C dJ6_getChars_ba4f3_31 (by decide) ?_
    refine p_num (y := (-nI (v / 100))) (sb_ndiv (by omega)) ?_
    refine g_istore_n (L' := [(3, .int (-nI (v / 100))), (0, .int (-(nI v))), (6, .int (nI 0)), (5, .int (nI (k + 3))), (1, .int (nI (k + 3))), (2, .ref vb)]) C dJ6_getChars_ba4f3_32 rfl (by decide) rfl ?_
    refine g_iload_n (j := 0) C dJ6_getChars_ba4f3_33 rfl rfl ?_
    refine g_bipush (v := (nI 100)) C dJ6_getChars_ba4f3_34 (by decide) ?_
    refine g_imul C dJ6_getChars_ba4f3_36 ?_
    refine g_iload_n (j := 1) C dJ6_getChars_ba4f3_37 rfl rfl ?_
    refine g_isub C dJ6_getChars_ba4f3_38 ?_
    refine p_num (y := (nI (v % 100))) (sb_nrem (by omega)) ?_
    refine g_istore (L' := [(4, .int (nI (v % 100))), (3, .int (-nI (v / 100))), (0, .int (-(nI v))), (6, .int (nI 0)), (5, .int (nI (k + 3))), (1, .int (nI (k + 3))), (2, .ref vb)]) C dJ6_getChars_ba4f3_39 (by decide) rfl ?_
    refine g_iload_n (j := 1) C dJ6_getChars_ba4f3_41 rfl rfl ?_
    refine g_istore_n (L' := [(0, .int (-nI (v / 100))), (4, .int (nI (v % 100))), (3, .int (-nI (v / 100))), (6, .int (nI 0)), (5, .int (nI (k + 3))), (1, .int (nI (k + 3))), (2, .ref vb)]) C dJ6_getChars_ba4f3_42 rfl (by decide) rfl ?_
    refine g_aload_n (j := 6) C dJ6_getChars_ba4f3_43 rfl rfl ?_
    refine g_iinc (k := 4) (L' := [(5, .int (nI (k + 2))), (0, .int (-nI (v / 100))), (4, .int (nI (v % 100))), (3, .int (-nI (v / 100))), (6, .int (nI 0)), (1, .int (nI (k + 3))), (2, .ref vb)]) C dJ6_getChars_ba4f3_44 rfl (by rw [show Int32.ofInt (-1) = (-1 : Int32) from by decide]; exact sb_m1 (by omega)) (by decide) rfl ?_
    refine g_iload (j := 0) C dJ6_getChars_ba4f3_47 rfl ?_
    refine p_gets (v := .ref t1) C ho1 zfs_RJ6_83 dJ6_getChars_ba4f3_49 ?_
    refine g_iload (j := 2) C dJ6_getChars_ba4f3_52 rfl ?_
    refine p_tb (v := .int (nI (48 + v % 100 % 10))) C ho2 (vp_in_nI (by omega) (by decide)) (by rw [nI_clamp (by omega)]) dJ6_getChars_ba4f3_54 ?_
    refine p_bast (q0 := 1) (ws' := (tB cy q vb n z k (upd f (k + 2) (sb_b (48 + v % 100 % 10))) ++ E)) C rfl (vp_in_nI (by omega) (by omega)) (by rw [nI_clamp (by omega), vp_nar_byte]; rfl) dJ6_getChars_ba4f3_55 ?_
    refine g_aload_n (j := 6) C dJ6_getChars_ba4f3_56 rfl rfl ?_
    refine g_iinc (k := 0) (L' := [(5, .int (nI (k + 1))), (0, .int (-nI (v / 100))), (4, .int (nI (v % 100))), (3, .int (-nI (v / 100))), (6, .int (nI 0)), (1, .int (nI (k + 3))), (2, .ref vb)]) C dJ6_getChars_ba4f3_57 rfl (by rw [show Int32.ofInt (-1) = (-1 : Int32) from by decide]; exact sb_m1 (by omega)) (by decide) rfl ?_
    refine g_iload (j := 0) C dJ6_getChars_ba4f3_60 rfl ?_
    refine p_gets (v := .ref t2) C hn1 zfs_RJ6_87 dJ6_getChars_ba4f3_62 ?_
    refine g_iload (j := 2) C dJ6_getChars_ba4f3_65 rfl ?_
    refine p_tb (v := .int (nI (48 + v % 100 / 10))) C hn2 (vp_in_nI (by omega) (by decide)) (by rw [nI_clamp (by omega)]) dJ6_getChars_ba4f3_67 ?_
    refine p_bast (q0 := 1) (ws' := (tB cy q vb n z k (upd (upd f (k + 2) (sb_b (48 + v % 100 % 10))) (k + 1) (sb_b (48 + v % 100 / 10))) ++ E)) C rfl (vp_in_nI (by omega) (by omega)) (by rw [nI_clamp (by omega), vp_nar_byte]; rfl) dJ6_getChars_ba4f3_68 ?_
    refine g_goto C dJ6_getChars_ba4f3_69 (tgt := 22) (by decide) ?_
    refine g_iload_n (j := 1) C dJ6_getChars_ba4f3_22 rfl rfl ?_
    refine g_bipush (v := (-100 : Int32)) C dJ6_getChars_ba4f3_23 (by decide) ?_
    refine g_icmp_gt C dJ6_getChars_ba4f3_25 (tgt := 72) (by decide) (fun _ => ?_) (fun h9 => absurd (show -nI 100 < -nI (v / 100) from (sb_nlt (by decide) (by omega)).mpr (by omega)) h9)
    refine g_aload_n (j := 6) C dJ6_getChars_ba4f3_72 rfl rfl ?_
    refine g_iinc (k := 0) (L' := [(5, .int (nI (k))), (0, .int (-nI (v / 100))), (4, .int (nI (v % 100))), (3, .int (-nI (v / 100))), (6, .int (nI 0)), (1, .int (nI (k + 3))), (2, .ref vb)]) C dJ6_getChars_ba4f3_73 rfl (by rw [show Int32.ofInt (-1) = (-1 : Int32) from by decide]; exact sb_m1 (by omega)) (by decide) rfl ?_
    refine g_iload (j := 0) C dJ6_getChars_ba4f3_76 rfl ?_
    refine p_gets (v := .ref t1) C ho1 zfs_RJ6_83 dJ6_getChars_ba4f3_78 ?_
    refine g_iload_n (j := 1) C dJ6_getChars_ba4f3_81 rfl rfl ?_
    refine g_ineg C dJ6_getChars_ba4f3_82 ?_
    refine p_num (y := (nI (v / 100))) Int32.neg_neg ?_
    refine p_tb (v := .int (nI (48 + v / 100 % 10))) C ho2 (vp_in_nI (by omega) (by decide)) (by rw [nI_clamp (by omega)]) dJ6_getChars_ba4f3_83 ?_
    refine p_bast (q0 := 1) (ws' := (tB cy q vb n z k (upd (upd (upd f (k + 2) (sb_b (48 + v % 100 % 10))) (k + 1) (sb_b (48 + v % 100 / 10))) k (sb_b (48 + v / 100 % 10))) ++ E)) C rfl (vp_in_nI (by omega) (by omega)) (by rw [nI_clamp (by omega), vp_nar_byte]; rfl) dJ6_getChars_ba4f3_84 ?_
    refine g_iload_n (j := 1) C dJ6_getChars_ba4f3_85 rfl rfl ?_
    refine g_bipush (v := (-9 : Int32)) C dJ6_getChars_ba4f3_86 (by decide) ?_
    refine g_icmp_ge C dJ6_getChars_ba4f3_88 (tgt := 104) (by decide) (fun _ => ?_) (fun h9 => absurd (show -nI 9 ≤ -nI (v / 100) from (sb_nle (by decide) (by omega)).mpr (by omega)) h9)
    refine g_iload (j := 4) C dJ6_getChars_ba4f3_104 rfl ?_
    refine g_if_eq C dJ6_getChars_ba4f3_106 (tgt := 118) (by decide) (fun _ => ?_) (fun h9 => absurd rfl h9)
    refine g_iload (j := 0) C dJ6_getChars_ba4f3_118 rfl ?_
    exact t_iret C hr rfl ⟨_, rfl, zDig3 c1 c2 c3⟩ (Nat.le_refl _) (Nat.le_refl _) dJ6_getChars_ba4f3_120
  · rw [zdg4 c1 c2 c3 hv] at hkn ⊢
    refine zMt.of (by decide) (Nat.le_of_ble_eq_true rfl) ?_
    intro p e s m below meth c A C hr hE
    obtain ⟨t1, ho1, ho2⟩ := hE.2.1
    obtain ⟨t2, hn1, hn2⟩ := hE.2.2.1
    refine zG_L (L' := [(0, .int (nI v)), (1, .int (nI (k + 4))), (2, .ref vb)]) rfl ?_
    refine g_iload_n (j := 1) C dJ6_getChars_ba4f3_0 rfl rfl ?_
    refine g_istore (L' := [(5, .int (nI (k + 4))), (0, .int (nI v)), (1, .int (nI (k + 4))), (2, .ref vb)]) C dJ6_getChars_ba4f3_1 (by decide) rfl ?_
    refine g_iload_n (j := 1) C dJ6_getChars_ba4f3_3 rfl rfl ?_
    refine g_if_ge C dJ6_getChars_ba4f3_4 (tgt := 11) (by decide) (fun _ => ?_) (fun h9 => absurd (nI_pos' (by omega)) h9)
    refine g_iconst (v := (nI 0)) C dJ6_getChars_ba4f3_11 (by decide) ?_
    refine g_istore (L' := [(6, .int (nI 0)), (5, .int (nI (k + 4))), (0, .int (nI v)), (1, .int (nI (k + 4))), (2, .ref vb)]) C dJ6_getChars_ba4f3_12 (by decide) rfl ?_
    refine g_iload (j := 0) C dJ6_getChars_ba4f3_14 rfl ?_
    refine g_if_ne C dJ6_getChars_ba4f3_16 (tgt := 22) (by decide) (fun h9 => absurd rfl h9) (fun _ => ?_)
    refine g_iload_n (j := 2) C dJ6_getChars_ba4f3_19 rfl rfl ?_
    refine g_ineg C dJ6_getChars_ba4f3_20 ?_
    refine g_istore_n (L' := [(0, .int (-(nI v))), (6, .int (nI 0)), (5, .int (nI (k + 4))), (1, .int (nI (k + 4))), (2, .ref vb)]) C dJ6_getChars_ba4f3_21 rfl (by decide) rfl ?_
    refine g_iload_n (j := 0) C dJ6_getChars_ba4f3_22 rfl rfl ?_
    refine g_bipush (v := (-100 : Int32)) C dJ6_getChars_ba4f3_23 (by decide) ?_
    refine g_icmp_gt C dJ6_getChars_ba4f3_25 (tgt := 72) (by decide) (fun h9 => absurd h9 (fun h9 => by have := (sb_nlt (by decide) (by omega)).mp (show -nI 100 < -nI v from h9); omega)) (fun _ => ?_)
    refine g_iload_n (j := 0) C dJ6_getChars_ba4f3_28 rfl rfl ?_
    refine g_bipush (v := (nI 100)) C dJ6_getChars_ba4f3_29 (by decide) ?_
    refine g_idiv C dJ6_getChars_ba4f3_31 (by decide) ?_
    refine p_num (y := (-nI (v / 100))) (sb_ndiv (by omega)) ?_
    refine g_istore_n (L' := [(3, .int (-nI (v / 100))), (0, .int (-(nI v))), (6, .int (nI 0)), (5, .int (nI (k + 4))), (1, .int (nI (k + 4))), (2, .ref vb)]) C dJ6_getChars_ba4f3_32 rfl (by decide) rfl ?_
    refine g_iload_n (j := 0) C dJ6_getChars_ba4f3_33 rfl rfl ?_
    refine g_bipush (v := (nI 100)) C dJ6_getChars_ba4f3_34 (by decide) ?_
    refine g_imul C dJ6_getChars_ba4f3_36 ?_
    refine g_iload_n (j := 1) C dJ6_getChars_ba4f3_37 rfl rfl ?_
    refine g_isub C dJ6_getChars_ba4f3_38 ?_
    refine p_num (y := (nI (v % 100))) (sb_nrem (by omega)) ?_
    refine g_istore (L' := [(4, .int (nI (v % 100))), (3, .int (-nI (v / 100))), (0, .int (-(nI v))), (6, .int (nI 0)), (5, .int (nI (k + 4))), (1, .int (nI (k + 4))), (2, .ref vb)]) C dJ6_getChars_ba4f3_39 (by decide) rfl ?_
    refine g_iload_n (j := 1) C dJ6_getChars_ba4f3_41 rfl rfl ?_
    refine g_istore_n (L' := [(0, .int (-nI (v / 100))), (4, .int (nI (v % 100))), (3, .int (-nI (v / 100))), (6, .int (nI 0)), (5, .int (nI (k + 4))), (1, .int (nI (k + 4))), (2, .ref vb)]) C dJ6_getChars_ba4f3_42 rfl (by decide) rfl ?_
    refine g_aload_n (j := 6) C dJ6_getChars_ba4f3_43 rfl rfl ?_
    refine g_iinc (k := 4) (L' := [(5, .int (nI (k + 3))), (0, .int (-nI (v / 100))), (4, .int (nI (v % 100))), (3, .int (-nI (v / 100))), (6, .int (nI 0)), (1, .int (nI (k + 4))), (2, .ref vb)]) C dJ6_getChars_ba4f3_44 rfl (by rw [show Int32.ofInt (-1) = (-1 : Int32) from by decide]; exact sb_m1 (by omega)) (by decide) rfl ?_
    refine g_iload (j := 0) C dJ6_getChars_ba4f3_47 rfl ?_
    refine p_gets (v := .ref t1) C ho1 zfs_RJ6_83 dJ6_getChars_ba4f3_49 ?_
    refine g_iload (j := 2) C dJ6_getChars_ba4f3_52 rfl ?_
    refine p_tb (v := .int (nI (48 + v % 100 % 10))) C ho2 (vp_in_nI (by omega) (by decide)) (by rw [nI_clamp (by omega)]) dJ6_getChars_ba4f3_54 ?_
    refine p_bast (q0 := 1) (ws' := (tB cy q vb n z k (upd f (k + 3) (sb_b (48 + v % 100 % 10))) ++ E)) C rfl (vp_in_nI (by omega) (by omega)) (by rw [nI_clamp (by omega), vp_nar_byte]; rfl) dJ6_getChars_ba4f3_55 ?_
    refine g_aload_n (j := 6) C dJ6_getChars_ba4f3_56 rfl rfl ?_
    refine g_iinc (k := 0) (L' := [(5, .int (nI (k + 2))), (0, .int (-nI (v / 100))), (4, .int (nI (v % 100))), (3, .int (-nI (v / 100))), (6, .int (nI 0)), (1, .int (nI (k + 4))), (2, .ref vb)]) C dJ6_getChars_ba4f3_57 rfl (by rw [show Int32.ofInt (-1) = (-1 : Int32) from by decide]; exact sb_m1 (by omega)) (by decide) rfl ?_
    refine g_iload (j := 0) C dJ6_getChars_ba4f3_60 rfl ?_
    refine p_gets (v := .ref t2) C hn1 zfs_RJ6_87 dJ6_getChars_ba4f3_62 ?_
    refine g_iload (j := 2) C dJ6_getChars_ba4f3_65 rfl ?_
    refine p_tb (v := .int (nI (48 + v % 100 / 10))) C hn2 (vp_in_nI (by omega) (by decide)) (by rw [nI_clamp (by omega)]) dJ6_getChars_ba4f3_67 ?_
    refine p_bast (q0 := 1) (ws' := (tB cy q vb n z k (upd (upd f (k + 3) (sb_b (48 + v % 100 % 10))) (k + 2) (sb_b (48 + v % 100 / 10))) ++ E)) C rfl (vp_in_nI (by omega) (by omega)) (by rw [nI_clamp (by omega), vp_nar_byte]; rfl) dJ6_getChars_ba4f3_68 ?_
    refine g_goto C dJ6_getChars_ba4f3_69 (tgt := 22) (by decide) ?_
    refine g_iload_n (j := 1) C dJ6_getChars_ba4f3_22 rfl rfl ?_
    refine g_bipush (v := (-100 : Int32)) C dJ6_getChars_ba4f3_23 (by decide) ?_
    refine g_icmp_gt C dJ6_getChars_ba4f3_25 (tgt := 72) (by decide) (fun _ => ?_) (fun h9 => absurd (show -nI 100 < -nI (v / 100) from (sb_nlt (by decide) (by omega)).mpr (by omega)) h9)
    refine g_aload_n (j := 6) C dJ6_getChars_ba4f3_72 rfl rfl ?_
    refine g_iinc (k := 0) (L' := [(5, .int (nI (k + 1))), (0, .int (-nI (v / 100))), (4, .int (nI (v % 100))), (3, .int (-nI (v / 100))), (6, .int (nI 0)), (1, .int (nI (k + 4))), (2, .ref vb)]) C dJ6_getChars_ba4f3_73 rfl (by rw [show Int32.ofInt (-1) = (-1 : Int32) from by decide]; exact sb_m1 (by omega)) (by decide) rfl ?_
    refine g_iload (j := 0) C dJ6_getChars_ba4f3_76 rfl ?_
    refine p_gets (v := .ref t1) C ho1 zfs_RJ6_83 dJ6_getChars_ba4f3_78 ?_
    refine g_iload_n (j := 1) C dJ6_getChars_ba4f3_81 rfl rfl ?_
    refine g_ineg C dJ6_getChars_ba4f3_82 ?_
    refine p_num (y := (nI (v / 100))) Int32.neg_neg ?_
    refine p_tb (v := .int (nI (48 + v / 100 % 10))) C ho2 (vp_in_nI (by omega) (by decide)) (by rw [nI_clamp (by omega)]) dJ6_getChars_ba4f3_83 ?_
    refine p_bast (q0 := 1) (ws' := (tB cy q vb n z k (upd (upd (upd f (k + 3) (sb_b (48 + v % 100 % 10))) (k + 2) (sb_b (48 + v % 100 / 10))) (k + 1) (sb_b (48 + v / 100 % 10))) ++ E)) C rfl (vp_in_nI (by omega) (by omega)) (by rw [nI_clamp (by omega), vp_nar_byte]; rfl) dJ6_getChars_ba4f3_84 ?_
    refine g_iload_n (j := 1) C dJ6_getChars_ba4f3_85 rfl rfl ?_
    refine g_bipush (v := (-9 : Int32)) C dJ6_getChars_ba4f3_86 (by decide) ?_
    refine g_icmp_ge C dJ6_getChars_ba4f3_88 (tgt := 104) (by decide) (fun h9 => absurd h9 (fun h9 => by have := (sb_nle (by decide) (by omega)).mp (show -nI 9 ≤ -nI (v / 100) from h9); omega)) (fun _ => ?_)
    refine g_aload_n (j := 6) C dJ6_getChars_ba4f3_91 rfl rfl ?_
    refine g_iinc (k := 0) (L' := [(5, .int (nI (k))), (0, .int (-nI (v / 100))), (4, .int (nI (v % 100))), (3, .int (-nI (v / 100))), (6, .int (nI 0)), (1, .int (nI (k + 4))), (2, .ref vb)]) C dJ6_getChars_ba4f3_92 rfl (by rw [show Int32.ofInt (-1) = (-1 : Int32) from by decide]; exact sb_m1 (by omega)) (by decide) rfl ?_
    refine g_iload (j := 0) C dJ6_getChars_ba4f3_95 rfl ?_
    refine p_gets (v := .ref t2) C hn1 zfs_RJ6_87 dJ6_getChars_ba4f3_97 ?_
    refine g_iload_n (j := 1) C dJ6_getChars_ba4f3_100 rfl rfl ?_
    refine g_ineg C dJ6_getChars_ba4f3_101 ?_
    refine p_num (y := (nI (v / 100))) Int32.neg_neg ?_
    refine p_tb (v := .int (nI (48 + v / 100 / 10))) C hn2 (vp_in_nI (by omega) (by decide)) (by rw [nI_clamp (by omega)]) dJ6_getChars_ba4f3_102 ?_
    refine p_bast (q0 := 1) (ws' := (tB cy q vb n z k (upd (upd (upd (upd f (k + 3) (sb_b (48 + v % 100 % 10))) (k + 2) (sb_b (48 + v % 100 / 10))) (k + 1) (sb_b (48 + v / 100 % 10))) k (sb_b (48 + v / 100 / 10))) ++ E)) C rfl (vp_in_nI (by omega) (by omega)) (by rw [nI_clamp (by omega), vp_nar_byte]; rfl) dJ6_getChars_ba4f3_103 ?_
    refine g_iload (j := 4) C dJ6_getChars_ba4f3_104 rfl ?_
    refine g_if_eq C dJ6_getChars_ba4f3_106 (tgt := 118) (by decide) (fun _ => ?_) (fun h9 => absurd rfl h9)
    refine g_iload (j := 0) C dJ6_getChars_ba4f3_118 rfl ?_
    exact t_iret C hr rfl ⟨_, rfl, zDig4 c1 c2 c3 hv⟩ (Nat.le_refl _) (Nat.le_refl _) dJ6_getChars_ba4f3_120
set_option maxRecDepth 100000 in
set_option maxHeartbeats 4000000 in
theorem c_appI5 (l : Launch) (D : va_G) (cy : Nat → ClassId) (E : va_W) (q v n k : Nat) (z : Int32) (f : Nat → Int32) (v0 : Nat) (hv : v0 < 10000) (t : Nat → Nat) (hL : sb_Lat t k f) (hf : sb_Fit f) (hkn : k ≤ n) (hn : n < 2 ^ 26) : zMt l yJ5_append_c97b9 cJ5_append_c97b9 4 (some (.object "java/lang/AbstractStringBuilder")) (zrt 5 (zmc n (k + sb_dg v0)) (zms n (k + sb_dg v0))) D (zTy cy) zEn (tB cy q v n z k f ++ E) [.ref q, .int (nI v0)] (zmc n (k + sb_dg v0)) (zms n (k + sb_dg v0)) (tR D (zTy cy) (fun a w => a = q ∧ ∃ v2 f2, w = tB cy q v2 (zcp n (k + sb_dg v0)) z (k + sb_dg v0) f2 ++ E ∧ sb_Lat (sb_cat t k (sb_dec v0)) (k + sb_dg v0) f2 ∧ sb_Fit f2)) := by
  refine zMt.of (by decide) (Nat.le_of_ble_eq_true rfl) ?_
  intro p e s m below meth c A C hr hE
  have hdg := sb_dg_in v0
  refine zG_L (L' := [(0, .ref q), (1, .int (nI v0))]) rfl ?_
  refine g_aload_n (j := 0) C dJ5_append_c97b9_0 rfl rfl ?_
  refine p_get (q0 := 0) (k := 3) (ci := 1) (N := 4) (v := .int (nI k)) C rfl rfl zin_RJ4 (by decide) zfj_RJ5_79 rfl dJ5_append_c97b9_1 ?_
  refine g_istore_n (L' := [(2, .int (nI k)), (0, .ref q), (1, .int (nI v0))]) C dJ5_append_c97b9_4 rfl (by decide) rfl ?_
  refine g_iload_n (j := 0) C dJ5_append_c97b9_5 rfl rfl ?_
  refine g_iload_n (j := 2) C dJ5_append_c97b9_6 rfl rfl ?_
  refine t_Si (As := [.int (nI v0)]) (rest := [.int (nI k)]) zEn_ge hE C (c_strSize l D cy (tB cy q v n z k f ++ E) v0 hv) zml_RJ5_245 zcs_J6_stringSize_0f7a4 rfl rfl ⟨Nat.le_of_ble_eq_true rfl, Nat.le_of_ble_eq_true rfl⟩ rfl rfl (Nat.le_of_ble_eq_true rfl) ⟨Nat.zero_le _, Nat.zero_le _⟩ dJ5_append_c97b9_7 ?_
  intro r w h
  obtain ⟨rfl, rfl⟩ := h
  refine g_iadd C dJ5_append_c97b9_10 ?_
  refine p_num (y := (nI (k + sb_dg v0))) (nI_add _ _) ?_
  refine g_istore_n (L' := [(3, .int (nI (k + sb_dg v0))), (2, .int (nI k)), (0, .ref q), (1, .int (nI v0))]) C dJ5_append_c97b9_11 rfl (by decide) rfl ?_
  refine g_aload_n (j := 2) C dJ5_append_c97b9_12 rfl rfl ?_
  refine g_iload_n (j := 0) C dJ5_append_c97b9_13 rfl rfl ?_
  refine t_Uv (As := [.int (nI (k + sb_dg v0))]) (rest := []) zEn_ge hE C (c_ens l D cy E q v n k z f (k + sb_dg v0) hf (by omega) (by omega)) zcu_RJ5_100 (zselE hE.2.2.2.2 (List.mem_of_getElem? (i := 0) rfl) _) (zRec.of C (ci := 1) (q0 := 0) rfl rfl) rfl rfl ⟨Nat.le_of_ble_eq_true rfl, Nat.le_of_ble_eq_true rfl⟩ rfl rfl (Nat.le_of_ble_eq_true rfl) ⟨by show 0 + 0 + zmc n (k + sb_dg v0) ≤ zmc n (k + sb_dg v0); omega, by show 0 + 0 + zms n (k + sb_dg v0) ≤ zms n (k + sb_dg v0); omega⟩ dJ5_append_c97b9_14 ?_
  intro w h
  obtain ⟨v2, f2, rfl, hk2, hf2⟩ := h
  have hz1 := zcp_ge n (k + sb_dg v0)
  have hz2 := zcp_lt (n := n) (m := k + sb_dg v0)
  refine g_aload_n (j := 2) C dJ5_append_c97b9_17 rfl rfl ?_
  refine t_Ui (As := []) (rest := []) zEn_ge hE C (c_isLatin1 l D cy E q v2 (zcp n (k + sb_dg v0)) k z f2) zcu_RJ5_83 (C.2.2.2.2.1 _ zsel4) (zRec.of C (ci := 1) (q0 := 0) rfl rfl) rfl rfl ⟨Nat.le_of_ble_eq_true rfl, Nat.le_of_ble_eq_true rfl⟩ rfl rfl (Nat.le_of_ble_eq_true rfl) ⟨by show 0 + 0 + zmc n (k + sb_dg v0) + 0 ≤ zmc n (k + sb_dg v0); omega, by show 0 + 0 + zms n (k + sb_dg v0) + 0 ≤ zms n (k + sb_dg v0); omega⟩ dJ5_append_c97b9_18 ?_
  intro r w h
  obtain ⟨rfl, rfl⟩ := h
  refine g_if_eq C dJ5_append_c97b9_21 (tgt := 37) (by decide) (fun h9 => absurd h9 (by decide)) (fun _ => ?_)
  refine g_iload_n (j := 3) C dJ5_append_c97b9_24 rfl rfl ?_
  refine g_iload_n (j := 0) C dJ5_append_c97b9_25 rfl rfl ?_
  refine g_aload_n (j := 2) C dJ5_append_c97b9_26 rfl rfl ?_
  refine p_get (q0 := 0) (k := 0) (ci := 1) (N := 4) (v := .ref v2) C rfl rfl zin_RJ4 (by decide) zfj_RJ5_15 rfl dJ5_append_c97b9_27 ?_
  refine t_Si (As := [.int (nI v0), .int (nI (k + sb_dg v0)), .ref v2]) (rest := []) zEn_ge hE C (c_getChars l D cy E q v2 (zcp n (k + sb_dg v0)) k z f2 v0 hv hz1.1 (by omega)) zml_RJ5_248 zcs_J6_getChars_ba4f3 rfl rfl ⟨Nat.le_of_ble_eq_true rfl, Nat.le_of_ble_eq_true rfl⟩ rfl rfl (Nat.le_of_ble_eq_true rfl) ⟨by show 0 + 0 + zmc n (k + sb_dg v0) + 0 + 0 ≤ zmc n (k + sb_dg v0); omega, by show 0 + 0 + zms n (k + sb_dg v0) + 0 + 0 ≤ zms n (k + sb_dg v0); omega⟩ dJ5_append_c97b9_30 ?_
  intro r w h
  obtain ⟨f3, rfl, hd1, hd2, hd3⟩ := h
  refine g_pop C dJ5_append_c97b9_33 rfl ?_
  refine g_goto C dJ5_append_c97b9_34 (tgt := 48) (by decide) ?_
  refine g_aload_n (j := 2) C dJ5_append_c97b9_48 rfl rfl ?_
  refine g_iload_n (j := 0) C dJ5_append_c97b9_49 rfl rfl ?_
  refine p_put (q0 := 0) (k := 3) (ci := 1) (N := 4) (ty := .int) (v := .int (nI (k + sb_dg v0))) (ws' := (tB cy q v2 (zcp n (k + sb_dg v0)) z (k + sb_dg v0) f3 ++ E)) C rfl rfl zin_RJ4 (by decide) zfj_RJ5_79 tyJ4_ok nmJ4 rfl (by decide +kernel) rfl rfl (Nat.le_of_ble_eq_true rfl) rfl dJ5_append_c97b9_50 ?_
  refine g_aload_n (j := 2) C dJ5_append_c97b9_53 rfl rfl ?_
  exact t_aret C hr (Or.inl ⟨_, rfl⟩) ⟨rfl, v2, f3, rfl, sb_latPut hL (fun j hj => by rw [hd1 j hj]; exact hk2 j (by omega)) hd2, hd3 hf2⟩ (by show 0 + 0 + _ + 0 + 0 ≤ _; omega) (by show 0 + 0 + _ + 0 + 0 ≤ _; omega) dJ5_append_c97b9_54
set_option maxRecDepth 100000 in
set_option maxHeartbeats 4000000 in
theorem c_appI (l : Launch) (D : va_G) (cy : Nat → ClassId) (E : va_W) (q v n k : Nat) (z : Int32) (f : Nat → Int32) (v0 : Nat) (hv : v0 < 10000) (t : Nat → Nat) (hL : sb_Lat t k f) (hf : sb_Fit f) (hkn : k ≤ n) (hn : n < 2 ^ 26) : zMt l yJ4_append_bf812 cJ4_append_bf812 2 (some (.object "java/lang/StringBuilder")) (zrt 6 (zmc n (k + sb_dg v0)) (zms n (k + sb_dg v0))) D (zTy cy) zEn (tB cy q v n z k f ++ E) [.ref q, .int (nI v0)] (zmc n (k + sb_dg v0)) (zms n (k + sb_dg v0)) (tR D (zTy cy) (fun a w => a = q ∧ ∃ v2 f2, w = tB cy q v2 (zcp n (k + sb_dg v0)) z (k + sb_dg v0) f2 ++ E ∧ sb_Lat (sb_cat t k (sb_dec v0)) (k + sb_dg v0) f2 ∧ sb_Fit f2)) := by
  refine zMt.of (by decide) (Nat.le_of_ble_eq_true rfl) ?_
  intro p e s m below meth c A C hr hE
  refine zG_L (L' := [(0, .ref q), (1, .int (nI v0))]) rfl ?_
  refine g_aload_n (j := 0) C dJ4_append_bf812_0 rfl rfl ?_
  refine g_iload_n (j := 1) C dJ4_append_bf812_1 rfl rfl ?_
  refine t_SUr (As := [.int (nI v0)]) (rest := []) zEn_ge hE C (c_appI5 l D cy E q v n k z f v0 hv t hL hf hkn hn) (zAt C (ci := 1) rfl) zcsu_RJ4_53 (zRec.of C (ci := 1) (q0 := 0) rfl rfl) rfl rfl ⟨Nat.le_of_ble_eq_true rfl, Nat.le_of_ble_eq_true rfl⟩ rfl rfl (Nat.le_of_ble_eq_true rfl) ⟨by show 0 + zmc n (k + sb_dg v0) ≤ zmc n (k + sb_dg v0); omega, by show 0 + zms n (k + sb_dg v0) ≤ zms n (k + sb_dg v0); omega⟩ dJ4_append_bf812_2 ?_
  intro r w h
  obtain ⟨rfl, h⟩ := h
  refine g_pop C dJ4_append_bf812_5 rfl ?_
  refine g_aload_n (j := 0) C dJ4_append_bf812_6 rfl rfl ?_
  exact t_aret C hr (Or.inl ⟨_, rfl⟩) ⟨rfl, h⟩ (by show 0 + _ ≤ _; omega) (by show 0 + _ ≤ _; omega) dJ4_append_bf812_7
