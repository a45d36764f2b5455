/-! THE READER: what it rests on (laid by wip/whole/mkreader.py) -/
theorem zfs_RX1_60 : Cond.fieldLink RX1 60 "CinemaProgramme$Reader" "NUMBERS" "[I" ∈ zAll := zg (z_t6 (List.mem_of_getElem? (i := 103) (by decide +kernel))) (by decide +kernel)
def zWords : List Int32 := [nI 112, nI 108, nI 97, nI 110, nI 115, nI 101, nI 108, nI 108, nI 100, nI 114, nI 111, nI 112, nI 102, nI 97, nI 105, nI 108, nI 100, nI 97, nI 121, nI 115]
def zNums : List Int32 := [nI 4, nI 2, nI 1, nI 2, nI 1]
def zNum (v : Int32) : Int32 := zNums.getD v.toNatClampNeg 0
def zChr (l : List Int32) (v : Int32) : Int32 := ((l.getD v.toNatClampNeg 0 &&& (nI 255)).toUInt32 % 65536).toInt32
/-- what the reader rests on -/
def zEr : zEV := fun A U H => zEn A U H ∧ (∃ a, vk_R RX1 80 "planselldropfaildays" a U ∧ zS a zWords A U H) ∧ ∃ t, va_Z "CinemaProgramme$Reader" "NUMBERS" "[I" (.ref t) A U H ∧ va_T .int t 5 (fun j => .int (zNums.getD j 0)) A U H
theorem zEr_ge : zGE zEr := by
  refine ⟨?_, ?_, ?_, ?_⟩
  · rintro A s U H hW ⟨h1, ⟨a, h2, h3⟩, t, h4, h5⟩
    exact ⟨zEn_ge.1 A s U H hW h1, ⟨a, vk_R.warm hW h2, (zS_ge a _).1 A s U H hW h3⟩, t, va_Z.moved hW.alike h4, va_T.moved hW.alike h5⟩
  · rintro A U H H1 ⟨h1, ⟨a, h2, h3⟩, t, h4, h5⟩ hq
    exact ⟨zEn_ge.2.1 A U H H1 h1 hq, ⟨a, h2, (zS_ge a _).2.1 A U H H1 h3 hq⟩, t, h4.kept hq, h5.kept hq⟩
  · rintro A B U H ⟨h1, ⟨a, h2, h3⟩, t, h4, h5⟩ hq
    exact ⟨zEn_ge.2.2.1 A B U H h1 hq, ⟨a, h2, (zS_ge a _).2.2.1 A B U H h3 hq⟩, t, h4.narrow hq, h5.narrow hq⟩
  · rintro A u U H hv ⟨h1, ⟨a, h2, h3⟩, t, h4, h5⟩
    exact ⟨zEn_ge.2.2.2 A u U H hv h1, ⟨a, vk_R.same hv h2, (zS_ge a _).2.2.2 A u U H hv h3⟩, t, va_Z.moved (by rw [hv]; exact Vm.Alike.refl _) h4, va_T.moved (by rw [hv]; exact Vm.Alike.refl _) h5⟩
theorem zpT (B R E : va_W) : (B ++ (R ++ E)).Perm (R ++ (B ++ E)) := List.perm_append_comm_assoc B R E
theorem c_strAtV (l : Launch) (D : va_G) (cy : Nat → ClassId) (ws : va_W) (a0 : Nat) (ls : List Int32) (v : Int32) (h1 : ¬ v < 0) (h2 : ¬ nI ls.length ≤ v) (hN : ls.length < 2 ^ 31) : zMt l yJ0_charAt_5068e cJ0_charAt_5068e 2 (some .char) (zrt 4 0 0) D (zTy cy) (zES a0 ls) ws [.ref a0, .int v] 0 0 (tI D (zTy cy) (fun r w => r = zChr ls v ∧ w = ws)) := by
  rcases pk_ix v hN with h | h | ⟨i, hi, rfl⟩
  · exact absurd h h1
  · exact absurd h h2
  · unfold zChr
    rw [nI_clamp (by omega)]
    exact c_strAt l D cy ws a0 ls i hi hN
def f_X1_signAt (kT : Nat) (fT : Nat → Int32) (v1 : Int32) : Int32 := if v1 < 0 then (-1 : Int32) else if nI kT ≤ v1 then (-1 : Int32) else ((fT v1.toNatClampNeg &&& (nI 255)).toUInt32 % 65536).toInt32
set_option maxRecDepth 100000 in
set_option maxHeartbeats 4000000 in
theorem c_X1_signAt (l : Launch) (D : va_G) (cy : Nat → ClassId) (vT nT : Nat) (zT : Int32) (kT : Nat) (fT : Nat → Int32) (hkT : kT ≤ nT) (hnT : nT < 2 ^ 31) (ad : Nat → Nat) (E : va_W) (X : Nat → Nat → Int32) (v1 : Int32) : zMt l yX1_signAt cX1_signAt 2 (some .int) (zrm 5) D (zTy cy) zEr (zW cy ad shC (tB cy (ad 152) vT nT zT kT fT ++ E) X) [.ref (ad 152), .int v1] 0 0 (tI D (zTy cy) (fun r w => r = f_X1_signAt kT fT v1 ∧ w = zW cy ad shC (tB cy (ad 152) vT nT zT kT fT ++ E) X)) := by
  refine zMt.of (by decide) (Nat.le_of_ble_eq_true rfl) ?_
  intro p e s m below meth c A C hr hE
  refine zG_L (L' := [(0, .ref (ad 152)), (1, .int v1)]) rfl ?_
  have hnil : ∀ (ws : va_W), f_X1_signAt kT fT v1 = -1 → zG p l e (zrm 5) s m [Value.ref (ad 152), Value.int v1].toArray below meth c 2 D A 0 0 (MQ below (tI D (zTy cy) (fun r w => r = f_X1_signAt kT fT v1 ∧ w = ws) A) [Value.ref (ad 152), Value.int v1].toArray s 0 0 A) ws 20 [(0, .ref (ad 152)), (1, .int v1)] [] := by
    intro ws h
    refine g_iconst (v := (-1 : Int32)) C dX1_signAt_20 (by decide) ?_
    exact t_iret C hr rfl ⟨h.symm, rfl⟩ (Nat.le_refl _) (Nat.le_refl _) dX1_signAt_21
  refine g_iload_n (j := 1) C dX1_signAt_0 rfl rfl ?_
  refine g_if_lt C dX1_signAt_1 (tgt := 20) (by decide) (fun h1 => ?_) (fun h1 => ?_)
  · exact hnil _ (if_pos h1)
  refine g_iload_n (j := 1) C dX1_signAt_4 rfl rfl ?_
  refine g_aload_n (j := 0) C dX1_signAt_5 rfl rfl ?_
  refine zG.less (ws' := tB cy (ad 152) vT nT zT kT fT ++ (z_rend cy ad X 0 shC ++ E)) (l' := zW cy ad shC (tB cy (ad 152) vT nT zT kT fT ++ E) X) (zpT _ _ _) (List.Sublist.refl _) ?_
  refine t_Vi (As := []) (rest := [.int v1]) zEn_ge hE.1 C (c_length l D cy (z_rend cy ad X 0 shC ++ E) (ad 152) vT nT kT zT fT) zml_RX1_31 zcv_J4_length_8abf5 (zRec.of C (ci := 1) (q0 := 0) rfl rfl) rfl rfl ⟨Nat.le_of_ble_eq_true rfl, Nat.le_of_ble_eq_true rfl⟩ rfl rfl (Nat.le_of_ble_eq_true rfl) ⟨Nat.zero_le _, Nat.zero_le _⟩ dX1_signAt_6 ?_
  intro r w h9
  obtain ⟨rfl, rfl⟩ := h9
  refine g_icmp_ge C dX1_signAt_9 (tgt := 20) (by decide) (fun h2 => ?_) (fun h2 => ?_)
  · refine zG.less (ws' := zW cy ad shC (tB cy (ad 152) vT nT zT kT fT ++ E) X) (l' := tB cy (ad 152) vT nT zT kT fT ++ (z_rend cy ad X 0 shC ++ E)) (zpT _ _ _).symm (List.Sublist.refl _) ?_
    exact hnil _ ((if_neg h1).trans (if_pos h2))
  have hf : f_X1_signAt kT fT v1 = ((fT v1.toNatClampNeg &&& (nI 255)).toUInt32 % 65536).toInt32 := (if_neg h1).trans (if_neg h2)
  rcases pk_ix v1 (show kT < 2 ^ 31 by omega) with h | h | ⟨i, hi, rfl⟩
  · exact absurd h h1
  · exact absurd h h2
  rw [nI_clamp (by omega)] at hf
  refine g_aload_n (j := 0) C dX1_signAt_12 rfl rfl ?_
  refine g_iload_n (j := 1) C dX1_signAt_13 rfl rfl ?_
  refine t_Vi (As := [.int (nI i)]) (rest := []) zEn_ge hE.1 C (c_charAt l D cy (z_rend cy ad X 0 shC ++ E) (ad 152) vT nT kT zT fT i hi hkT hnT) zml_RX1_41 zcv_J4_charAt_5068e (zRec.of C (ci := 1) (q0 := 0) rfl rfl) rfl rfl ⟨Nat.le_of_ble_eq_true rfl, Nat.le_of_ble_eq_true rfl⟩ rfl rfl (Nat.le_of_ble_eq_true rfl) ⟨Nat.zero_le _, Nat.zero_le _⟩ dX1_signAt_14 ?_
  intro r w h9
  obtain ⟨rfl, rfl⟩ := h9
  refine zG.less (ws' := zW cy ad shC (tB cy (ad 152) vT nT zT kT fT ++ E) X) (l' := tB cy (ad 152) vT nT zT kT fT ++ (z_rend cy ad X 0 shC ++ E)) (zpT _ _ _).symm (List.Sublist.refl _) ?_
  refine g_goto C dX1_signAt_17 (tgt := 21) (by decide) ?_
  exact t_iret C hr rfl ⟨hf.symm, rfl⟩ (Nat.le_refl _) (Nat.le_refl _) dX1_signAt_21
