/-! THE LAW'S HELPERS: each calls the class and catches (laid by wip/whole/mklwrap.py) -/
abbrev zrw (mc ms : Nat) : Room := { frames := 61, cells := mc, slots := ms, locals := 5000 }
/-- what a helper answers: 0 and the answer kept, or the number of the exception among those that it catches -/
def zPw (cy : Nat → ClassId) (q ao : Nat) (f : Nat → Int64) (cv : Int32 → Int64) (cs : List Nat) (P : Int32 → va_W → Prop) (X : Nat → va_W → Prop) : Int32 → va_W → Prop := fun r w => (r = nI 0 ∧ ∃ v w1, P v w1 ∧ w = w1.set q (ao, .inl (cy 4, 1, .inr (.inl (vp_updL f 0 (cv v)))))) ∨ ∃ i c, cs[i]? = some c ∧ X c w ∧ c ≠ 0 ∧ r = nI (i + 1)
def zPwd (cy : Nat → ClassId) (q ao : Nat) (f : Nat → UInt64) (cs : List Nat) (P : UInt64 → va_W → Prop) (X : Nat → va_W → Prop) : Int32 → va_W → Prop := fun r w => (r = nI 0 ∧ ∃ v w1, P v w1 ∧ w = w1.set q (ao, .inl (cy 5, 1, .inr (.inr (.inr (.inl (vf_upd f 0 v))))))) ∨ ∃ i c, cs[i]? = some c ∧ X c w ∧ c ≠ 0 ∧ r = nI (i + 1)
theorem zkw_13 : Cond.classLink RL 13 (zExc 1) ∈ zAll := zg (z_t2 (List.mem_of_getElem? (i := 21) (by decide +kernel))) (by decide +kernel)
theorem zkw_15 : Cond.classLink RL 15 (zExc 2) ∈ zAll := zg (z_t2 (List.mem_of_getElem? (i := 22) (by decide +kernel))) (by decide +kernel)
theorem zkw_25 : Cond.classLink RL 25 (zExc 3) ∈ zAll := zg (z_t2 (List.mem_of_getElem? (i := 157) (by decide +kernel))) (by decide +kernel)
theorem zkw_50 : Cond.classLink RL 50 (zExc 6) ∈ zAll := zg (z_t3 (List.mem_of_getElem? (i := 68) (by decide +kernel))) (by decide +kernel)
theorem zkw_66 : Cond.classLink RL 66 (zExc 5) ∈ zAll := zg (z_t3 (List.mem_of_getElem? (i := 141) (by decide +kernel))) (by decide +kernel)
theorem zkw_120 : Cond.classLink RL 120 (zExc 4) ∈ zAll := zg (z_t4 (List.mem_of_getElem? (i := 223) (by decide +kernel))) (by decide +kernel)
theorem zml_RL_7 : Cond.methodLink RL 7 yX5_addHall ∈ zAll := zg (z_t2 (List.mem_of_getElem? (i := 23) (by decide +kernel))) (by decide +kernel)
theorem zcw_addHall : zCalW RL 149 yL_addHall cL_addHall 6 (some .int) [(0, 12, 15, 13), (0, 12, 19, 15)] 5 := ⟨⟨zg (z_t2 (List.mem_of_getElem? (i := 18) (by decide +kernel))) (by decide +kernel), zg (z_t2 (List.mem_of_getElem? (i := 19) (by decide +kernel))) (by decide +kernel), zg (z_t1 (List.mem_of_getElem? (i := 0) (by decide +kernel))) (by decide +kernel), zg (z_t2 (List.mem_of_getElem? (i := 20) (by decide +kernel))) (by decide +kernel)⟩, by decide +kernel⟩
set_option maxRecDepth 100000 in
set_option maxHeartbeats 8000000 in
theorem hw_addHall (l : Launch) (D : va_G) (cy : Nat → ClassId) {EV : zEV} (hG : zGE EV) (hsub : ∀ A U H, zEw A U H → EV A U H) (ws : va_W) (x : Nat) (fs : List Value) (p0 p1 p2 : Int32) (ao q : Nat) (f : Nat → Int64) (mc ms : Nat) (rm : Room) (P : Int32 → va_W → Prop) (X : Nat → va_W → Prop) (hM : zMy l yX5_addHall cX5_addHall 6 (some .int) rm D (zTy cy) EV ws [.ref x, .int p0, .int p1, .int p2] mc ms P X) (hrc : rm.cells = mc) (hrs : rm.slots = ms) (hR : rm.frames ≤ 60 ∧ rm.locals ≤ 4000) (hx0 : ws[0]? = some (x, .inr (9, fs))) (hout : ∀ v w, P v w → w[q]? = some (ao, .inl (cy 4, 1, .inr (.inl f)))) (hcd : ∀ c w, X c w → c ≠ 0 → c = 1 ∨ c = 2) : zMw l yL_addHall cL_addHall 6 (some .int) [(0, 12, 15, 13), (0, 12, 19, 15)] (zrw mc ms) D (zTy cy) zEw ws [.ref x, .int p0, .int p1, .int p2, .ref ao] mc ms (tI D (zTy cy) (zPw cy q ao f Int32.toInt64 [1, 2] P X)) := by
  refine zMw.of (by decide) (Nat.le_of_ble_eq_true rfl) ?_
  intro p e s m below meth c A C hr hE htab
  obtain ⟨hR1, hR2⟩ := hR
  refine zG_L (L' := [(0, .ref x), (1, .int p0), (2, .int p1), (3, .int p2), (4, .ref ao)]) rfl ?_
  refine g_aload (j := 4) C dL_addHall_0 rfl ?_
  refine g_iconst (v := (nI 0)) C dL_addHall_2 (by decide) ?_
  refine g_aload_n (j := 0) C dL_addHall_3 rfl rfl ?_
  refine g_iload_n (j := 1) C dL_addHall_4 rfl rfl ?_
  refine g_iload_n (j := 2) C dL_addHall_5 rfl rfl ?_
  refine g_iload_n (j := 3) C dL_addHall_6 rfl rfl ?_
  refine w_Yi (As := [.int p0, .int p1, .int p2]) (rest := [.int (nI 0), .ref ao]) hG (hsub _ _ _ hE) C hM zml_RL_7 zcv_X5_addHall (zRec.of C (ci := 9) (q0 := 0) rfl hx0) hrc hrs ⟨by show rm.frames + 1 ≤ 61; omega, by show 8 + (6 + 11) + rm.locals ≤ 5000; omega⟩ rfl rfl (Nat.le_of_ble_eq_true rfl) ⟨by show 0 + mc ≤ mc; omega, by show 0 + ms ≤ ms; omega⟩ dL_addHall_7 (fun code w hX hne => ?_) (fun r w hP => ?_)
  · rcases hcd code w hX hne with rfl | rfl
    · refine ⟨15, ⟨[], ⟨0, 12, 15, 13⟩, [⟨0, 12, 19, 15⟩], zExc 1, htab, (fun _ h => nomatch h), rfl, by decide, C.2.2.2.2.1 _ zkw_13, va_tabs rfl rfl (hE.1.2.1.2.1 _ (List.mem_of_getElem? (i := 0) rfl)), rfl⟩, fun q9 => ?_⟩
      refine g_astore (L' := [(5, .ref q9), (0, .ref x), (1, .int p0), (2, .int p1), (3, .int p2), (4, .ref ao)]) C dL_addHall_15 (by decide) rfl ?_
      refine g_iconst (v := (nI 1)) C dL_addHall_17 (by decide) ?_
      exact t_iret C hr rfl (Or.inr ⟨0, 1, rfl, hX, by decide, rfl⟩) (by show 0 + mc ≤ mc; omega) (by show 0 + ms ≤ ms; omega) dL_addHall_18
    · refine ⟨19, ⟨[⟨0, 12, 15, 13⟩], ⟨0, 12, 19, 15⟩, [], zExc 2, htab, (List.forall_mem_cons.mpr ⟨Or.inr ⟨by decide, zExc 1, C.2.2.2.2.1 _ zkw_13, hE.2 (zExc 2, zExc 1) (List.mem_of_getElem? (i := 1) rfl)⟩, (fun _ h => nomatch h)⟩), rfl, by decide, C.2.2.2.2.1 _ zkw_15, va_tabs rfl rfl (hE.1.2.1.2.1 _ (List.mem_of_getElem? (i := 1) rfl)), rfl⟩, fun q9 => ?_⟩
      refine g_astore (L' := [(5, .ref q9), (0, .ref x), (1, .int p0), (2, .int p1), (3, .int p2), (4, .ref ao)]) C dL_addHall_19 (by decide) rfl ?_
      refine g_iconst (v := (nI 2)) C dL_addHall_21 (by decide) ?_
      exact t_iret C hr rfl (Or.inr ⟨1, 2, rfl, hX, by decide, rfl⟩) (by show 0 + mc ≤ mc; omega) (by show 0 + ms ≤ ms; omega) dL_addHall_22
  · skip
    refine n_i2l C dL_addHall_10 ?_
    refine n_last (q0 := q) (n := 1) (ws' := w.set q (ao, .inl (cy 4, 1, .inr (.inl (vp_updL f 0 r.toInt64))))) C (hout r w hP) (nI_in (by decide) (by decide)) (by rw [nI_clamp (by decide)]) dL_addHall_11 ?_
    refine g_goto C dL_addHall_12 (tgt := 23) (by decide) ?_
    refine g_iconst (v := (nI 0)) C dL_addHall_23 (by decide) ?_
    exact t_iret C hr rfl (Or.inl ⟨rfl, r, w, hP, rfl⟩) (by show 0 + mc ≤ mc; omega) (by show 0 + ms ≤ ms; omega) dL_addHall_24
theorem zml_RL_17 : Cond.methodLink RL 17 yX5_addFilm ∈ zAll := zg (z_t2 (List.mem_of_getElem? (i := 140) (by decide +kernel))) (by decide +kernel)
theorem zcw_addFilm : zCalW RL 158 yL_addFilm cL_addFilm 8 (some .int) [(0, 16, 19, 13), (0, 16, 23, 15)] 7 := ⟨⟨zg (z_t2 (List.mem_of_getElem? (i := 137) (by decide +kernel))) (by decide +kernel), zg (z_t2 (List.mem_of_getElem? (i := 138) (by decide +kernel))) (by decide +kernel), zg (z_t1 (List.mem_of_getElem? (i := 0) (by decide +kernel))) (by decide +kernel), zg (z_t2 (List.mem_of_getElem? (i := 139) (by decide +kernel))) (by decide +kernel)⟩, by decide +kernel⟩
set_option maxRecDepth 100000 in
set_option maxHeartbeats 8000000 in
theorem hw_addFilm (l : Launch) (D : va_G) (cy : Nat → ClassId) {EV : zEV} (hG : zGE EV) (hsub : ∀ A U H, zEw A U H → EV A U H) (ws : va_W) (x : Nat) (fs : List Value) (p0 p1 p2 p3 p4 : Int32) (ao q : Nat) (f : Nat → Int64) (mc ms : Nat) (rm : Room) (P : Int32 → va_W → Prop) (X : Nat → va_W → Prop) (hM : zMy l yX5_addFilm cX5_addFilm 8 (some .int) rm D (zTy cy) EV ws [.ref x, .int p0, .int p1, .int p2, .int p3, .int p4] mc ms P X) (hrc : rm.cells = mc) (hrs : rm.slots = ms) (hR : rm.frames ≤ 60 ∧ rm.locals ≤ 4000) (hx0 : ws[0]? = some (x, .inr (9, fs))) (hout : ∀ v w, P v w → w[q]? = some (ao, .inl (cy 4, 1, .inr (.inl f)))) (hcd : ∀ c w, X c w → c ≠ 0 → c = 1 ∨ c = 2) : zMw l yL_addFilm cL_addFilm 8 (some .int) [(0, 16, 19, 13), (0, 16, 23, 15)] (zrw mc ms) D (zTy cy) zEw ws [.ref x, .int p0, .int p1, .int p2, .int p3, .int p4, .ref ao] mc ms (tI D (zTy cy) (zPw cy q ao f Int32.toInt64 [1, 2] P X)) := by
  refine zMw.of (by decide) (Nat.le_of_ble_eq_true rfl) ?_
  intro p e s m below meth c A C hr hE htab
  obtain ⟨hR1, hR2⟩ := hR
  refine zG_L (L' := [(0, .ref x), (1, .int p0), (2, .int p1), (3, .int p2), (4, .int p3), (5, .int p4), (6, .ref ao)]) rfl ?_
  refine g_aload (j := 6) C dL_addFilm_0 rfl ?_
  refine g_iconst (v := (nI 0)) C dL_addFilm_2 (by decide) ?_
  refine g_aload_n (j := 0) C dL_addFilm_3 rfl rfl ?_
  refine g_iload_n (j := 1) C dL_addFilm_4 rfl rfl ?_
  refine g_iload_n (j := 2) C dL_addFilm_5 rfl rfl ?_
  refine g_iload_n (j := 3) C dL_addFilm_6 rfl rfl ?_
  refine g_iload (j := 4) C dL_addFilm_7 rfl ?_
  refine g_iload (j := 5) C dL_addFilm_9 rfl ?_
  refine w_Yi (As := [.int p0, .int p1, .int p2, .int p3, .int p4]) (rest := [.int (nI 0), .ref ao]) hG (hsub _ _ _ hE) C hM zml_RL_17 zcv_X5_addFilm (zRec.of C (ci := 9) (q0 := 0) rfl hx0) hrc hrs ⟨by show rm.frames + 1 ≤ 61; omega, by show 8 + (8 + 11) + rm.locals ≤ 5000; omega⟩ rfl rfl (Nat.le_of_ble_eq_true rfl) ⟨by show 0 + mc ≤ mc; omega, by show 0 + ms ≤ ms; omega⟩ dL_addFilm_11 (fun code w hX hne => ?_) (fun r w hP => ?_)
  · rcases hcd code w hX hne with rfl | rfl
    · refine ⟨19, ⟨[], ⟨0, 16, 19, 13⟩, [⟨0, 16, 23, 15⟩], zExc 1, htab, (fun _ h => nomatch h), rfl, by decide, C.2.2.2.2.1 _ zkw_13, va_tabs rfl rfl (hE.1.2.1.2.1 _ (List.mem_of_getElem? (i := 0) rfl)), rfl⟩, fun q9 => ?_⟩
      refine g_astore (L' := [(7, .ref q9), (0, .ref x), (1, .int p0), (2, .int p1), (3, .int p2), (4, .int p3), (5, .int p4), (6, .ref ao)]) C dL_addFilm_19 (by decide) rfl ?_
      refine g_iconst (v := (nI 1)) C dL_addFilm_21 (by decide) ?_
      exact t_iret C hr rfl (Or.inr ⟨0, 1, rfl, hX, by decide, rfl⟩) (by show 0 + mc ≤ mc; omega) (by show 0 + ms ≤ ms; omega) dL_addFilm_22
    · refine ⟨23, ⟨[⟨0, 16, 19, 13⟩], ⟨0, 16, 23, 15⟩, [], zExc 2, htab, (List.forall_mem_cons.mpr ⟨Or.inr ⟨by decide, zExc 1, C.2.2.2.2.1 _ zkw_13, hE.2 (zExc 2, zExc 1) (List.mem_of_getElem? (i := 1) rfl)⟩, (fun _ h => nomatch h)⟩), rfl, by decide, C.2.2.2.2.1 _ zkw_15, va_tabs rfl rfl (hE.1.2.1.2.1 _ (List.mem_of_getElem? (i := 1) rfl)), rfl⟩, fun q9 => ?_⟩
      refine g_astore (L' := [(7, .ref q9), (0, .ref x), (1, .int p0), (2, .int p1), (3, .int p2), (4, .int p3), (5, .int p4), (6, .ref ao)]) C dL_addFilm_23 (by decide) rfl ?_
      refine g_iconst (v := (nI 2)) C dL_addFilm_25 (by decide) ?_
      exact t_iret C hr rfl (Or.inr ⟨1, 2, rfl, hX, by decide, rfl⟩) (by show 0 + mc ≤ mc; omega) (by show 0 + ms ≤ ms; omega) dL_addFilm_26
  · skip
    refine n_i2l C dL_addFilm_14 ?_
    refine n_last (q0 := q) (n := 1) (ws' := w.set q (ao, .inl (cy 4, 1, .inr (.inl (vp_updL f 0 r.toInt64))))) C (hout r w hP) (nI_in (by decide) (by decide)) (by rw [nI_clamp (by decide)]) dL_addFilm_15 ?_
    refine g_goto C dL_addFilm_16 (tgt := 27) (by decide) ?_
    refine g_iconst (v := (nI 0)) C dL_addFilm_27 (by decide) ?_
    exact t_iret C hr rfl (Or.inl ⟨rfl, r, w, hP, rfl⟩) (by show 0 + mc ≤ mc; omega) (by show 0 + ms ≤ ms; omega) dL_addFilm_28
theorem zml_RL_21 : Cond.methodLink RL 21 yX5_setShares ∈ zAll := zg (z_t2 (List.mem_of_getElem? (i := 181) (by decide +kernel))) (by decide +kernel)
theorem zcw_setShares : zCalW RL 162 yL_setShares cL_setShares 7 (some .int) [(0, 14, 17, 25), (0, 14, 21, 13)] 6 := ⟨⟨zg (z_t2 (List.mem_of_getElem? (i := 154) (by decide +kernel))) (by decide +kernel), zg (z_t2 (List.mem_of_getElem? (i := 155) (by decide +kernel))) (by decide +kernel), zg (z_t1 (List.mem_of_getElem? (i := 0) (by decide +kernel))) (by decide +kernel), zg (z_t2 (List.mem_of_getElem? (i := 156) (by decide +kernel))) (by decide +kernel)⟩, by decide +kernel⟩
set_option maxRecDepth 100000 in
set_option maxHeartbeats 8000000 in
theorem hw_setShares (l : Launch) (D : va_G) (cy : Nat → ClassId) {EV : zEV} (hG : zGE EV) (hsub : ∀ A U H, zEw A U H → EV A U H) (ws : va_W) (x : Nat) (fs : List Value) (p0 p1 p2 p3 : Int32) (ao q : Nat) (f : Nat → Int64) (mc ms : Nat) (rm : Room) (P : Int32 → va_W → Prop) (X : Nat → va_W → Prop) (hM : zMy l yX5_setShares cX5_setShares 6 (some .int) rm D (zTy cy) EV ws [.ref x, .int p0, .int p1, .int p2, .int p3] mc ms P X) (hrc : rm.cells = mc) (hrs : rm.slots = ms) (hR : rm.frames ≤ 60 ∧ rm.locals ≤ 4000) (hx0 : ws[0]? = some (x, .inr (9, fs))) (hout : ∀ v w, P v w → w[q]? = some (ao, .inl (cy 4, 1, .inr (.inl f)))) (hcd : ∀ c w, X c w → c ≠ 0 → c = 3 ∨ c = 1) : zMw l yL_setShares cL_setShares 7 (some .int) [(0, 14, 17, 25), (0, 14, 21, 13)] (zrw mc ms) D (zTy cy) zEw ws [.ref x, .int p0, .int p1, .int p2, .int p3, .ref ao] mc ms (tI D (zTy cy) (zPw cy q ao f Int32.toInt64 [3, 1] P X)) := by
  refine zMw.of (by decide) (Nat.le_of_ble_eq_true rfl) ?_
  intro p e s m below meth c A C hr hE htab
  obtain ⟨hR1, hR2⟩ := hR
  refine zG_L (L' := [(0, .ref x), (1, .int p0), (2, .int p1), (3, .int p2), (4, .int p3), (5, .ref ao)]) rfl ?_
  refine g_aload (j := 5) C dL_setShares_0 rfl ?_
  refine g_iconst (v := (nI 0)) C dL_setShares_2 (by decide) ?_
  refine g_aload_n (j := 0) C dL_setShares_3 rfl rfl ?_
  refine g_iload_n (j := 1) C dL_setShares_4 rfl rfl ?_
  refine g_iload_n (j := 2) C dL_setShares_5 rfl rfl ?_
  refine g_iload_n (j := 3) C dL_setShares_6 rfl rfl ?_
  refine g_iload (j := 4) C dL_setShares_7 rfl ?_
  refine w_Yi (As := [.int p0, .int p1, .int p2, .int p3]) (rest := [.int (nI 0), .ref ao]) hG (hsub _ _ _ hE) C hM zml_RL_21 zcv_X5_setShares (zRec.of C (ci := 9) (q0 := 0) rfl hx0) hrc hrs ⟨by show rm.frames + 1 ≤ 61; omega, by show 8 + (6 + 11) + rm.locals ≤ 5000; omega⟩ rfl rfl (Nat.le_of_ble_eq_true rfl) ⟨by show 0 + mc ≤ mc; omega, by show 0 + ms ≤ ms; omega⟩ dL_setShares_9 (fun code w hX hne => ?_) (fun r w hP => ?_)
  · rcases hcd code w hX hne with rfl | rfl
    · refine ⟨17, ⟨[], ⟨0, 14, 17, 25⟩, [⟨0, 14, 21, 13⟩], zExc 3, htab, (fun _ h => nomatch h), rfl, by decide, C.2.2.2.2.1 _ zkw_25, va_tabs rfl rfl (hE.1.2.1.2.1 _ (List.mem_of_getElem? (i := 2) rfl)), rfl⟩, fun q9 => ?_⟩
      refine g_astore (L' := [(6, .ref q9), (0, .ref x), (1, .int p0), (2, .int p1), (3, .int p2), (4, .int p3), (5, .ref ao)]) C dL_setShares_17 (by decide) rfl ?_
      refine g_iconst (v := (nI 1)) C dL_setShares_19 (by decide) ?_
      exact t_iret C hr rfl (Or.inr ⟨0, 3, rfl, hX, by decide, rfl⟩) (by show 0 + mc ≤ mc; omega) (by show 0 + ms ≤ ms; omega) dL_setShares_20
    · refine ⟨21, ⟨[⟨0, 14, 17, 25⟩], ⟨0, 14, 21, 13⟩, [], zExc 1, htab, (List.forall_mem_cons.mpr ⟨Or.inr ⟨by decide, zExc 3, C.2.2.2.2.1 _ zkw_25, hE.2 (zExc 1, zExc 3) (List.mem_of_getElem? (i := 0) rfl)⟩, (fun _ h => nomatch h)⟩), rfl, by decide, C.2.2.2.2.1 _ zkw_13, va_tabs rfl rfl (hE.1.2.1.2.1 _ (List.mem_of_getElem? (i := 0) rfl)), rfl⟩, fun q9 => ?_⟩
      refine g_astore (L' := [(6, .ref q9), (0, .ref x), (1, .int p0), (2, .int p1), (3, .int p2), (4, .int p3), (5, .ref ao)]) C dL_setShares_21 (by decide) rfl ?_
      refine g_iconst (v := (nI 2)) C dL_setShares_23 (by decide) ?_
      exact t_iret C hr rfl (Or.inr ⟨1, 1, rfl, hX, by decide, rfl⟩) (by show 0 + mc ≤ mc; omega) (by show 0 + ms ≤ ms; omega) dL_setShares_24
  · skip
    refine n_i2l C dL_setShares_12 ?_
    refine n_last (q0 := q) (n := 1) (ws' := w.set q (ao, .inl (cy 4, 1, .inr (.inl (vp_updL f 0 r.toInt64))))) C (hout r w hP) (nI_in (by decide) (by decide)) (by rw [nI_clamp (by decide)]) dL_setShares_13 ?_
    refine g_goto C dL_setShares_14 (tgt := 25) (by decide) ?_
    refine g_iconst (v := (nI 0)) C dL_setShares_25 (by decide) ?_
    exact t_iret C hr rfl (Or.inl ⟨rfl, r, w, hP, rfl⟩) (by show 0 + mc ≤ mc; omega) (by show 0 + ms ≤ ms; omega) dL_setShares_26
theorem zml_RL_27 : Cond.methodLink RL 27 yX5_addTrailer ∈ zAll := zg (z_t2 (List.mem_of_getElem? (i := 210) (by decide +kernel))) (by decide +kernel)
theorem zcw_addTrailer : zCalW RL 166 yL_addTrailer cL_addTrailer 7 (some .int) [(0, 14, 17, 25), (0, 14, 21, 13), (0, 14, 25, 15)] 6 := ⟨⟨zg (z_t2 (List.mem_of_getElem? (i := 207) (by decide +kernel))) (by decide +kernel), zg (z_t2 (List.mem_of_getElem? (i := 208) (by decide +kernel))) (by decide +kernel), zg (z_t1 (List.mem_of_getElem? (i := 0) (by decide +kernel))) (by decide +kernel), zg (z_t2 (List.mem_of_getElem? (i := 209) (by decide +kernel))) (by decide +kernel)⟩, by decide +kernel⟩
set_option maxRecDepth 100000 in
set_option maxHeartbeats 8000000 in
theorem hw_addTrailer (l : Launch) (D : va_G) (cy : Nat → ClassId) {EV : zEV} (hG : zGE EV) (hsub : ∀ A U H, zEw A U H → EV A U H) (ws : va_W) (x : Nat) (fs : List Value) (p0 p1 p2 p3 : Int32) (ao q : Nat) (f : Nat → Int64) (mc ms : Nat) (rm : Room) (P : Int32 → va_W → Prop) (X : Nat → va_W → Prop) (hM : zMy l yX5_addTrailer cX5_addTrailer 6 (some .int) rm D (zTy cy) EV ws [.ref x, .int p0, .int p1, .int p2, .int p3] mc ms P X) (hrc : rm.cells = mc) (hrs : rm.slots = ms) (hR : rm.frames ≤ 60 ∧ rm.locals ≤ 4000) (hx0 : ws[0]? = some (x, .inr (9, fs))) (hout : ∀ v w, P v w → w[q]? = some (ao, .inl (cy 4, 1, .inr (.inl f)))) (hcd : ∀ c w, X c w → c ≠ 0 → c = 3 ∨ c = 1 ∨ c = 2) : zMw l yL_addTrailer cL_addTrailer 7 (some .int) [(0, 14, 17, 25), (0, 14, 21, 13), (0, 14, 25, 15)] (zrw mc ms) D (zTy cy) zEw ws [.ref x, .int p0, .int p1, .int p2, .int p3, .ref ao] mc ms (tI D (zTy cy) (zPw cy q ao f Int32.toInt64 [3, 1, 2] P X)) := by
  refine zMw.of (by decide) (Nat.le_of_ble_eq_true rfl) ?_
  intro p e s m below meth c A C hr hE htab
  obtain ⟨hR1, hR2⟩ := hR
  refine zG_L (L' := [(0, .ref x), (1, .int p0), (2, .int p1), (3, .int p2), (4, .int p3), (5, .ref ao)]) rfl ?_
  refine g_aload (j := 5) C dL_addTrailer_0 rfl ?_
  refine g_iconst (v := (nI 0)) C dL_addTrailer_2 (by decide) ?_
  refine g_aload_n (j := 0) C dL_addTrailer_3 rfl rfl ?_
  refine g_iload_n (j := 1) C dL_addTrailer_4 rfl rfl ?_
  refine g_iload_n (j := 2) C dL_addTrailer_5 rfl rfl ?_
  refine g_iload_n (j := 3) C dL_addTrailer_6 rfl rfl ?_
  refine g_iload (j := 4) C dL_addTrailer_7 rfl ?_
  refine w_Yi (As := [.int p0, .int p1, .int p2, .int p3]) (rest := [.int (nI 0), .ref ao]) hG (hsub _ _ _ hE) C hM zml_RL_27 zcv_X5_addTrailer (zRec.of C (ci := 9) (q0 := 0) rfl hx0) hrc hrs ⟨by show rm.frames + 1 ≤ 61; omega, by show 8 + (6 + 11) + rm.locals ≤ 5000; omega⟩ rfl rfl (Nat.le_of_ble_eq_true rfl) ⟨by show 0 + mc ≤ mc; omega, by show 0 + ms ≤ ms; omega⟩ dL_addTrailer_9 (fun code w hX hne => ?_) (fun r w hP => ?_)
  · rcases hcd code w hX hne with rfl | rfl | rfl
    · refine ⟨17, ⟨[], ⟨0, 14, 17, 25⟩, [⟨0, 14, 21, 13⟩, ⟨0, 14, 25, 15⟩], zExc 3, htab, (fun _ h => nomatch h), rfl, by decide, C.2.2.2.2.1 _ zkw_25, va_tabs rfl rfl (hE.1.2.1.2.1 _ (List.mem_of_getElem? (i := 2) rfl)), rfl⟩, fun q9 => ?_⟩
      refine g_astore (L' := [(6, .ref q9), (0, .ref x), (1, .int p0), (2, .int p1), (3, .int p2), (4, .int p3), (5, .ref ao)]) C dL_addTrailer_17 (by decide) rfl ?_
      refine g_iconst (v := (nI 1)) C dL_addTrailer_19 (by decide) ?_
      exact t_iret C hr rfl (Or.inr ⟨0, 3, rfl, hX, by decide, rfl⟩) (by show 0 + mc ≤ mc; omega) (by show 0 + ms ≤ ms; omega) dL_addTrailer_20
    · refine ⟨21, ⟨[⟨0, 14, 17, 25⟩], ⟨0, 14, 21, 13⟩, [⟨0, 14, 25, 15⟩], zExc 1, htab, (List.forall_mem_cons.mpr ⟨Or.inr ⟨by decide, zExc 3, C.2.2.2.2.1 _ zkw_25, hE.2 (zExc 1, zExc 3) (List.mem_of_getElem? (i := 0) rfl)⟩, (fun _ h => nomatch h)⟩), rfl, by decide, C.2.2.2.2.1 _ zkw_13, va_tabs rfl rfl (hE.1.2.1.2.1 _ (List.mem_of_getElem? (i := 0) rfl)), rfl⟩, fun q9 => ?_⟩
      refine g_astore (L' := [(6, .ref q9), (0, .ref x), (1, .int p0), (2, .int p1), (3, .int p2), (4, .int p3), (5, .ref ao)]) C dL_addTrailer_21 (by decide) rfl ?_
      refine g_iconst (v := (nI 2)) C dL_addTrailer_23 (by decide) ?_
      exact t_iret C hr rfl (Or.inr ⟨1, 1, rfl, hX, by decide, rfl⟩) (by show 0 + mc ≤ mc; omega) (by show 0 + ms ≤ ms; omega) dL_addTrailer_24
    · refine ⟨25, ⟨[⟨0, 14, 17, 25⟩, ⟨0, 14, 21, 13⟩], ⟨0, 14, 25, 15⟩, [], zExc 2, htab, (List.forall_mem_cons.mpr ⟨Or.inr ⟨by decide, zExc 3, C.2.2.2.2.1 _ zkw_25, hE.2 (zExc 2, zExc 3) (List.mem_of_getElem? (i := 2) rfl)⟩, (List.forall_mem_cons.mpr ⟨Or.inr ⟨by decide, zExc 1, C.2.2.2.2.1 _ zkw_13, hE.2 (zExc 2, zExc 1) (List.mem_of_getElem? (i := 1) rfl)⟩, (fun _ h => nomatch h)⟩)⟩), rfl, by decide, C.2.2.2.2.1 _ zkw_15, va_tabs rfl rfl (hE.1.2.1.2.1 _ (List.mem_of_getElem? (i := 1) rfl)), rfl⟩, fun q9 => ?_⟩
      refine g_astore (L' := [(6, .ref q9), (0, .ref x), (1, .int p0), (2, .int p1), (3, .int p2), (4, .int p3), (5, .ref ao)]) C dL_addTrailer_25 (by decide) rfl ?_
      refine g_iconst (v := (nI 3)) C dL_addTrailer_27 (by decide) ?_
      exact t_iret C hr rfl (Or.inr ⟨2, 2, rfl, hX, by decide, rfl⟩) (by show 0 + mc ≤ mc; omega) (by show 0 + ms ≤ ms; omega) dL_addTrailer_28
  · skip
    refine n_i2l C dL_addTrailer_12 ?_
    refine n_last (q0 := q) (n := 1) (ws' := w.set q (ao, .inl (cy 4, 1, .inr (.inl (vp_updL f 0 r.toInt64))))) C (hout r w hP) (nI_in (by decide) (by decide)) (by rw [nI_clamp (by decide)]) dL_addTrailer_13 ?_
    refine g_goto C dL_addTrailer_14 (tgt := 29) (by decide) ?_
    refine g_iconst (v := (nI 0)) C dL_addTrailer_29 (by decide) ?_
    exact t_iret C hr rfl (Or.inl ⟨rfl, r, w, hP, rfl⟩) (by show 0 + mc ≤ mc; omega) (by show 0 + ms ≤ ms; omega) dL_addTrailer_30
theorem zml_RL_30 : Cond.methodLink RL 30 yX5_set ∈ zAll := zg (z_t2 (List.mem_of_getElem? (i := 218) (by decide +kernel))) (by decide +kernel)
theorem zcw_set : zCalW RL 169 yL_set cL_set 5 (some .int) [(0, 10, 13, 25), (0, 10, 17, 13)] 4 := ⟨⟨zg (z_t2 (List.mem_of_getElem? (i := 215) (by decide +kernel))) (by decide +kernel), zg (z_t2 (List.mem_of_getElem? (i := 216) (by decide +kernel))) (by decide +kernel), zg (z_t1 (List.mem_of_getElem? (i := 0) (by decide +kernel))) (by decide +kernel), zg (z_t2 (List.mem_of_getElem? (i := 217) (by decide +kernel))) (by decide +kernel)⟩, by decide +kernel⟩
set_option maxRecDepth 100000 in
set_option maxHeartbeats 8000000 in
theorem hw_set (l : Launch) (D : va_G) (cy : Nat → ClassId) {EV : zEV} (hG : zGE EV) (hsub : ∀ A U H, zEw A U H → EV A U H) (ws : va_W) (x : Nat) (fs : List Value) (p0 p1 : Int32) (ao q : Nat) (f : Nat → Int64) (mc ms : Nat) (rm : Room) (P : Int32 → va_W → Prop) (X : Nat → va_W → Prop) (hM : zMy l yX5_set cX5_set 3 (some .int) rm D (zTy cy) EV ws [.ref x, .int p0, .int p1] mc ms P X) (hrc : rm.cells = mc) (hrs : rm.slots = ms) (hR : rm.frames ≤ 60 ∧ rm.locals ≤ 4000) (hx0 : ws[0]? = some (x, .inr (9, fs))) (hout : ∀ v w, P v w → w[q]? = some (ao, .inl (cy 4, 1, .inr (.inl f)))) (hcd : ∀ c w, X c w → c ≠ 0 → c = 3 ∨ c = 1) : zMw l yL_set cL_set 5 (some .int) [(0, 10, 13, 25), (0, 10, 17, 13)] (zrw mc ms) D (zTy cy) zEw ws [.ref x, .int p0, .int p1, .ref ao] mc ms (tI D (zTy cy) (zPw cy q ao f Int32.toInt64 [3, 1] P X)) := by
  refine zMw.of (by decide) (Nat.le_of_ble_eq_true rfl) ?_
  intro p e s m below meth c A C hr hE htab
  obtain ⟨hR1, hR2⟩ := hR
  refine zG_L (L' := [(0, .ref x), (1, .int p0), (2, .int p1), (3, .ref ao)]) rfl ?_
  refine g_aload_n (j := 3) C dL_set_0 rfl rfl ?_
  refine g_iconst (v := (nI 0)) C dL_set_1 (by decide) ?_
  refine g_aload_n (j := 0) C dL_set_2 rfl rfl ?_
  refine g_iload_n (j := 1) C dL_set_3 rfl rfl ?_
  refine g_iload_n (j := 2) C dL_set_4 rfl rfl ?_
  refine w_Yi (As := [.int p0, .int p1]) (rest := [.int (nI 0), .ref ao]) hG (hsub _ _ _ hE) C hM zml_RL_30 zcv_X5_set (zRec.of C (ci := 9) (q0 := 0) rfl hx0) hrc hrs ⟨by show rm.frames + 1 ≤ 61; omega, by show 8 + (3 + 11) + rm.locals ≤ 5000; omega⟩ rfl rfl (Nat.le_of_ble_eq_true rfl) ⟨by show 0 + mc ≤ mc; omega, by show 0 + ms ≤ ms; omega⟩ dL_set_5 (fun code w hX hne => ?_) (fun r w hP => ?_)
  · rcases hcd code w hX hne with rfl | rfl
    · refine ⟨13, ⟨[], ⟨0, 10, 13, 25⟩, [⟨0, 10, 17, 13⟩], zExc 3, htab, (fun _ h => nomatch h), rfl, by decide, C.2.2.2.2.1 _ zkw_25, va_tabs rfl rfl (hE.1.2.1.2.1 _ (List.mem_of_getElem? (i := 2) rfl)), rfl⟩, fun q9 => ?_⟩
      refine g_astore (L' := [(4, .ref q9), (0, .ref x), (1, .int p0), (2, .int p1), (3, .ref ao)]) C dL_set_13 (by decide) rfl ?_
      refine g_iconst (v := (nI 1)) C dL_set_15 (by decide) ?_
      exact t_iret C hr rfl (Or.inr ⟨0, 3, rfl, hX, by decide, rfl⟩) (by show 0 + mc ≤ mc; omega) (by show 0 + ms ≤ ms; omega) dL_set_16
    · refine ⟨17, ⟨[⟨0, 10, 13, 25⟩], ⟨0, 10, 17, 13⟩, [], zExc 1, htab, (List.forall_mem_cons.mpr ⟨Or.inr ⟨by decide, zExc 3, C.2.2.2.2.1 _ zkw_25, hE.2 (zExc 1, zExc 3) (List.mem_of_getElem? (i := 0) rfl)⟩, (fun _ h => nomatch h)⟩), rfl, by decide, C.2.2.2.2.1 _ zkw_13, va_tabs rfl rfl (hE.1.2.1.2.1 _ (List.mem_of_getElem? (i := 0) rfl)), rfl⟩, fun q9 => ?_⟩
      refine g_astore (L' := [(4, .ref q9), (0, .ref x), (1, .int p0), (2, .int p1), (3, .ref ao)]) C dL_set_17 (by decide) rfl ?_
      refine g_iconst (v := (nI 2)) C dL_set_19 (by decide) ?_
      exact t_iret C hr rfl (Or.inr ⟨1, 1, rfl, hX, by decide, rfl⟩) (by show 0 + mc ≤ mc; omega) (by show 0 + ms ≤ ms; omega) dL_set_20
  · skip
    refine n_i2l C dL_set_8 ?_
    refine n_last (q0 := q) (n := 1) (ws' := w.set q (ao, .inl (cy 4, 1, .inr (.inl (vp_updL f 0 r.toInt64))))) C (hout r w hP) (nI_in (by decide) (by decide)) (by rw [nI_clamp (by decide)]) dL_set_9 ?_
    refine g_goto C dL_set_10 (tgt := 21) (by decide) ?_
    refine g_iconst (v := (nI 0)) C dL_set_21 (by decide) ?_
    exact t_iret C hr rfl (Or.inl ⟨rfl, r, w, hP, rfl⟩) (by show 0 + mc ≤ mc; omega) (by show 0 + ms ≤ ms; omega) dL_set_22
theorem zml_RL_34 : Cond.methodLink RL 34 yX5_setLimit ∈ zAll := zg (z_t2 (List.mem_of_getElem? (i := 236) (by decide +kernel))) (by decide +kernel)
theorem zcw_setLimit : zCalW RL 173 yL_setLimit cL_setLimit 5 (some .int) [(0, 10, 13, 25), (0, 10, 17, 13)] 4 := ⟨⟨zg (z_t2 (List.mem_of_getElem? (i := 233) (by decide +kernel))) (by decide +kernel), zg (z_t2 (List.mem_of_getElem? (i := 234) (by decide +kernel))) (by decide +kernel), zg (z_t1 (List.mem_of_getElem? (i := 0) (by decide +kernel))) (by decide +kernel), zg (z_t2 (List.mem_of_getElem? (i := 235) (by decide +kernel))) (by decide +kernel)⟩, by decide +kernel⟩
set_option maxRecDepth 100000 in
set_option maxHeartbeats 8000000 in
theorem hw_setLimit (l : Launch) (D : va_G) (cy : Nat → ClassId) {EV : zEV} (hG : zGE EV) (hsub : ∀ A U H, zEw A U H → EV A U H) (ws : va_W) (x : Nat) (fs : List Value) (p0 p1 : Int32) (ao q : Nat) (f : Nat → Int64) (mc ms : Nat) (rm : Room) (P : Int32 → va_W → Prop) (X : Nat → va_W → Prop) (hM : zMy l yX5_setLimit cX5_setLimit 3 (some .int) rm D (zTy cy) EV ws [.ref x, .int p0, .int p1] mc ms P X) (hrc : rm.cells = mc) (hrs : rm.slots = ms) (hR : rm.frames ≤ 60 ∧ rm.locals ≤ 4000) (hx0 : ws[0]? = some (x, .inr (9, fs))) (hout : ∀ v w, P v w → w[q]? = some (ao, .inl (cy 4, 1, .inr (.inl f)))) (hcd : ∀ c w, X c w → c ≠ 0 → c = 3 ∨ c = 1) : zMw l yL_setLimit cL_setLimit 5 (some .int) [(0, 10, 13, 25), (0, 10, 17, 13)] (zrw mc ms) D (zTy cy) zEw ws [.ref x, .int p0, .int p1, .ref ao] mc ms (tI D (zTy cy) (zPw cy q ao f Int32.toInt64 [3, 1] P X)) := by
  refine zMw.of (by decide) (Nat.le_of_ble_eq_true rfl) ?_
  intro p e s m below meth c A C hr hE htab
  obtain ⟨hR1, hR2⟩ := hR
  refine zG_L (L' := [(0, .ref x), (1, .int p0), (2, .int p1), (3, .ref ao)]) rfl ?_
  refine g_aload_n (j := 3) C dL_setLimit_0 rfl rfl ?_
  refine g_iconst (v := (nI 0)) C dL_setLimit_1 (by decide) ?_
  refine g_aload_n (j := 0) C dL_setLimit_2 rfl rfl ?_
  refine g_iload_n (j := 1) C dL_setLimit_3 rfl rfl ?_
  refine g_iload_n (j := 2) C dL_setLimit_4 rfl rfl ?_
  refine w_Yi (As := [.int p0, .int p1]) (rest := [.int (nI 0), .ref ao]) hG (hsub _ _ _ hE) C hM zml_RL_34 zcv_X5_setLimit (zRec.of C (ci := 9) (q0 := 0) rfl hx0) hrc hrs ⟨by show rm.frames + 1 ≤ 61; omega, by show 8 + (3 + 11) + rm.locals ≤ 5000; omega⟩ rfl rfl (Nat.le_of_ble_eq_true rfl) ⟨by show 0 + mc ≤ mc; omega, by show 0 + ms ≤ ms; omega⟩ dL_setLimit_5 (fun code w hX hne => ?_) (fun r w hP => ?_)
  · rcases hcd code w hX hne with rfl | rfl
    · refine ⟨13, ⟨[], ⟨0, 10, 13, 25⟩, [⟨0, 10, 17, 13⟩], zExc 3, htab, (fun _ h => nomatch h), rfl, by decide, C.2.2.2.2.1 _ zkw_25, va_tabs rfl rfl (hE.1.2.1.2.1 _ (List.mem_of_getElem? (i := 2) rfl)), rfl⟩, fun q9 => ?_⟩
      refine g_astore (L' := [(4, .ref q9), (0, .ref x), (1, .int p0), (2, .int p1), (3, .ref ao)]) C dL_setLimit_13 (by decide) rfl ?_
      refine g_iconst (v := (nI 1)) C dL_setLimit_15 (by decide) ?_
      exact t_iret C hr rfl (Or.inr ⟨0, 3, rfl, hX, by decide, rfl⟩) (by show 0 + mc ≤ mc; omega) (by show 0 + ms ≤ ms; omega) dL_setLimit_16
    · refine ⟨17, ⟨[⟨0, 10, 13, 25⟩], ⟨0, 10, 17, 13⟩, [], zExc 1, htab, (List.forall_mem_cons.mpr ⟨Or.inr ⟨by decide, zExc 3, C.2.2.2.2.1 _ zkw_25, hE.2 (zExc 1, zExc 3) (List.mem_of_getElem? (i := 0) rfl)⟩, (fun _ h => nomatch h)⟩), rfl, by decide, C.2.2.2.2.1 _ zkw_13, va_tabs rfl rfl (hE.1.2.1.2.1 _ (List.mem_of_getElem? (i := 0) rfl)), rfl⟩, fun q9 => ?_⟩
      refine g_astore (L' := [(4, .ref q9), (0, .ref x), (1, .int p0), (2, .int p1), (3, .ref ao)]) C dL_setLimit_17 (by decide) rfl ?_
      refine g_iconst (v := (nI 2)) C dL_setLimit_19 (by decide) ?_
      exact t_iret C hr rfl (Or.inr ⟨1, 1, rfl, hX, by decide, rfl⟩) (by show 0 + mc ≤ mc; omega) (by show 0 + ms ≤ ms; omega) dL_setLimit_20
  · skip
    refine n_i2l C dL_setLimit_8 ?_
    refine n_last (q0 := q) (n := 1) (ws' := w.set q (ao, .inl (cy 4, 1, .inr (.inl (vp_updL f 0 r.toInt64))))) C (hout r w hP) (nI_in (by decide) (by decide)) (by rw [nI_clamp (by decide)]) dL_setLimit_9 ?_
    refine g_goto C dL_setLimit_10 (tgt := 21) (by decide) ?_
    refine g_iconst (v := (nI 0)) C dL_setLimit_21 (by decide) ?_
    exact t_iret C hr rfl (Or.inl ⟨rfl, r, w, hP, rfl⟩) (by show 0 + mc ≤ mc; omega) (by show 0 + ms ≤ ms; omega) dL_setLimit_22
theorem zml_RL_37 : Cond.methodLink RL 37 yX5_setting ∈ zAll := zg (z_t3 (List.mem_of_getElem? (i := 5) (by decide +kernel))) (by decide +kernel)
theorem zcw_setting : zCalW RL 176 yL_setting cL_setting 4 (some .int) [(0, 9, 12, 25)] 3 := ⟨⟨zg (z_t3 (List.mem_of_getElem? (i := 2) (by decide +kernel))) (by decide +kernel), zg (z_t3 (List.mem_of_getElem? (i := 3) (by decide +kernel))) (by decide +kernel), zg (z_t1 (List.mem_of_getElem? (i := 0) (by decide +kernel))) (by decide +kernel), zg (z_t3 (List.mem_of_getElem? (i := 4) (by decide +kernel))) (by decide +kernel)⟩, by decide +kernel⟩
set_option maxRecDepth 100000 in
set_option maxHeartbeats 8000000 in
theorem hw_setting (l : Launch) (D : va_G) (cy : Nat → ClassId) {EV : zEV} (hG : zGE EV) (hsub : ∀ A U H, zEw A U H → EV A U H) (ws : va_W) (x : Nat) (fs : List Value) (p0 : Int32) (ao q : Nat) (f : Nat → Int64) (mc ms : Nat) (rm : Room) (P : Int32 → va_W → Prop) (X : Nat → va_W → Prop) (hM : zMy l yX5_setting cX5_setting 2 (some .int) rm D (zTy cy) EV ws [.ref x, .int p0] mc ms P X) (hrc : rm.cells = mc) (hrs : rm.slots = ms) (hR : rm.frames ≤ 60 ∧ rm.locals ≤ 4000) (hx0 : ws[0]? = some (x, .inr (9, fs))) (hout : ∀ v w, P v w → w[q]? = some (ao, .inl (cy 4, 1, .inr (.inl f)))) (hcd : ∀ c w, X c w → c ≠ 0 → c = 3) : zMw l yL_setting cL_setting 4 (some .int) [(0, 9, 12, 25)] (zrw mc ms) D (zTy cy) zEw ws [.ref x, .int p0, .ref ao] mc ms (tI D (zTy cy) (zPw cy q ao f Int32.toInt64 [3] P X)) := by
  refine zMw.of (by decide) (Nat.le_of_ble_eq_true rfl) ?_
  intro p e s m below meth c A C hr hE htab
  obtain ⟨hR1, hR2⟩ := hR
  refine zG_L (L' := [(0, .ref x), (1, .int p0), (2, .ref ao)]) rfl ?_
  refine g_aload_n (j := 2) C dL_setting_0 rfl rfl ?_
  refine g_iconst (v := (nI 0)) C dL_setting_1 (by decide) ?_
  refine g_aload_n (j := 0) C dL_setting_2 rfl rfl ?_
  refine g_iload_n (j := 1) C dL_setting_3 rfl rfl ?_
  refine w_Yi (As := [.int p0]) (rest := [.int (nI 0), .ref ao]) hG (hsub _ _ _ hE) C hM zml_RL_37 zcv_X5_setting (zRec.of C (ci := 9) (q0 := 0) rfl hx0) hrc hrs ⟨by show rm.frames + 1 ≤ 61; omega, by show 8 + (2 + 11) + rm.locals ≤ 5000; omega⟩ rfl rfl (Nat.le_of_ble_eq_true rfl) ⟨by show 0 + mc ≤ mc; omega, by show 0 + ms ≤ ms; omega⟩ dL_setting_4 (fun code w hX hne => ?_) (fun r w hP => ?_)
  · rcases hcd code w hX hne with rfl
    · refine ⟨12, ⟨[], ⟨0, 9, 12, 25⟩, [], zExc 3, htab, (fun _ h => nomatch h), rfl, by decide, C.2.2.2.2.1 _ zkw_25, va_tabs rfl rfl (hE.1.2.1.2.1 _ (List.mem_of_getElem? (i := 2) rfl)), rfl⟩, fun q9 => ?_⟩
      refine g_astore_n (L' := [(3, .ref q9), (0, .ref x), (1, .int p0), (2, .ref ao)]) C dL_setting_12 rfl (by decide) rfl ?_
      refine g_iconst (v := (nI 1)) C dL_setting_13 (by decide) ?_
      exact t_iret C hr rfl (Or.inr ⟨0, 3, rfl, hX, by decide, rfl⟩) (by show 0 + mc ≤ mc; omega) (by show 0 + ms ≤ ms; omega) dL_setting_14
  · skip
    refine n_i2l C dL_setting_7 ?_
    refine n_last (q0 := q) (n := 1) (ws' := w.set q (ao, .inl (cy 4, 1, .inr (.inl (vp_updL f 0 r.toInt64))))) C (hout r w hP) (nI_in (by decide) (by decide)) (by rw [nI_clamp (by decide)]) dL_setting_8 ?_
    refine g_goto C dL_setting_9 (tgt := 15) (by decide) ?_
    refine g_iconst (v := (nI 0)) C dL_setting_15 (by decide) ?_
    exact t_iret C hr rfl (Or.inl ⟨rfl, r, w, hP, rfl⟩) (by show 0 + mc ≤ mc; omega) (by show 0 + ms ≤ ms; omega) dL_setting_16
theorem zml_RL_41 : Cond.methodLink RL 41 yX5_hall ∈ zAll := zg (z_t3 (List.mem_of_getElem? (i := 17) (by decide +kernel))) (by decide +kernel)
theorem zcw_hall : zCalW RL 180 yL_hall cL_hall 5 (some .int) [(0, 10, 13, 25), (0, 10, 17, 13)] 4 := ⟨⟨zg (z_t3 (List.mem_of_getElem? (i := 14) (by decide +kernel))) (by decide +kernel), zg (z_t3 (List.mem_of_getElem? (i := 15) (by decide +kernel))) (by decide +kernel), zg (z_t1 (List.mem_of_getElem? (i := 0) (by decide +kernel))) (by decide +kernel), zg (z_t3 (List.mem_of_getElem? (i := 16) (by decide +kernel))) (by decide +kernel)⟩, by decide +kernel⟩
set_option maxRecDepth 100000 in
set_option maxHeartbeats 8000000 in
theorem hw_hall (l : Launch) (D : va_G) (cy : Nat → ClassId) {EV : zEV} (hG : zGE EV) (hsub : ∀ A U H, zEw A U H → EV A U H) (ws : va_W) (x : Nat) (fs : List Value) (p0 p1 : Int32) (ao q : Nat) (f : Nat → Int64) (mc ms : Nat) (rm : Room) (P : Int32 → va_W → Prop) (X : Nat → va_W → Prop) (hM : zMy l yX5_hall cX5_hall 3 (some .int) rm D (zTy cy) EV ws [.ref x, .int p0, .int p1] mc ms P X) (hrc : rm.cells = mc) (hrs : rm.slots = ms) (hR : rm.frames ≤ 60 ∧ rm.locals ≤ 4000) (hx0 : ws[0]? = some (x, .inr (9, fs))) (hout : ∀ v w, P v w → w[q]? = some (ao, .inl (cy 4, 1, .inr (.inl f)))) (hcd : ∀ c w, X c w → c ≠ 0 → c = 3 ∨ c = 1) : zMw l yL_hall cL_hall 5 (some .int) [(0, 10, 13, 25), (0, 10, 17, 13)] (zrw mc ms) D (zTy cy) zEw ws [.ref x, .int p0, .int p1, .ref ao] mc ms (tI D (zTy cy) (zPw cy q ao f Int32.toInt64 [3, 1] P X)) := by
  refine zMw.of (by decide) (Nat.le_of_ble_eq_true rfl) ?_
  intro p e s m below meth c A C hr hE htab
  obtain ⟨hR1, hR2⟩ := hR
  refine zG_L (L' := [(0, .ref x), (1, .int p0), (2, .int p1), (3, .ref ao)]) rfl ?_
  refine g_aload_n (j := 3) C dL_hall_0 rfl rfl ?_
  refine g_iconst (v := (nI 0)) C dL_hall_1 (by decide) ?_
  refine g_aload_n (j := 0) C dL_hall_2 rfl rfl ?_
  refine g_iload_n (j := 1) C dL_hall_3 rfl rfl ?_
  refine g_iload_n (j := 2) C dL_hall_4 rfl rfl ?_
  refine w_Yi (As := [.int p0, .int p1]) (rest := [.int (nI 0), .ref ao]) hG (hsub _ _ _ hE) C hM zml_RL_41 zcv_X5_hall (zRec.of C (ci := 9) (q0 := 0) rfl hx0) hrc hrs ⟨by show rm.frames + 1 ≤ 61; omega, by show 8 + (3 + 11) + rm.locals ≤ 5000; omega⟩ rfl rfl (Nat.le_of_ble_eq_true rfl) ⟨by show 0 + mc ≤ mc; omega, by show 0 + ms ≤ ms; omega⟩ dL_hall_5 (fun code w hX hne => ?_) (fun r w hP => ?_)
  · rcases hcd code w hX hne with rfl | rfl
    · refine ⟨13, ⟨[], ⟨0, 10, 13, 25⟩, [⟨0, 10, 17, 13⟩], zExc 3, htab, (fun _ h => nomatch h), rfl, by decide, C.2.2.2.2.1 _ zkw_25, va_tabs rfl rfl (hE.1.2.1.2.1 _ (List.mem_of_getElem? (i := 2) rfl)), rfl⟩, fun q9 => ?_⟩
      refine g_astore (L' := [(4, .ref q9), (0, .ref x), (1, .int p0), (2, .int p1), (3, .ref ao)]) C dL_hall_13 (by decide) rfl ?_
      refine g_iconst (v := (nI 1)) C dL_hall_15 (by decide) ?_
      exact t_iret C hr rfl (Or.inr ⟨0, 3, rfl, hX, by decide, rfl⟩) (by show 0 + mc ≤ mc; omega) (by show 0 + ms ≤ ms; omega) dL_hall_16
    · refine ⟨17, ⟨[⟨0, 10, 13, 25⟩], ⟨0, 10, 17, 13⟩, [], zExc 1, htab, (List.forall_mem_cons.mpr ⟨Or.inr ⟨by decide, zExc 3, C.2.2.2.2.1 _ zkw_25, hE.2 (zExc 1, zExc 3) (List.mem_of_getElem? (i := 0) rfl)⟩, (fun _ h => nomatch h)⟩), rfl, by decide, C.2.2.2.2.1 _ zkw_13, va_tabs rfl rfl (hE.1.2.1.2.1 _ (List.mem_of_getElem? (i := 0) rfl)), rfl⟩, fun q9 => ?_⟩
      refine g_astore (L' := [(4, .ref q9), (0, .ref x), (1, .int p0), (2, .int p1), (3, .ref ao)]) C dL_hall_17 (by decide) rfl ?_
      refine g_iconst (v := (nI 2)) C dL_hall_19 (by decide) ?_
      exact t_iret C hr rfl (Or.inr ⟨1, 1, rfl, hX, by decide, rfl⟩) (by show 0 + mc ≤ mc; omega) (by show 0 + ms ≤ ms; omega) dL_hall_20
  · skip
    refine n_i2l C dL_hall_8 ?_
    refine n_last (q0 := q) (n := 1) (ws' := w.set q (ao, .inl (cy 4, 1, .inr (.inl (vp_updL f 0 r.toInt64))))) C (hout r w hP) (nI_in (by decide) (by decide)) (by rw [nI_clamp (by decide)]) dL_hall_9 ?_
    refine g_goto C dL_hall_10 (tgt := 21) (by decide) ?_
    refine g_iconst (v := (nI 0)) C dL_hall_21 (by decide) ?_
    exact t_iret C hr rfl (Or.inl ⟨rfl, r, w, hP, rfl⟩) (by show 0 + mc ≤ mc; omega) (by show 0 + ms ≤ ms; omega) dL_hall_22
theorem zml_RL_44 : Cond.methodLink RL 44 yX5_film ∈ zAll := zg (z_t3 (List.mem_of_getElem? (i := 60) (by decide +kernel))) (by decide +kernel)
theorem zcw_film : zCalW RL 183 yL_film cL_film 5 (some .int) [(0, 10, 13, 25), (0, 10, 17, 13)] 4 := ⟨⟨zg (z_t3 (List.mem_of_getElem? (i := 57) (by decide +kernel))) (by decide +kernel), zg (z_t3 (List.mem_of_getElem? (i := 58) (by decide +kernel))) (by decide +kernel), zg (z_t1 (List.mem_of_getElem? (i := 0) (by decide +kernel))) (by decide +kernel), zg (z_t3 (List.mem_of_getElem? (i := 59) (by decide +kernel))) (by decide +kernel)⟩, by decide +kernel⟩
set_option maxRecDepth 100000 in
set_option maxHeartbeats 8000000 in
theorem hw_film (l : Launch) (D : va_G) (cy : Nat → ClassId) {EV : zEV} (hG : zGE EV) (hsub : ∀ A U H, zEw A U H → EV A U H) (ws : va_W) (x : Nat) (fs : List Value) (p0 p1 : Int32) (ao q : Nat) (f : Nat → Int64) (mc ms : Nat) (rm : Room) (P : Int32 → va_W → Prop) (X : Nat → va_W → Prop) (hM : zMy l yX5_film cX5_film 3 (some .int) rm D (zTy cy) EV ws [.ref x, .int p0, .int p1] mc ms P X) (hrc : rm.cells = mc) (hrs : rm.slots = ms) (hR : rm.frames ≤ 60 ∧ rm.locals ≤ 4000) (hx0 : ws[0]? = some (x, .inr (9, fs))) (hout : ∀ v w, P v w → w[q]? = some (ao, .inl (cy 4, 1, .inr (.inl f)))) (hcd : ∀ c w, X c w → c ≠ 0 → c = 3 ∨ c = 1) : zMw l yL_film cL_film 5 (some .int) [(0, 10, 13, 25), (0, 10, 17, 13)] (zrw mc ms) D (zTy cy) zEw ws [.ref x, .int p0, .int p1, .ref ao] mc ms (tI D (zTy cy) (zPw cy q ao f Int32.toInt64 [3, 1] P X)) := by
  refine zMw.of (by decide) (Nat.le_of_ble_eq_true rfl) ?_
  intro p e s m below meth c A C hr hE htab
  obtain ⟨hR1, hR2⟩ := hR
  refine zG_L (L' := [(0, .ref x), (1, .int p0), (2, .int p1), (3, .ref ao)]) rfl ?_
  refine g_aload_n (j := 3) C dL_film_0 rfl rfl ?_
  refine g_iconst (v := (nI 0)) C dL_film_1 (by decide) ?_
  refine g_aload_n (j := 0) C dL_film_2 rfl rfl ?_
  refine g_iload_n (j := 1) C dL_film_3 rfl rfl ?_
  refine g_iload_n (j := 2) C dL_film_4 rfl rfl ?_
  refine w_Yi (As := [.int p0, .int p1]) (rest := [.int (nI 0), .ref ao]) hG (hsub _ _ _ hE) C hM zml_RL_44 zcv_X5_film (zRec.of C (ci := 9) (q0 := 0) rfl hx0) hrc hrs ⟨by show rm.frames + 1 ≤ 61; omega, by show 8 + (3 + 11) + rm.locals ≤ 5000; omega⟩ rfl rfl (Nat.le_of_ble_eq_true rfl) ⟨by show 0 + mc ≤ mc; omega, by show 0 + ms ≤ ms; omega⟩ dL_film_5 (fun code w hX hne => ?_) (fun r w hP => ?_)
  · rcases hcd code w hX hne with rfl | rfl
    · refine ⟨13, ⟨[], ⟨0, 10, 13, 25⟩, [⟨0, 10, 17, 13⟩], zExc 3, htab, (fun _ h => nomatch h), rfl, by decide, C.2.2.2.2.1 _ zkw_25, va_tabs rfl rfl (hE.1.2.1.2.1 _ (List.mem_of_getElem? (i := 2) rfl)), rfl⟩, fun q9 => ?_⟩
      refine g_astore (L' := [(4, .ref q9), (0, .ref x), (1, .int p0), (2, .int p1), (3, .ref ao)]) C dL_film_13 (by decide) rfl ?_
      refine g_iconst (v := (nI 1)) C dL_film_15 (by decide) ?_
      exact t_iret C hr rfl (Or.inr ⟨0, 3, rfl, hX, by decide, rfl⟩) (by show 0 + mc ≤ mc; omega) (by show 0 + ms ≤ ms; omega) dL_film_16
    · refine ⟨17, ⟨[⟨0, 10, 13, 25⟩], ⟨0, 10, 17, 13⟩, [], zExc 1, htab, (List.forall_mem_cons.mpr ⟨Or.inr ⟨by decide, zExc 3, C.2.2.2.2.1 _ zkw_25, hE.2 (zExc 1, zExc 3) (List.mem_of_getElem? (i := 0) rfl)⟩, (fun _ h => nomatch h)⟩), rfl, by decide, C.2.2.2.2.1 _ zkw_13, va_tabs rfl rfl (hE.1.2.1.2.1 _ (List.mem_of_getElem? (i := 0) rfl)), rfl⟩, fun q9 => ?_⟩
      refine g_astore (L' := [(4, .ref q9), (0, .ref x), (1, .int p0), (2, .int p1), (3, .ref ao)]) C dL_film_17 (by decide) rfl ?_
      refine g_iconst (v := (nI 2)) C dL_film_19 (by decide) ?_
      exact t_iret C hr rfl (Or.inr ⟨1, 1, rfl, hX, by decide, rfl⟩) (by show 0 + mc ≤ mc; omega) (by show 0 + ms ≤ ms; omega) dL_film_20
  · skip
    refine n_i2l C dL_film_8 ?_
    refine n_last (q0 := q) (n := 1) (ws' := w.set q (ao, .inl (cy 4, 1, .inr (.inl (vp_updL f 0 r.toInt64))))) C (hout r w hP) (nI_in (by decide) (by decide)) (by rw [nI_clamp (by decide)]) dL_film_9 ?_
    refine g_goto C dL_film_10 (tgt := 21) (by decide) ?_
    refine g_iconst (v := (nI 0)) C dL_film_21 (by decide) ?_
    exact t_iret C hr rfl (Or.inl ⟨rfl, r, w, hP, rfl⟩) (by show 0 + mc ≤ mc; omega) (by show 0 + ms ≤ ms; omega) dL_film_22
theorem zml_RL_47 : Cond.methodLink RL 47 yX5_share ∈ zAll := zg (z_t3 (List.mem_of_getElem? (i := 69) (by decide +kernel))) (by decide +kernel)
theorem zcw_share : zCalW RL 186 yL_share cL_share 5 (some .int) [(0, 10, 13, 25), (0, 10, 17, 13), (0, 10, 21, 50)] 4 := ⟨⟨zg (z_t3 (List.mem_of_getElem? (i := 65) (by decide +kernel))) (by decide +kernel), zg (z_t3 (List.mem_of_getElem? (i := 66) (by decide +kernel))) (by decide +kernel), zg (z_t1 (List.mem_of_getElem? (i := 0) (by decide +kernel))) (by decide +kernel), zg (z_t3 (List.mem_of_getElem? (i := 67) (by decide +kernel))) (by decide +kernel)⟩, by decide +kernel⟩
set_option maxRecDepth 100000 in
set_option maxHeartbeats 8000000 in
theorem hw_share (l : Launch) (D : va_G) (cy : Nat → ClassId) {EV : zEV} (hG : zGE EV) (hsub : ∀ A U H, zEw A U H → EV A U H) (ws : va_W) (x : Nat) (fs : List Value) (p0 p1 : Int32) (ao q : Nat) (f : Nat → Int64) (mc ms : Nat) (rm : Room) (P : Int32 → va_W → Prop) (X : Nat → va_W → Prop) (hM : zMy l yX5_share cX5_share 3 (some .int) rm D (zTy cy) EV ws [.ref x, .int p0, .int p1] mc ms P X) (hrc : rm.cells = mc) (hrs : rm.slots = ms) (hR : rm.frames ≤ 60 ∧ rm.locals ≤ 4000) (hx0 : ws[0]? = some (x, .inr (9, fs))) (hout : ∀ v w, P v w → w[q]? = some (ao, .inl (cy 4, 1, .inr (.inl f)))) (hcd : ∀ c w, X c w → c ≠ 0 → c = 3 ∨ c = 1 ∨ c = 6) : zMw l yL_share cL_share 5 (some .int) [(0, 10, 13, 25), (0, 10, 17, 13), (0, 10, 21, 50)] (zrw mc ms) D (zTy cy) zEw ws [.ref x, .int p0, .int p1, .ref ao] mc ms (tI D (zTy cy) (zPw cy q ao f Int32.toInt64 [3, 1, 6] P X)) := by
  refine zMw.of (by decide) (Nat.le_of_ble_eq_true rfl) ?_
  intro p e s m below meth c A C hr hE htab
  obtain ⟨hR1, hR2⟩ := hR
  refine zG_L (L' := [(0, .ref x), (1, .int p0), (2, .int p1), (3, .ref ao)]) rfl ?_
  refine g_aload_n (j := 3) C dL_share_0 rfl rfl ?_
  refine g_iconst (v := (nI 0)) C dL_share_1 (by decide) ?_
  refine g_aload_n (j := 0) C dL_share_2 rfl rfl ?_
  refine g_iload_n (j := 1) C dL_share_3 rfl rfl ?_
  refine g_iload_n (j := 2) C dL_share_4 rfl rfl ?_
  refine w_Yi (As := [.int p0, .int p1]) (rest := [.int (nI 0), .ref ao]) hG (hsub _ _ _ hE) C hM zml_RL_47 zcv_X5_share (zRec.of C (ci := 9) (q0 := 0) rfl hx0) hrc hrs ⟨by show rm.frames + 1 ≤ 61; omega, by show 8 + (3 + 11) + rm.locals ≤ 5000; omega⟩ rfl rfl (Nat.le_of_ble_eq_true rfl) ⟨by show 0 + mc ≤ mc; omega, by show 0 + ms ≤ ms; omega⟩ dL_share_5 (fun code w hX hne => ?_) (fun r w hP => ?_)
  · rcases hcd code w hX hne with rfl | rfl | rfl
    · refine ⟨13, ⟨[], ⟨0, 10, 13, 25⟩, [⟨0, 10, 17, 13⟩, ⟨0, 10, 21, 50⟩], zExc 3, htab, (fun _ h => nomatch h), rfl, by decide, C.2.2.2.2.1 _ zkw_25, va_tabs rfl rfl (hE.1.2.1.2.1 _ (List.mem_of_getElem? (i := 2) rfl)), rfl⟩, fun q9 => ?_⟩
      refine g_astore (L' := [(4, .ref q9), (0, .ref x), (1, .int p0), (2, .int p1), (3, .ref ao)]) C dL_share_13 (by decide) rfl ?_
      refine g_iconst (v := (nI 1)) C dL_share_15 (by decide) ?_
      exact t_iret C hr rfl (Or.inr ⟨0, 3, rfl, hX, by decide, rfl⟩) (by show 0 + mc ≤ mc; omega) (by show 0 + ms ≤ ms; omega) dL_share_16
    · refine ⟨17, ⟨[⟨0, 10, 13, 25⟩], ⟨0, 10, 17, 13⟩, [⟨0, 10, 21, 50⟩], zExc 1, htab, (List.forall_mem_cons.mpr ⟨Or.inr ⟨by decide, zExc 3, C.2.2.2.2.1 _ zkw_25, hE.2 (zExc 1, zExc 3) (List.mem_of_getElem? (i := 0) rfl)⟩, (fun _ h => nomatch h)⟩), rfl, by decide, C.2.2.2.2.1 _ zkw_13, va_tabs rfl rfl (hE.1.2.1.2.1 _ (List.mem_of_getElem? (i := 0) rfl)), rfl⟩, fun q9 => ?_⟩
      refine g_astore (L' := [(4, .ref q9), (0, .ref x), (1, .int p0), (2, .int p1), (3, .ref ao)]) C dL_share_17 (by decide) rfl ?_
      refine g_iconst (v := (nI 2)) C dL_share_19 (by decide) ?_
      exact t_iret C hr rfl (Or.inr ⟨1, 1, rfl, hX, by decide, rfl⟩) (by show 0 + mc ≤ mc; omega) (by show 0 + ms ≤ ms; omega) dL_share_20
    · refine ⟨21, ⟨[⟨0, 10, 13, 25⟩, ⟨0, 10, 17, 13⟩], ⟨0, 10, 21, 50⟩, [], zExc 6, htab, (List.forall_mem_cons.mpr ⟨Or.inr ⟨by decide, zExc 3, C.2.2.2.2.1 _ zkw_25, hE.2 (zExc 6, zExc 3) (List.mem_of_getElem? (i := 7) rfl)⟩, (List.forall_mem_cons.mpr ⟨Or.inr ⟨by decide, zExc 1, C.2.2.2.2.1 _ zkw_13, hE.2 (zExc 6, zExc 1) (List.mem_of_getElem? (i := 6) rfl)⟩, (fun _ h => nomatch h)⟩)⟩), rfl, by decide, C.2.2.2.2.1 _ zkw_50, va_tabs rfl rfl (hE.1.2.1.2.1 _ (List.mem_of_getElem? (i := 5) rfl)), rfl⟩, fun q9 => ?_⟩
      refine g_astore (L' := [(4, .ref q9), (0, .ref x), (1, .int p0), (2, .int p1), (3, .ref ao)]) C dL_share_21 (by decide) rfl ?_
      refine g_iconst (v := (nI 3)) C dL_share_23 (by decide) ?_
      exact t_iret C hr rfl (Or.inr ⟨2, 6, rfl, hX, by decide, rfl⟩) (by show 0 + mc ≤ mc; omega) (by show 0 + ms ≤ ms; omega) dL_share_24
  · skip
    refine n_i2l C dL_share_8 ?_
    refine n_last (q0 := q) (n := 1) (ws' := w.set q (ao, .inl (cy 4, 1, .inr (.inl (vp_updL f 0 r.toInt64))))) C (hout r w hP) (nI_in (by decide) (by decide)) (by rw [nI_clamp (by decide)]) dL_share_9 ?_
    refine g_goto C dL_share_10 (tgt := 25) (by decide) ?_
    refine g_iconst (v := (nI 0)) C dL_share_25 (by decide) ?_
    exact t_iret C hr rfl (Or.inl ⟨rfl, r, w, hP, rfl⟩) (by show 0 + mc ≤ mc; omega) (by show 0 + ms ≤ ms; omega) dL_share_26
theorem zml_RL_52 : Cond.methodLink RL 52 yX5_trailer ∈ zAll := zg (z_t3 (List.mem_of_getElem? (i := 94) (by decide +kernel))) (by decide +kernel)
theorem zcw_trailer : zCalW RL 189 yL_trailer cL_trailer 5 (some .int) [(0, 10, 13, 25), (0, 10, 17, 13)] 4 := ⟨⟨zg (z_t3 (List.mem_of_getElem? (i := 91) (by decide +kernel))) (by decide +kernel), zg (z_t3 (List.mem_of_getElem? (i := 92) (by decide +kernel))) (by decide +kernel), zg (z_t1 (List.mem_of_getElem? (i := 0) (by decide +kernel))) (by decide +kernel), zg (z_t3 (List.mem_of_getElem? (i := 93) (by decide +kernel))) (by decide +kernel)⟩, by decide +kernel⟩
set_option maxRecDepth 100000 in
set_option maxHeartbeats 8000000 in
theorem hw_trailer (l : Launch) (D : va_G) (cy : Nat → ClassId) {EV : zEV} (hG : zGE EV) (hsub : ∀ A U H, zEw A U H → EV A U H) (ws : va_W) (x : Nat) (fs : List Value) (p0 p1 : Int32) (ao q : Nat) (f : Nat → Int64) (mc ms : Nat) (rm : Room) (P : Int32 → va_W → Prop) (X : Nat → va_W → Prop) (hM : zMy l yX5_trailer cX5_trailer 3 (some .int) rm D (zTy cy) EV ws [.ref x, .int p0, .int p1] mc ms P X) (hrc : rm.cells = mc) (hrs : rm.slots = ms) (hR : rm.frames ≤ 60 ∧ rm.locals ≤ 4000) (hx0 : ws[0]? = some (x, .inr (9, fs))) (hout : ∀ v w, P v w → w[q]? = some (ao, .inl (cy 4, 1, .inr (.inl f)))) (hcd : ∀ c w, X c w → c ≠ 0 → c = 3 ∨ c = 1) : zMw l yL_trailer cL_trailer 5 (some .int) [(0, 10, 13, 25), (0, 10, 17, 13)] (zrw mc ms) D (zTy cy) zEw ws [.ref x, .int p0, .int p1, .ref ao] mc ms (tI D (zTy cy) (zPw cy q ao f Int32.toInt64 [3, 1] P X)) := by
  refine zMw.of (by decide) (Nat.le_of_ble_eq_true rfl) ?_
  intro p e s m below meth c A C hr hE htab
  obtain ⟨hR1, hR2⟩ := hR
  refine zG_L (L' := [(0, .ref x), (1, .int p0), (2, .int p1), (3, .ref ao)]) rfl ?_
  refine g_aload_n (j := 3) C dL_trailer_0 rfl rfl ?_
  refine g_iconst (v := (nI 0)) C dL_trailer_1 (by decide) ?_
  refine g_aload_n (j := 0) C dL_trailer_2 rfl rfl ?_
  refine g_iload_n (j := 1) C dL_trailer_3 rfl rfl ?_
  refine g_iload_n (j := 2) C dL_trailer_4 rfl rfl ?_
  refine w_Yi (As := [.int p0, .int p1]) (rest := [.int (nI 0), .ref ao]) hG (hsub _ _ _ hE) C hM zml_RL_52 zcv_X5_trailer (zRec.of C (ci := 9) (q0 := 0) rfl hx0) hrc hrs ⟨by show rm.frames + 1 ≤ 61; omega, by show 8 + (3 + 11) + rm.locals ≤ 5000; omega⟩ rfl rfl (Nat.le_of_ble_eq_true rfl) ⟨by show 0 + mc ≤ mc; omega, by show 0 + ms ≤ ms; omega⟩ dL_trailer_5 (fun code w hX hne => ?_) (fun r w hP => ?_)
  · rcases hcd code w hX hne with rfl | rfl
    · refine ⟨13, ⟨[], ⟨0, 10, 13, 25⟩, [⟨0, 10, 17, 13⟩], zExc 3, htab, (fun _ h => nomatch h), rfl, by decide, C.2.2.2.2.1 _ zkw_25, va_tabs rfl rfl (hE.1.2.1.2.1 _ (List.mem_of_getElem? (i := 2) rfl)), rfl⟩, fun q9 => ?_⟩
      refine g_astore (L' := [(4, .ref q9), (0, .ref x), (1, .int p0), (2, .int p1), (3, .ref ao)]) C dL_trailer_13 (by decide) rfl ?_
      refine g_iconst (v := (nI 1)) C dL_trailer_15 (by decide) ?_
      exact t_iret C hr rfl (Or.inr ⟨0, 3, rfl, hX, by decide, rfl⟩) (by show 0 + mc ≤ mc; omega) (by show 0 + ms ≤ ms; omega) dL_trailer_16
    · refine ⟨17, ⟨[⟨0, 10, 13, 25⟩], ⟨0, 10, 17, 13⟩, [], zExc 1, htab, (List.forall_mem_cons.mpr ⟨Or.inr ⟨by decide, zExc 3, C.2.2.2.2.1 _ zkw_25, hE.2 (zExc 1, zExc 3) (List.mem_of_getElem? (i := 0) rfl)⟩, (fun _ h => nomatch h)⟩), rfl, by decide, C.2.2.2.2.1 _ zkw_13, va_tabs rfl rfl (hE.1.2.1.2.1 _ (List.mem_of_getElem? (i := 0) rfl)), rfl⟩, fun q9 => ?_⟩
      refine g_astore (L' := [(4, .ref q9), (0, .ref x), (1, .int p0), (2, .int p1), (3, .ref ao)]) C dL_trailer_17 (by decide) rfl ?_
      refine g_iconst (v := (nI 2)) C dL_trailer_19 (by decide) ?_
      exact t_iret C hr rfl (Or.inr ⟨1, 1, rfl, hX, by decide, rfl⟩) (by show 0 + mc ≤ mc; omega) (by show 0 + ms ≤ ms; omega) dL_trailer_20
  · skip
    refine n_i2l C dL_trailer_8 ?_
    refine n_last (q0 := q) (n := 1) (ws' := w.set q (ao, .inl (cy 4, 1, .inr (.inl (vp_updL f 0 r.toInt64))))) C (hout r w hP) (nI_in (by decide) (by decide)) (by rw [nI_clamp (by decide)]) dL_trailer_9 ?_
    refine g_goto C dL_trailer_10 (tgt := 21) (by decide) ?_
    refine g_iconst (v := (nI 0)) C dL_trailer_21 (by decide) ?_
    exact t_iret C hr rfl (Or.inl ⟨rfl, r, w, hP, rfl⟩) (by show 0 + mc ≤ mc; omega) (by show 0 + ms ≤ ms; omega) dL_trailer_22
theorem zml_RL_55 : Cond.methodLink RL 55 yX5_fits ∈ zAll := zg (z_t3 (List.mem_of_getElem? (i := 103) (by decide +kernel))) (by decide +kernel)
theorem zcw_fits : zCalW RL 192 yL_fits cL_fits 6 (some .int) [(0, 19, 22, 25), (0, 19, 26, 13)] 5 := ⟨⟨zg (z_t3 (List.mem_of_getElem? (i := 100) (by decide +kernel))) (by decide +kernel), zg (z_t3 (List.mem_of_getElem? (i := 101) (by decide +kernel))) (by decide +kernel), zg (z_t1 (List.mem_of_getElem? (i := 0) (by decide +kernel))) (by decide +kernel), zg (z_t3 (List.mem_of_getElem? (i := 102) (by decide +kernel))) (by decide +kernel)⟩, by decide +kernel⟩
set_option maxRecDepth 100000 in
set_option maxHeartbeats 8000000 in
theorem hw_fits (l : Launch) (D : va_G) (cy : Nat → ClassId) {EV : zEV} (hG : zGE EV) (hsub : ∀ A U H, zEw A U H → EV A U H) (ws : va_W) (x : Nat) (fs : List Value) (p0 p1 p2 : Int32) (ao q : Nat) (f : Nat → Int64) (mc ms : Nat) (rm : Room) (P : Int32 → va_W → Prop) (X : Nat → va_W → Prop) (hM : zMy l yX5_fits cX5_fits 4 (some .boolean) rm D (zTy cy) EV ws [.ref x, .int p0, .int p1, .int p2] mc ms P X) (hrc : rm.cells = mc) (hrs : rm.slots = ms) (hR : rm.frames ≤ 60 ∧ rm.locals ≤ 4000) (hx0 : ws[0]? = some (x, .inr (9, fs))) (hout : ∀ v w, P v w → w[q]? = some (ao, .inl (cy 4, 1, .inr (.inl f)))) (hcd : ∀ c w, X c w → c ≠ 0 → c = 3 ∨ c = 1) : zMw l yL_fits cL_fits 6 (some .int) [(0, 19, 22, 25), (0, 19, 26, 13)] (zrw mc ms) D (zTy cy) zEw ws [.ref x, .int p0, .int p1, .int p2, .ref ao] mc ms (tI D (zTy cy) (zPw cy q ao f (fun v => if v = 0 then 0 else 1) [3, 1] P X)) := by
  refine zMw.of (by decide) (Nat.le_of_ble_eq_true rfl) ?_
  intro p e s m below meth c A C hr hE htab
  obtain ⟨hR1, hR2⟩ := hR
  refine zG_L (L' := [(0, .ref x), (1, .int p0), (2, .int p1), (3, .int p2), (4, .ref ao)]) rfl ?_
  refine g_aload (j := 4) C dL_fits_0 rfl ?_
  refine g_iconst (v := (nI 0)) C dL_fits_2 (by decide) ?_
  refine g_aload_n (j := 0) C dL_fits_3 rfl rfl ?_
  refine g_iload_n (j := 1) C dL_fits_4 rfl rfl ?_
  refine g_iload_n (j := 2) C dL_fits_5 rfl rfl ?_
  refine g_iload_n (j := 3) C dL_fits_6 rfl rfl ?_
  refine w_Yi (As := [.int p0, .int p1, .int p2]) (rest := [.int (nI 0), .ref ao]) hG (hsub _ _ _ hE) C hM zml_RL_55 zcv_X5_fits (zRec.of C (ci := 9) (q0 := 0) rfl hx0) hrc hrs ⟨by show rm.frames + 1 ≤ 61; omega, by show 8 + (4 + 11) + rm.locals ≤ 5000; omega⟩ rfl rfl (Nat.le_of_ble_eq_true rfl) ⟨by show 0 + mc ≤ mc; omega, by show 0 + ms ≤ ms; omega⟩ dL_fits_7 (fun code w hX hne => ?_) (fun r w hP => ?_)
  · rcases hcd code w hX hne with rfl | rfl
    · refine ⟨22, ⟨[], ⟨0, 19, 22, 25⟩, [⟨0, 19, 26, 13⟩], zExc 3, htab, (fun _ h => nomatch h), rfl, by decide, C.2.2.2.2.1 _ zkw_25, va_tabs rfl rfl (hE.1.2.1.2.1 _ (List.mem_of_getElem? (i := 2) rfl)), rfl⟩, fun q9 => ?_⟩
      refine g_astore (L' := [(5, .ref q9), (0, .ref x), (1, .int p0), (2, .int p1), (3, .int p2), (4, .ref ao)]) C dL_fits_22 (by decide) rfl ?_
      refine g_iconst (v := (nI 1)) C dL_fits_24 (by decide) ?_
      exact t_iret C hr rfl (Or.inr ⟨0, 3, rfl, hX, by decide, rfl⟩) (by show 0 + mc ≤ mc; omega) (by show 0 + ms ≤ ms; omega) dL_fits_25
    · refine ⟨26, ⟨[⟨0, 19, 22, 25⟩], ⟨0, 19, 26, 13⟩, [], zExc 1, htab, (List.forall_mem_cons.mpr ⟨Or.inr ⟨by decide, zExc 3, C.2.2.2.2.1 _ zkw_25, hE.2 (zExc 1, zExc 3) (List.mem_of_getElem? (i := 0) rfl)⟩, (fun _ h => nomatch h)⟩), rfl, by decide, C.2.2.2.2.1 _ zkw_13, va_tabs rfl rfl (hE.1.2.1.2.1 _ (List.mem_of_getElem? (i := 0) rfl)), rfl⟩, fun q9 => ?_⟩
      refine g_astore (L' := [(5, .ref q9), (0, .ref x), (1, .int p0), (2, .int p1), (3, .int p2), (4, .ref ao)]) C dL_fits_26 (by decide) rfl ?_
      refine g_iconst (v := (nI 2)) C dL_fits_28 (by decide) ?_
      exact t_iret C hr rfl (Or.inr ⟨1, 1, rfl, hX, by decide, rfl⟩) (by show 0 + mc ≤ mc; omega) (by show 0 + ms ≤ ms; omega) dL_fits_29
  · skip
    refine g_if_eq C dL_fits_10 (tgt := 17) (by decide) (fun h9 => ?_) (fun h9 => ?_)
    · skip
      refine n_lconst (v := 0) C dL_fits_17 rfl ?_
      refine n_last (q0 := q) (n := 1) (ws' := w.set q (ao, .inl (cy 4, 1, .inr (.inl (vp_updL f 0 0))))) C (hout r w hP) (nI_in (by decide) (by decide)) (by rw [nI_clamp (by decide)]) dL_fits_18 ?_
      refine g_goto C dL_fits_19 (tgt := 30) (by decide) ?_
      refine g_iconst (v := (nI 0)) C dL_fits_30 (by decide) ?_
      exact t_iret C hr rfl (Or.inl ⟨rfl, r, w, hP, by dsimp only; rw [if_pos h9]⟩) (by show 0 + mc ≤ mc; omega) (by show 0 + ms ≤ ms; omega) dL_fits_31
    · skip
      refine n_lconst (v := 1) C dL_fits_13 rfl ?_
      refine g_goto C dL_fits_14 (tgt := 18) (by decide) ?_
      refine n_last (q0 := q) (n := 1) (ws' := w.set q (ao, .inl (cy 4, 1, .inr (.inl (vp_updL f 0 1))))) C (hout r w hP) (nI_in (by decide) (by decide)) (by rw [nI_clamp (by decide)]) dL_fits_18 ?_
      refine g_goto C dL_fits_19 (tgt := 30) (by decide) ?_
      refine g_iconst (v := (nI 0)) C dL_fits_30 (by decide) ?_
      exact t_iret C hr rfl (Or.inl ⟨rfl, r, w, hP, by dsimp only; rw [if_neg h9]⟩) (by show 0 + mc ≤ mc; omega) (by show 0 + ms ≤ ms; omega) dL_fits_31
theorem zml_RL_59 : Cond.methodLink RL 59 yX5_reel ∈ zAll := zg (z_t3 (List.mem_of_getElem? (i := 115) (by decide +kernel))) (by decide +kernel)
theorem zcw_reel : zCalW RL 195 yL_reel cL_reel 6 (some .int) [(0, 12, 15, 25), (0, 12, 19, 13)] 5 := ⟨⟨zg (z_t3 (List.mem_of_getElem? (i := 112) (by decide +kernel))) (by decide +kernel), zg (z_t3 (List.mem_of_getElem? (i := 113) (by decide +kernel))) (by decide +kernel), zg (z_t1 (List.mem_of_getElem? (i := 0) (by decide +kernel))) (by decide +kernel), zg (z_t3 (List.mem_of_getElem? (i := 114) (by decide +kernel))) (by decide +kernel)⟩, by decide +kernel⟩
set_option maxRecDepth 100000 in
set_option maxHeartbeats 8000000 in
theorem hw_reel (l : Launch) (D : va_G) (cy : Nat → ClassId) {EV : zEV} (hG : zGE EV) (hsub : ∀ A U H, zEw A U H → EV A U H) (ws : va_W) (x : Nat) (fs : List Value) (p0 p1 p2 : Int32) (ao q : Nat) (f : Nat → Int64) (mc ms : Nat) (rm : Room) (P : Int32 → va_W → Prop) (X : Nat → va_W → Prop) (hM : zMy l yX5_reel cX5_reel 5 (some .int) rm D (zTy cy) EV ws [.ref x, .int p0, .int p1, .int p2] mc ms P X) (hrc : rm.cells = mc) (hrs : rm.slots = ms) (hR : rm.frames ≤ 60 ∧ rm.locals ≤ 4000) (hx0 : ws[0]? = some (x, .inr (9, fs))) (hout : ∀ v w, P v w → w[q]? = some (ao, .inl (cy 4, 1, .inr (.inl f)))) (hcd : ∀ c w, X c w → c ≠ 0 → c = 3 ∨ c = 1) : zMw l yL_reel cL_reel 6 (some .int) [(0, 12, 15, 25), (0, 12, 19, 13)] (zrw mc ms) D (zTy cy) zEw ws [.ref x, .int p0, .int p1, .int p2, .ref ao] mc ms (tI D (zTy cy) (zPw cy q ao f Int32.toInt64 [3, 1] P X)) := by
  refine zMw.of (by decide) (Nat.le_of_ble_eq_true rfl) ?_
  intro p e s m below meth c A C hr hE htab
  obtain ⟨hR1, hR2⟩ := hR
  refine zG_L (L' := [(0, .ref x), (1, .int p0), (2, .int p1), (3, .int p2), (4, .ref ao)]) rfl ?_
  refine g_aload (j := 4) C dL_reel_0 rfl ?_
  refine g_iconst (v := (nI 0)) C dL_reel_2 (by decide) ?_
  refine g_aload_n (j := 0) C dL_reel_3 rfl rfl ?_
  refine g_iload_n (j := 1) C dL_reel_4 rfl rfl ?_
  refine g_iload_n (j := 2) C dL_reel_5 rfl rfl ?_
  refine g_iload_n (j := 3) C dL_reel_6 rfl rfl ?_
  refine w_Yi (As := [.int p0, .int p1, .int p2]) (rest := [.int (nI 0), .ref ao]) hG (hsub _ _ _ hE) C hM zml_RL_59 zcv_X5_reel (zRec.of C (ci := 9) (q0 := 0) rfl hx0) hrc hrs ⟨by show rm.frames + 1 ≤ 61; omega, by show 8 + (5 + 11) + rm.locals ≤ 5000; omega⟩ rfl rfl (Nat.le_of_ble_eq_true rfl) ⟨by show 0 + mc ≤ mc; omega, by show 0 + ms ≤ ms; omega⟩ dL_reel_7 (fun code w hX hne => ?_) (fun r w hP => ?_)
  · rcases hcd code w hX hne with rfl | rfl
    · refine ⟨15, ⟨[], ⟨0, 12, 15, 25⟩, [⟨0, 12, 19, 13⟩], zExc 3, htab, (fun _ h => nomatch h), rfl, by decide, C.2.2.2.2.1 _ zkw_25, va_tabs rfl rfl (hE.1.2.1.2.1 _ (List.mem_of_getElem? (i := 2) rfl)), rfl⟩, fun q9 => ?_⟩
      refine g_astore (L' := [(5, .ref q9), (0, .ref x), (1, .int p0), (2, .int p1), (3, .int p2), (4, .ref ao)]) C dL_reel_15 (by decide) rfl ?_
      refine g_iconst (v := (nI 1)) C dL_reel_17 (by decide) ?_
      exact t_iret C hr rfl (Or.inr ⟨0, 3, rfl, hX, by decide, rfl⟩) (by show 0 + mc ≤ mc; omega) (by show 0 + ms ≤ ms; omega) dL_reel_18
    · refine ⟨19, ⟨[⟨0, 12, 15, 25⟩], ⟨0, 12, 19, 13⟩, [], zExc 1, htab, (List.forall_mem_cons.mpr ⟨Or.inr ⟨by decide, zExc 3, C.2.2.2.2.1 _ zkw_25, hE.2 (zExc 1, zExc 3) (List.mem_of_getElem? (i := 0) rfl)⟩, (fun _ h => nomatch h)⟩), rfl, by decide, C.2.2.2.2.1 _ zkw_13, va_tabs rfl rfl (hE.1.2.1.2.1 _ (List.mem_of_getElem? (i := 0) rfl)), rfl⟩, fun q9 => ?_⟩
      refine g_astore (L' := [(5, .ref q9), (0, .ref x), (1, .int p0), (2, .int p1), (3, .int p2), (4, .ref ao)]) C dL_reel_19 (by decide) rfl ?_
      refine g_iconst (v := (nI 2)) C dL_reel_21 (by decide) ?_
      exact t_iret C hr rfl (Or.inr ⟨1, 1, rfl, hX, by decide, rfl⟩) (by show 0 + mc ≤ mc; omega) (by show 0 + ms ≤ ms; omega) dL_reel_22
  · skip
    refine n_i2l C dL_reel_10 ?_
    refine n_last (q0 := q) (n := 1) (ws' := w.set q (ao, .inl (cy 4, 1, .inr (.inl (vp_updL f 0 r.toInt64))))) C (hout r w hP) (nI_in (by decide) (by decide)) (by rw [nI_clamp (by decide)]) dL_reel_11 ?_
    refine g_goto C dL_reel_12 (tgt := 23) (by decide) ?_
    refine g_iconst (v := (nI 0)) C dL_reel_23 (by decide) ?_
    exact t_iret C hr rfl (Or.inl ⟨rfl, r, w, hP, rfl⟩) (by show 0 + mc ≤ mc; omega) (by show 0 + ms ≤ ms; omega) dL_reel_24
theorem zml_RL_63 : Cond.methodLink RL 63 yX5_plan ∈ zAll := zg (z_t3 (List.mem_of_getElem? (i := 142) (by decide +kernel))) (by decide +kernel)
theorem zcw_plan : zCalW RL 199 yL_plan cL_plan 7 (some .int) [(0, 14, 17, 25), (0, 14, 21, 13), (0, 14, 25, 66)] 6 := ⟨⟨zg (z_t3 (List.mem_of_getElem? (i := 138) (by decide +kernel))) (by decide +kernel), zg (z_t3 (List.mem_of_getElem? (i := 139) (by decide +kernel))) (by decide +kernel), zg (z_t1 (List.mem_of_getElem? (i := 0) (by decide +kernel))) (by decide +kernel), zg (z_t3 (List.mem_of_getElem? (i := 140) (by decide +kernel))) (by decide +kernel)⟩, by decide +kernel⟩
set_option maxRecDepth 100000 in
set_option maxHeartbeats 8000000 in
theorem hw_plan (l : Launch) (D : va_G) (cy : Nat → ClassId) {EV : zEV} (hG : zGE EV) (hsub : ∀ A U H, zEw A U H → EV A U H) (ws : va_W) (x : Nat) (fs : List Value) (p0 p1 p2 p3 : Int32) (ao q : Nat) (f : Nat → Int64) (mc ms : Nat) (rm : Room) (P : Int32 → va_W → Prop) (X : Nat → va_W → Prop) (hM : zMy l yX5_plan cX5_plan 6 (some .int) rm D (zTy cy) EV ws [.ref x, .int p0, .int p1, .int p2, .int p3] mc ms P X) (hrc : rm.cells = mc) (hrs : rm.slots = ms) (hR : rm.frames ≤ 60 ∧ rm.locals ≤ 4000) (hx0 : ws[0]? = some (x, .inr (9, fs))) (hout : ∀ v w, P v w → w[q]? = some (ao, .inl (cy 4, 1, .inr (.inl f)))) (hcd : ∀ c w, X c w → c ≠ 0 → c = 3 ∨ c = 1 ∨ c = 5) : zMw l yL_plan cL_plan 7 (some .int) [(0, 14, 17, 25), (0, 14, 21, 13), (0, 14, 25, 66)] (zrw mc ms) D (zTy cy) zEw ws [.ref x, .int p0, .int p1, .int p2, .int p3, .ref ao] mc ms (tI D (zTy cy) (zPw cy q ao f Int32.toInt64 [3, 1, 5] P X)) := by
  refine zMw.of (by decide) (Nat.le_of_ble_eq_true rfl) ?_
  intro p e s m below meth c A C hr hE htab
  obtain ⟨hR1, hR2⟩ := hR
  refine zG_L (L' := [(0, .ref x), (1, .int p0), (2, .int p1), (3, .int p2), (4, .int p3), (5, .ref ao)]) rfl ?_
  refine g_aload (j := 5) C dL_plan_0 rfl ?_
  refine g_iconst (v := (nI 0)) C dL_plan_2 (by decide) ?_
  refine g_aload_n (j := 0) C dL_plan_3 rfl rfl ?_
  refine g_iload_n (j := 1) C dL_plan_4 rfl rfl ?_
  refine g_iload_n (j := 2) C dL_plan_5 rfl rfl ?_
  refine g_iload_n (j := 3) C dL_plan_6 rfl rfl ?_
  refine g_iload (j := 4) C dL_plan_7 rfl ?_
  refine w_Yi (As := [.int p0, .int p1, .int p2, .int p3]) (rest := [.int (nI 0), .ref ao]) hG (hsub _ _ _ hE) C hM zml_RL_63 zcv_X5_plan (zRec.of C (ci := 9) (q0 := 0) rfl hx0) hrc hrs ⟨by show rm.frames + 1 ≤ 61; omega, by show 8 + (6 + 11) + rm.locals ≤ 5000; omega⟩ rfl rfl (Nat.le_of_ble_eq_true rfl) ⟨by show 0 + mc ≤ mc; omega, by show 0 + ms ≤ ms; omega⟩ dL_plan_9 (fun code w hX hne => ?_) (fun r w hP => ?_)
  · rcases hcd code w hX hne with rfl | rfl | rfl
    · refine ⟨17, ⟨[], ⟨0, 14, 17, 25⟩, [⟨0, 14, 21, 13⟩, ⟨0, 14, 25, 66⟩], zExc 3, htab, (fun _ h => nomatch h), rfl, by decide, C.2.2.2.2.1 _ zkw_25, va_tabs rfl rfl (hE.1.2.1.2.1 _ (List.mem_of_getElem? (i := 2) rfl)), rfl⟩, fun q9 => ?_⟩
      refine g_astore (L' := [(6, .ref q9), (0, .ref x), (1, .int p0), (2, .int p1), (3, .int p2), (4, .int p3), (5, .ref ao)]) C dL_plan_17 (by decide) rfl ?_
      refine g_iconst (v := (nI 1)) C dL_plan_19 (by decide) ?_
      exact t_iret C hr rfl (Or.inr ⟨0, 3, rfl, hX, by decide, rfl⟩) (by show 0 + mc ≤ mc; omega) (by show 0 + ms ≤ ms; omega) dL_plan_20
    · refine ⟨21, ⟨[⟨0, 14, 17, 25⟩], ⟨0, 14, 21, 13⟩, [⟨0, 14, 25, 66⟩], zExc 1, htab, (List.forall_mem_cons.mpr ⟨Or.inr ⟨by decide, zExc 3, C.2.2.2.2.1 _ zkw_25, hE.2 (zExc 1, zExc 3) (List.mem_of_getElem? (i := 0) rfl)⟩, (fun _ h => nomatch h)⟩), rfl, by decide, C.2.2.2.2.1 _ zkw_13, va_tabs rfl rfl (hE.1.2.1.2.1 _ (List.mem_of_getElem? (i := 0) rfl)), rfl⟩, fun q9 => ?_⟩
      refine g_astore (L' := [(6, .ref q9), (0, .ref x), (1, .int p0), (2, .int p1), (3, .int p2), (4, .int p3), (5, .ref ao)]) C dL_plan_21 (by decide) rfl ?_
      refine g_iconst (v := (nI 2)) C dL_plan_23 (by decide) ?_
      exact t_iret C hr rfl (Or.inr ⟨1, 1, rfl, hX, by decide, rfl⟩) (by show 0 + mc ≤ mc; omega) (by show 0 + ms ≤ ms; omega) dL_plan_24
    · refine ⟨25, ⟨[⟨0, 14, 17, 25⟩, ⟨0, 14, 21, 13⟩], ⟨0, 14, 25, 66⟩, [], zExc 5, htab, (List.forall_mem_cons.mpr ⟨Or.inr ⟨by decide, zExc 3, C.2.2.2.2.1 _ zkw_25, hE.2 (zExc 5, zExc 3) (List.mem_of_getElem? (i := 5) rfl)⟩, (List.forall_mem_cons.mpr ⟨Or.inr ⟨by decide, zExc 1, C.2.2.2.2.1 _ zkw_13, hE.2 (zExc 5, zExc 1) (List.mem_of_getElem? (i := 3) rfl)⟩, (fun _ h => nomatch h)⟩)⟩), rfl, by decide, C.2.2.2.2.1 _ zkw_66, va_tabs rfl rfl (hE.1.2.1.2.1 _ (List.mem_of_getElem? (i := 4) rfl)), rfl⟩, fun q9 => ?_⟩
      refine g_astore (L' := [(6, .ref q9), (0, .ref x), (1, .int p0), (2, .int p1), (3, .int p2), (4, .int p3), (5, .ref ao)]) C dL_plan_25 (by decide) rfl ?_
      refine g_iconst (v := (nI 3)) C dL_plan_27 (by decide) ?_
      exact t_iret C hr rfl (Or.inr ⟨2, 5, rfl, hX, by decide, rfl⟩) (by show 0 + mc ≤ mc; omega) (by show 0 + ms ≤ ms; omega) dL_plan_28
  · skip
    refine n_i2l C dL_plan_12 ?_
    refine n_last (q0 := q) (n := 1) (ws' := w.set q (ao, .inl (cy 4, 1, .inr (.inl (vp_updL f 0 r.toInt64))))) C (hout r w hP) (nI_in (by decide) (by decide)) (by rw [nI_clamp (by decide)]) dL_plan_13 ?_
    refine g_goto C dL_plan_14 (tgt := 29) (by decide) ?_
    refine g_iconst (v := (nI 0)) C dL_plan_29 (by decide) ?_
    exact t_iret C hr rfl (Or.inl ⟨rfl, r, w, hP, rfl⟩) (by show 0 + mc ≤ mc; omega) (by show 0 + ms ≤ ms; omega) dL_plan_30
theorem zml_RL_68 : Cond.methodLink RL 68 yX5_move ∈ zAll := zg (z_t3 (List.mem_of_getElem? (i := 236) (by decide +kernel))) (by decide +kernel)
theorem zcw_move : zCalW RL 202 yL_move cL_move 6 (some .int) [(0, 12, 15, 25), (0, 12, 19, 13), (0, 12, 23, 15), (0, 12, 27, 66)] 5 := ⟨⟨zg (z_t3 (List.mem_of_getElem? (i := 233) (by decide +kernel))) (by decide +kernel), zg (z_t3 (List.mem_of_getElem? (i := 234) (by decide +kernel))) (by decide +kernel), zg (z_t1 (List.mem_of_getElem? (i := 0) (by decide +kernel))) (by decide +kernel), zg (z_t3 (List.mem_of_getElem? (i := 235) (by decide +kernel))) (by decide +kernel)⟩, by decide +kernel⟩
set_option maxRecDepth 100000 in
set_option maxHeartbeats 8000000 in
theorem hw_move (l : Launch) (D : va_G) (cy : Nat → ClassId) {EV : zEV} (hG : zGE EV) (hsub : ∀ A U H, zEw A U H → EV A U H) (ws : va_W) (x : Nat) (fs : List Value) (p0 p1 p2 : Int32) (ao q : Nat) (f : Nat → Int64) (mc ms : Nat) (rm : Room) (P : Int32 → va_W → Prop) (X : Nat → va_W → Prop) (hM : zMy l yX5_move cX5_move 5 (some .int) rm D (zTy cy) EV ws [.ref x, .int p0, .int p1, .int p2] mc ms P X) (hrc : rm.cells = mc) (hrs : rm.slots = ms) (hR : rm.frames ≤ 60 ∧ rm.locals ≤ 4000) (hx0 : ws[0]? = some (x, .inr (9, fs))) (hout : ∀ v w, P v w → w[q]? = some (ao, .inl (cy 4, 1, .inr (.inl f)))) (hcd : ∀ c w, X c w → c ≠ 0 → c = 3 ∨ c = 1 ∨ c = 2 ∨ c = 5) : zMw l yL_move cL_move 6 (some .int) [(0, 12, 15, 25), (0, 12, 19, 13), (0, 12, 23, 15), (0, 12, 27, 66)] (zrw mc ms) D (zTy cy) zEw ws [.ref x, .int p0, .int p1, .int p2, .ref ao] mc ms (tI D (zTy cy) (zPw cy q ao f Int32.toInt64 [3, 1, 2, 5] P X)) := by
  refine zMw.of (by decide) (Nat.le_of_ble_eq_true rfl) ?_
  intro p e s m below meth c A C hr hE htab
  obtain ⟨hR1, hR2⟩ := hR
  refine zG_L (L' := [(0, .ref x), (1, .int p0), (2, .int p1), (3, .int p2), (4, .ref ao)]) rfl ?_
  refine g_aload (j := 4) C dL_move_0 rfl ?_
  refine g_iconst (v := (nI 0)) C dL_move_2 (by decide) ?_
  refine g_aload_n (j := 0) C dL_move_3 rfl rfl ?_
  refine g_iload_n (j := 1) C dL_move_4 rfl rfl ?_
  refine g_iload_n (j := 2) C dL_move_5 rfl rfl ?_
  refine g_iload_n (j := 3) C dL_move_6 rfl rfl ?_
  refine w_Yi (As := [.int p0, .int p1, .int p2]) (rest := [.int (nI 0), .ref ao]) hG (hsub _ _ _ hE) C hM zml_RL_68 zcv_X5_move (zRec.of C (ci := 9) (q0 := 0) rfl hx0) hrc hrs ⟨by show rm.frames + 1 ≤ 61; omega, by show 8 + (5 + 11) + rm.locals ≤ 5000; omega⟩ rfl rfl (Nat.le_of_ble_eq_true rfl) ⟨by show 0 + mc ≤ mc; omega, by show 0 + ms ≤ ms; omega⟩ dL_move_7 (fun code w hX hne => ?_) (fun r w hP => ?_)
  · rcases hcd code w hX hne with rfl | rfl | rfl | rfl
    · refine ⟨15, ⟨[], ⟨0, 12, 15, 25⟩, [⟨0, 12, 19, 13⟩, ⟨0, 12, 23, 15⟩, ⟨0, 12, 27, 66⟩], zExc 3, htab, (fun _ h => nomatch h), rfl, by decide, C.2.2.2.2.1 _ zkw_25, va_tabs rfl rfl (hE.1.2.1.2.1 _ (List.mem_of_getElem? (i := 2) rfl)), rfl⟩, fun q9 => ?_⟩
      refine g_astore (L' := [(5, .ref q9), (0, .ref x), (1, .int p0), (2, .int p1), (3, .int p2), (4, .ref ao)]) C dL_move_15 (by decide) rfl ?_
      refine g_iconst (v := (nI 1)) C dL_move_17 (by decide) ?_
      exact t_iret C hr rfl (Or.inr ⟨0, 3, rfl, hX, by decide, rfl⟩) (by show 0 + mc ≤ mc; omega) (by show 0 + ms ≤ ms; omega) dL_move_18
    · refine ⟨19, ⟨[⟨0, 12, 15, 25⟩], ⟨0, 12, 19, 13⟩, [⟨0, 12, 23, 15⟩, ⟨0, 12, 27, 66⟩], zExc 1, htab, (List.forall_mem_cons.mpr ⟨Or.inr ⟨by decide, zExc 3, C.2.2.2.2.1 _ zkw_25, hE.2 (zExc 1, zExc 3) (List.mem_of_getElem? (i := 0) rfl)⟩, (fun _ h => nomatch h)⟩), rfl, by decide, C.2.2.2.2.1 _ zkw_13, va_tabs rfl rfl (hE.1.2.1.2.1 _ (List.mem_of_getElem? (i := 0) rfl)), rfl⟩, fun q9 => ?_⟩
      refine g_astore (L' := [(5, .ref q9), (0, .ref x), (1, .int p0), (2, .int p1), (3, .int p2), (4, .ref ao)]) C dL_move_19 (by decide) rfl ?_
      refine g_iconst (v := (nI 2)) C dL_move_21 (by decide) ?_
      exact t_iret C hr rfl (Or.inr ⟨1, 1, rfl, hX, by decide, rfl⟩) (by show 0 + mc ≤ mc; omega) (by show 0 + ms ≤ ms; omega) dL_move_22
    · refine ⟨23, ⟨[⟨0, 12, 15, 25⟩, ⟨0, 12, 19, 13⟩], ⟨0, 12, 23, 15⟩, [⟨0, 12, 27, 66⟩], zExc 2, htab, (List.forall_mem_cons.mpr ⟨Or.inr ⟨by decide, zExc 3, C.2.2.2.2.1 _ zkw_25, hE.2 (zExc 2, zExc 3) (List.mem_of_getElem? (i := 2) rfl)⟩, (List.forall_mem_cons.mpr ⟨Or.inr ⟨by decide, zExc 1, C.2.2.2.2.1 _ zkw_13, hE.2 (zExc 2, zExc 1) (List.mem_of_getElem? (i := 1) rfl)⟩, (fun _ h => nomatch h)⟩)⟩), rfl, by decide, C.2.2.2.2.1 _ zkw_15, va_tabs rfl rfl (hE.1.2.1.2.1 _ (List.mem_of_getElem? (i := 1) rfl)), rfl⟩, fun q9 => ?_⟩
      refine g_astore (L' := [(5, .ref q9), (0, .ref x), (1, .int p0), (2, .int p1), (3, .int p2), (4, .ref ao)]) C dL_move_23 (by decide) rfl ?_
      refine g_iconst (v := (nI 3)) C dL_move_25 (by decide) ?_
      exact t_iret C hr rfl (Or.inr ⟨2, 2, rfl, hX, by decide, rfl⟩) (by show 0 + mc ≤ mc; omega) (by show 0 + ms ≤ ms; omega) dL_move_26
    · refine ⟨27, ⟨[⟨0, 12, 15, 25⟩, ⟨0, 12, 19, 13⟩, ⟨0, 12, 23, 15⟩], ⟨0, 12, 27, 66⟩, [], zExc 5, htab, (List.forall_mem_cons.mpr ⟨Or.inr ⟨by decide, zExc 3, C.2.2.2.2.1 _ zkw_25, hE.2 (zExc 5, zExc 3) (List.mem_of_getElem? (i := 5) rfl)⟩, (List.forall_mem_cons.mpr ⟨Or.inr ⟨by decide, zExc 1, C.2.2.2.2.1 _ zkw_13, hE.2 (zExc 5, zExc 1) (List.mem_of_getElem? (i := 3) rfl)⟩, (List.forall_mem_cons.mpr ⟨Or.inr ⟨by decide, zExc 2, C.2.2.2.2.1 _ zkw_15, hE.2 (zExc 5, zExc 2) (List.mem_of_getElem? (i := 4) rfl)⟩, (fun _ h => nomatch h)⟩)⟩)⟩), rfl, by decide, C.2.2.2.2.1 _ zkw_66, va_tabs rfl rfl (hE.1.2.1.2.1 _ (List.mem_of_getElem? (i := 4) rfl)), rfl⟩, fun q9 => ?_⟩
      refine g_astore (L' := [(5, .ref q9), (0, .ref x), (1, .int p0), (2, .int p1), (3, .int p2), (4, .ref ao)]) C dL_move_27 (by decide) rfl ?_
      refine g_iconst (v := (nI 4)) C dL_move_29 (by decide) ?_
      exact t_iret C hr rfl (Or.inr ⟨3, 5, rfl, hX, by decide, rfl⟩) (by show 0 + mc ≤ mc; omega) (by show 0 + ms ≤ ms; omega) dL_move_30
  · skip
    refine n_i2l C dL_move_10 ?_
    refine n_last (q0 := q) (n := 1) (ws' := w.set q (ao, .inl (cy 4, 1, .inr (.inl (vp_updL f 0 r.toInt64))))) C (hout r w hP) (nI_in (by decide) (by decide)) (by rw [nI_clamp (by decide)]) dL_move_11 ?_
    refine g_goto C dL_move_12 (tgt := 31) (by decide) ?_
    refine g_iconst (v := (nI 0)) C dL_move_31 (by decide) ?_
    exact t_iret C hr rfl (Or.inl ⟨rfl, r, w, hP, rfl⟩) (by show 0 + mc ≤ mc; omega) (by show 0 + ms ≤ ms; omega) dL_move_32
theorem zml_RL_71 : Cond.methodLink RL 71 yX5_cancel ∈ zAll := zg (z_t4 (List.mem_of_getElem? (i := 25) (by decide +kernel))) (by decide +kernel)
theorem zcw_cancel : zCalW RL 205 yL_cancel cL_cancel 4 (some .int) [(0, 9, 12, 25), (0, 9, 15, 15)] 3 := ⟨⟨zg (z_t4 (List.mem_of_getElem? (i := 22) (by decide +kernel))) (by decide +kernel), zg (z_t4 (List.mem_of_getElem? (i := 23) (by decide +kernel))) (by decide +kernel), zg (z_t1 (List.mem_of_getElem? (i := 0) (by decide +kernel))) (by decide +kernel), zg (z_t4 (List.mem_of_getElem? (i := 24) (by decide +kernel))) (by decide +kernel)⟩, by decide +kernel⟩
set_option maxRecDepth 100000 in
set_option maxHeartbeats 8000000 in
theorem hw_cancel (l : Launch) (D : va_G) (cy : Nat → ClassId) {EV : zEV} (hG : zGE EV) (hsub : ∀ A U H, zEw A U H → EV A U H) (ws : va_W) (x : Nat) (fs : List Value) (p0 : Int32) (ao q : Nat) (f : Nat → Int64) (mc ms : Nat) (rm : Room) (P : Int32 → va_W → Prop) (X : Nat → va_W → Prop) (hM : zMy l yX5_cancel cX5_cancel 3 (some .int) rm D (zTy cy) EV ws [.ref x, .int p0] mc ms P X) (hrc : rm.cells = mc) (hrs : rm.slots = ms) (hR : rm.frames ≤ 60 ∧ rm.locals ≤ 4000) (hx0 : ws[0]? = some (x, .inr (9, fs))) (hout : ∀ v w, P v w → w[q]? = some (ao, .inl (cy 4, 1, .inr (.inl f)))) (hcd : ∀ c w, X c w → c ≠ 0 → c = 3 ∨ c = 2) : zMw l yL_cancel cL_cancel 4 (some .int) [(0, 9, 12, 25), (0, 9, 15, 15)] (zrw mc ms) D (zTy cy) zEw ws [.ref x, .int p0, .ref ao] mc ms (tI D (zTy cy) (zPw cy q ao f Int32.toInt64 [3, 2] P X)) := by
  refine zMw.of (by decide) (Nat.le_of_ble_eq_true rfl) ?_
  intro p e s m below meth c A C hr hE htab
  obtain ⟨hR1, hR2⟩ := hR
  refine zG_L (L' := [(0, .ref x), (1, .int p0), (2, .ref ao)]) rfl ?_
  refine g_aload_n (j := 2) C dL_cancel_0 rfl rfl ?_
  refine g_iconst (v := (nI 0)) C dL_cancel_1 (by decide) ?_
  refine g_aload_n (j := 0) C dL_cancel_2 rfl rfl ?_
  refine g_iload_n (j := 1) C dL_cancel_3 rfl rfl ?_
  refine w_Yi (As := [.int p0]) (rest := [.int (nI 0), .ref ao]) hG (hsub _ _ _ hE) C hM zml_RL_71 zcv_X5_cancel (zRec.of C (ci := 9) (q0 := 0) rfl hx0) hrc hrs ⟨by show rm.frames + 1 ≤ 61; omega, by show 8 + (3 + 11) + rm.locals ≤ 5000; omega⟩ rfl rfl (Nat.le_of_ble_eq_true rfl) ⟨by show 0 + mc ≤ mc; omega, by show 0 + ms ≤ ms; omega⟩ dL_cancel_4 (fun code w hX hne => ?_) (fun r w hP => ?_)
  · rcases hcd code w hX hne with rfl | rfl
    · refine ⟨12, ⟨[], ⟨0, 9, 12, 25⟩, [⟨0, 9, 15, 15⟩], zExc 3, htab, (fun _ h => nomatch h), rfl, by decide, C.2.2.2.2.1 _ zkw_25, va_tabs rfl rfl (hE.1.2.1.2.1 _ (List.mem_of_getElem? (i := 2) rfl)), rfl⟩, fun q9 => ?_⟩
      refine g_astore_n (L' := [(3, .ref q9), (0, .ref x), (1, .int p0), (2, .ref ao)]) C dL_cancel_12 rfl (by decide) rfl ?_
      refine g_iconst (v := (nI 1)) C dL_cancel_13 (by decide) ?_
      exact t_iret C hr rfl (Or.inr ⟨0, 3, rfl, hX, by decide, rfl⟩) (by show 0 + mc ≤ mc; omega) (by show 0 + ms ≤ ms; omega) dL_cancel_14
    · refine ⟨15, ⟨[⟨0, 9, 12, 25⟩], ⟨0, 9, 15, 15⟩, [], zExc 2, htab, (List.forall_mem_cons.mpr ⟨Or.inr ⟨by decide, zExc 3, C.2.2.2.2.1 _ zkw_25, hE.2 (zExc 2, zExc 3) (List.mem_of_getElem? (i := 2) rfl)⟩, (fun _ h => nomatch h)⟩), rfl, by decide, C.2.2.2.2.1 _ zkw_15, va_tabs rfl rfl (hE.1.2.1.2.1 _ (List.mem_of_getElem? (i := 1) rfl)), rfl⟩, fun q9 => ?_⟩
      refine g_astore_n (L' := [(3, .ref q9), (0, .ref x), (1, .int p0), (2, .ref ao)]) C dL_cancel_15 rfl (by decide) rfl ?_
      refine g_iconst (v := (nI 2)) C dL_cancel_16 (by decide) ?_
      exact t_iret C hr rfl (Or.inr ⟨1, 2, rfl, hX, by decide, rfl⟩) (by show 0 + mc ≤ mc; omega) (by show 0 + ms ≤ ms; omega) dL_cancel_17
  · skip
    refine n_i2l C dL_cancel_7 ?_
    refine n_last (q0 := q) (n := 1) (ws' := w.set q (ao, .inl (cy 4, 1, .inr (.inl (vp_updL f 0 r.toInt64))))) C (hout r w hP) (nI_in (by decide) (by decide)) (by rw [nI_clamp (by decide)]) dL_cancel_8 ?_
    refine g_goto C dL_cancel_9 (tgt := 18) (by decide) ?_
    refine g_iconst (v := (nI 0)) C dL_cancel_18 (by decide) ?_
    exact t_iret C hr rfl (Or.inl ⟨rfl, r, w, hP, rfl⟩) (by show 0 + mc ≤ mc; omega) (by show 0 + ms ≤ ms; omega) dL_cancel_19
theorem zml_RL_74 : Cond.methodLink RL 74 yX5_sell ∈ zAll := zg (z_t4 (List.mem_of_getElem? (i := 41) (by decide +kernel))) (by decide +kernel)
theorem zcw_sell : zCalW RL 208 yL_sell cL_sell 5 (some .int) [(0, 10, 13, 25), (0, 10, 17, 13), (0, 10, 21, 15), (0, 10, 25, 66)] 4 := ⟨⟨zg (z_t4 (List.mem_of_getElem? (i := 38) (by decide +kernel))) (by decide +kernel), zg (z_t4 (List.mem_of_getElem? (i := 39) (by decide +kernel))) (by decide +kernel), zg (z_t1 (List.mem_of_getElem? (i := 0) (by decide +kernel))) (by decide +kernel), zg (z_t4 (List.mem_of_getElem? (i := 40) (by decide +kernel))) (by decide +kernel)⟩, by decide +kernel⟩
set_option maxRecDepth 100000 in
set_option maxHeartbeats 8000000 in
theorem hw_sell (l : Launch) (D : va_G) (cy : Nat → ClassId) {EV : zEV} (hG : zGE EV) (hsub : ∀ A U H, zEw A U H → EV A U H) (ws : va_W) (x : Nat) (fs : List Value) (p0 p1 : Int32) (ao q : Nat) (f : Nat → Int64) (mc ms : Nat) (rm : Room) (P : Int32 → va_W → Prop) (X : Nat → va_W → Prop) (hM : zMy l yX5_sell cX5_sell 4 (some .int) rm D (zTy cy) EV ws [.ref x, .int p0, .int p1] mc ms P X) (hrc : rm.cells = mc) (hrs : rm.slots = ms) (hR : rm.frames ≤ 60 ∧ rm.locals ≤ 4000) (hx0 : ws[0]? = some (x, .inr (9, fs))) (hout : ∀ v w, P v w → w[q]? = some (ao, .inl (cy 4, 1, .inr (.inl f)))) (hcd : ∀ c w, X c w → c ≠ 0 → c = 3 ∨ c = 1 ∨ c = 2 ∨ c = 5) : zMw l yL_sell cL_sell 5 (some .int) [(0, 10, 13, 25), (0, 10, 17, 13), (0, 10, 21, 15), (0, 10, 25, 66)] (zrw mc ms) D (zTy cy) zEw ws [.ref x, .int p0, .int p1, .ref ao] mc ms (tI D (zTy cy) (zPw cy q ao f Int32.toInt64 [3, 1, 2, 5] P X)) := by
  refine zMw.of (by decide) (Nat.le_of_ble_eq_true rfl) ?_
  intro p e s m below meth c A C hr hE htab
  obtain ⟨hR1, hR2⟩ := hR
  refine zG_L (L' := [(0, .ref x), (1, .int p0), (2, .int p1), (3, .ref ao)]) rfl ?_
  refine g_aload_n (j := 3) C dL_sell_0 rfl rfl ?_
  refine g_iconst (v := (nI 0)) C dL_sell_1 (by decide) ?_
  refine g_aload_n (j := 0) C dL_sell_2 rfl rfl ?_
  refine g_iload_n (j := 1) C dL_sell_3 rfl rfl ?_
  refine g_iload_n (j := 2) C dL_sell_4 rfl rfl ?_
  refine w_Yi (As := [.int p0, .int p1]) (rest := [.int (nI 0), .ref ao]) hG (hsub _ _ _ hE) C hM zml_RL_74 zcv_X5_sell (zRec.of C (ci := 9) (q0 := 0) rfl hx0) hrc hrs ⟨by show rm.frames + 1 ≤ 61; omega, by show 8 + (4 + 11) + rm.locals ≤ 5000; omega⟩ rfl rfl (Nat.le_of_ble_eq_true rfl) ⟨by show 0 + mc ≤ mc; omega, by show 0 + ms ≤ ms; omega⟩ dL_sell_5 (fun code w hX hne => ?_) (fun r w hP => ?_)
  · rcases hcd code w hX hne with rfl | rfl | rfl | rfl
    · refine ⟨13, ⟨[], ⟨0, 10, 13, 25⟩, [⟨0, 10, 17, 13⟩, ⟨0, 10, 21, 15⟩, ⟨0, 10, 25, 66⟩], zExc 3, htab, (fun _ h => nomatch h), rfl, by decide, C.2.2.2.2.1 _ zkw_25, va_tabs rfl rfl (hE.1.2.1.2.1 _ (List.mem_of_getElem? (i := 2) rfl)), rfl⟩, fun q9 => ?_⟩
      refine g_astore (L' := [(4, .ref q9), (0, .ref x), (1, .int p0), (2, .int p1), (3, .ref ao)]) C dL_sell_13 (by decide) rfl ?_
      refine g_iconst (v := (nI 1)) C dL_sell_15 (by decide) ?_
      exact t_iret C hr rfl (Or.inr ⟨0, 3, rfl, hX, by decide, rfl⟩) (by show 0 + mc ≤ mc; omega) (by show 0 + ms ≤ ms; omega) dL_sell_16
    · refine ⟨17, ⟨[⟨0, 10, 13, 25⟩], ⟨0, 10, 17, 13⟩, [⟨0, 10, 21, 15⟩, ⟨0, 10, 25, 66⟩], zExc 1, htab, (List.forall_mem_cons.mpr ⟨Or.inr ⟨by decide, zExc 3, C.2.2.2.2.1 _ zkw_25, hE.2 (zExc 1, zExc 3) (List.mem_of_getElem? (i := 0) rfl)⟩, (fun _ h => nomatch h)⟩), rfl, by decide, C.2.2.2.2.1 _ zkw_13, va_tabs rfl rfl (hE.1.2.1.2.1 _ (List.mem_of_getElem? (i := 0) rfl)), rfl⟩, fun q9 => ?_⟩
      refine g_astore (L' := [(4, .ref q9), (0, .ref x), (1, .int p0), (2, .int p1), (3, .ref ao)]) C dL_sell_17 (by decide) rfl ?_
      refine g_iconst (v := (nI 2)) C dL_sell_19 (by decide) ?_
      exact t_iret C hr rfl (Or.inr ⟨1, 1, rfl, hX, by decide, rfl⟩) (by show 0 + mc ≤ mc; omega) (by show 0 + ms ≤ ms; omega) dL_sell_20
    · refine ⟨21, ⟨[⟨0, 10, 13, 25⟩, ⟨0, 10, 17, 13⟩], ⟨0, 10, 21, 15⟩, [⟨0, 10, 25, 66⟩], zExc 2, htab, (List.forall_mem_cons.mpr ⟨Or.inr ⟨by decide, zExc 3, C.2.2.2.2.1 _ zkw_25, hE.2 (zExc 2, zExc 3) (List.mem_of_getElem? (i := 2) rfl)⟩, (List.forall_mem_cons.mpr ⟨Or.inr ⟨by decide, zExc 1, C.2.2.2.2.1 _ zkw_13, hE.2 (zExc 2, zExc 1) (List.mem_of_getElem? (i := 1) rfl)⟩, (fun _ h => nomatch h)⟩)⟩), rfl, by decide, C.2.2.2.2.1 _ zkw_15, va_tabs rfl rfl (hE.1.2.1.2.1 _ (List.mem_of_getElem? (i := 1) rfl)), rfl⟩, fun q9 => ?_⟩
      refine g_astore (L' := [(4, .ref q9), (0, .ref x), (1, .int p0), (2, .int p1), (3, .ref ao)]) C dL_sell_21 (by decide) rfl ?_
      refine g_iconst (v := (nI 3)) C dL_sell_23 (by decide) ?_
      exact t_iret C hr rfl (Or.inr ⟨2, 2, rfl, hX, by decide, rfl⟩) (by show 0 + mc ≤ mc; omega) (by show 0 + ms ≤ ms; omega) dL_sell_24
    · refine ⟨25, ⟨[⟨0, 10, 13, 25⟩, ⟨0, 10, 17, 13⟩, ⟨0, 10, 21, 15⟩], ⟨0, 10, 25, 66⟩, [], zExc 5, htab, (List.forall_mem_cons.mpr ⟨Or.inr ⟨by decide, zExc 3, C.2.2.2.2.1 _ zkw_25, hE.2 (zExc 5, zExc 3) (List.mem_of_getElem? (i := 5) rfl)⟩, (List.forall_mem_cons.mpr ⟨Or.inr ⟨by decide, zExc 1, C.2.2.2.2.1 _ zkw_13, hE.2 (zExc 5, zExc 1) (List.mem_of_getElem? (i := 3) rfl)⟩, (List.forall_mem_cons.mpr ⟨Or.inr ⟨by decide, zExc 2, C.2.2.2.2.1 _ zkw_15, hE.2 (zExc 5, zExc 2) (List.mem_of_getElem? (i := 4) rfl)⟩, (fun _ h => nomatch h)⟩)⟩)⟩), rfl, by decide, C.2.2.2.2.1 _ zkw_66, va_tabs rfl rfl (hE.1.2.1.2.1 _ (List.mem_of_getElem? (i := 4) rfl)), rfl⟩, fun q9 => ?_⟩
      refine g_astore (L' := [(4, .ref q9), (0, .ref x), (1, .int p0), (2, .int p1), (3, .ref ao)]) C dL_sell_25 (by decide) rfl ?_
      refine g_iconst (v := (nI 4)) C dL_sell_27 (by decide) ?_
      exact t_iret C hr rfl (Or.inr ⟨3, 5, rfl, hX, by decide, rfl⟩) (by show 0 + mc ≤ mc; omega) (by show 0 + ms ≤ ms; omega) dL_sell_28
  · skip
    refine n_i2l C dL_sell_8 ?_
    refine n_last (q0 := q) (n := 1) (ws' := w.set q (ao, .inl (cy 4, 1, .inr (.inl (vp_updL f 0 r.toInt64))))) C (hout r w hP) (nI_in (by decide) (by decide)) (by rw [nI_clamp (by decide)]) dL_sell_9 ?_
    refine g_goto C dL_sell_10 (tgt := 29) (by decide) ?_
    refine g_iconst (v := (nI 0)) C dL_sell_29 (by decide) ?_
    exact t_iret C hr rfl (Or.inl ⟨rfl, r, w, hP, rfl⟩) (by show 0 + mc ≤ mc; omega) (by show 0 + ms ≤ ms; omega) dL_sell_30
theorem zml_RL_77 : Cond.methodLink RL 77 yX5_show ∈ zAll := zg (z_t4 (List.mem_of_getElem? (i := 59) (by decide +kernel))) (by decide +kernel)
theorem zcw_show : zCalW RL 211 yL_show cL_show 5 (some .int) [(0, 10, 13, 25), (0, 10, 17, 13)] 4 := ⟨⟨zg (z_t4 (List.mem_of_getElem? (i := 56) (by decide +kernel))) (by decide +kernel), zg (z_t4 (List.mem_of_getElem? (i := 57) (by decide +kernel))) (by decide +kernel), zg (z_t1 (List.mem_of_getElem? (i := 0) (by decide +kernel))) (by decide +kernel), zg (z_t4 (List.mem_of_getElem? (i := 58) (by decide +kernel))) (by decide +kernel)⟩, by decide +kernel⟩
set_option maxRecDepth 100000 in
set_option maxHeartbeats 8000000 in
theorem hw_show (l : Launch) (D : va_G) (cy : Nat → ClassId) {EV : zEV} (hG : zGE EV) (hsub : ∀ A U H, zEw A U H → EV A U H) (ws : va_W) (x : Nat) (fs : List Value) (p0 p1 : Int32) (ao q : Nat) (f : Nat → Int64) (mc ms : Nat) (rm : Room) (P : Int32 → va_W → Prop) (X : Nat → va_W → Prop) (hM : zMy l yX5_show cX5_show 3 (some .int) rm D (zTy cy) EV ws [.ref x, .int p0, .int p1] mc ms P X) (hrc : rm.cells = mc) (hrs : rm.slots = ms) (hR : rm.frames ≤ 60 ∧ rm.locals ≤ 4000) (hx0 : ws[0]? = some (x, .inr (9, fs))) (hout : ∀ v w, P v w → w[q]? = some (ao, .inl (cy 4, 1, .inr (.inl f)))) (hcd : ∀ c w, X c w → c ≠ 0 → c = 3 ∨ c = 1) : zMw l yL_show cL_show 5 (some .int) [(0, 10, 13, 25), (0, 10, 17, 13)] (zrw mc ms) D (zTy cy) zEw ws [.ref x, .int p0, .int p1, .ref ao] mc ms (tI D (zTy cy) (zPw cy q ao f Int32.toInt64 [3, 1] P X)) := by
  refine zMw.of (by decide) (Nat.le_of_ble_eq_true rfl) ?_
  intro p e s m below meth c A C hr hE htab
  obtain ⟨hR1, hR2⟩ := hR
  refine zG_L (L' := [(0, .ref x), (1, .int p0), (2, .int p1), (3, .ref ao)]) rfl ?_
  refine g_aload_n (j := 3) C dL_show_0 rfl rfl ?_
  refine g_iconst (v := (nI 0)) C dL_show_1 (by decide) ?_
  refine g_aload_n (j := 0) C dL_show_2 rfl rfl ?_
  refine g_iload_n (j := 1) C dL_show_3 rfl rfl ?_
  refine g_iload_n (j := 2) C dL_show_4 rfl rfl ?_
  refine w_Yi (As := [.int p0, .int p1]) (rest := [.int (nI 0), .ref ao]) hG (hsub _ _ _ hE) C hM zml_RL_77 zcv_X5_show (zRec.of C (ci := 9) (q0 := 0) rfl hx0) hrc hrs ⟨by show rm.frames + 1 ≤ 61; omega, by show 8 + (3 + 11) + rm.locals ≤ 5000; omega⟩ rfl rfl (Nat.le_of_ble_eq_true rfl) ⟨by show 0 + mc ≤ mc; omega, by show 0 + ms ≤ ms; omega⟩ dL_show_5 (fun code w hX hne => ?_) (fun r w hP => ?_)
  · rcases hcd code w hX hne with rfl | rfl
    · refine ⟨13, ⟨[], ⟨0, 10, 13, 25⟩, [⟨0, 10, 17, 13⟩], zExc 3, htab, (fun _ h => nomatch h), rfl, by decide, C.2.2.2.2.1 _ zkw_25, va_tabs rfl rfl (hE.1.2.1.2.1 _ (List.mem_of_getElem? (i := 2) rfl)), rfl⟩, fun q9 => ?_⟩
      refine g_astore (L' := [(4, .ref q9), (0, .ref x), (1, .int p0), (2, .int p1), (3, .ref ao)]) C dL_show_13 (by decide) rfl ?_
      refine g_iconst (v := (nI 1)) C dL_show_15 (by decide) ?_
      exact t_iret C hr rfl (Or.inr ⟨0, 3, rfl, hX, by decide, rfl⟩) (by show 0 + mc ≤ mc; omega) (by show 0 + ms ≤ ms; omega) dL_show_16
    · refine ⟨17, ⟨[⟨0, 10, 13, 25⟩], ⟨0, 10, 17, 13⟩, [], zExc 1, htab, (List.forall_mem_cons.mpr ⟨Or.inr ⟨by decide, zExc 3, C.2.2.2.2.1 _ zkw_25, hE.2 (zExc 1, zExc 3) (List.mem_of_getElem? (i := 0) rfl)⟩, (fun _ h => nomatch h)⟩), rfl, by decide, C.2.2.2.2.1 _ zkw_13, va_tabs rfl rfl (hE.1.2.1.2.1 _ (List.mem_of_getElem? (i := 0) rfl)), rfl⟩, fun q9 => ?_⟩
      refine g_astore (L' := [(4, .ref q9), (0, .ref x), (1, .int p0), (2, .int p1), (3, .ref ao)]) C dL_show_17 (by decide) rfl ?_
      refine g_iconst (v := (nI 2)) C dL_show_19 (by decide) ?_
      exact t_iret C hr rfl (Or.inr ⟨1, 1, rfl, hX, by decide, rfl⟩) (by show 0 + mc ≤ mc; omega) (by show 0 + ms ≤ ms; omega) dL_show_20
  · skip
    refine n_i2l C dL_show_8 ?_
    refine n_last (q0 := q) (n := 1) (ws' := w.set q (ao, .inl (cy 4, 1, .inr (.inl (vp_updL f 0 r.toInt64))))) C (hout r w hP) (nI_in (by decide) (by decide)) (by rw [nI_clamp (by decide)]) dL_show_9 ?_
    refine g_goto C dL_show_10 (tgt := 21) (by decide) ?_
    refine g_iconst (v := (nI 0)) C dL_show_21 (by decide) ?_
    exact t_iret C hr rfl (Or.inl ⟨rfl, r, w, hP, rfl⟩) (by show 0 + mc ≤ mc; omega) (by show 0 + ms ≤ ms; omega) dL_show_22
theorem zml_RL_80 : Cond.methodLink RL 80 yX5_why ∈ zAll := zg (z_t4 (List.mem_of_getElem? (i := 69) (by decide +kernel))) (by decide +kernel)
theorem zcw_why : zCalW RL 214 yL_why cL_why 8 (some .int) [(0, 16, 19, 25), (0, 16, 23, 13)] 7 := ⟨⟨zg (z_t4 (List.mem_of_getElem? (i := 66) (by decide +kernel))) (by decide +kernel), zg (z_t4 (List.mem_of_getElem? (i := 67) (by decide +kernel))) (by decide +kernel), zg (z_t1 (List.mem_of_getElem? (i := 0) (by decide +kernel))) (by decide +kernel), zg (z_t4 (List.mem_of_getElem? (i := 68) (by decide +kernel))) (by decide +kernel)⟩, by decide +kernel⟩
set_option maxRecDepth 100000 in
set_option maxHeartbeats 8000000 in
theorem hw_why (l : Launch) (D : va_G) (cy : Nat → ClassId) {EV : zEV} (hG : zGE EV) (hsub : ∀ A U H, zEw A U H → EV A U H) (ws : va_W) (x : Nat) (fs : List Value) (p0 p1 p2 p3 p4 : Int32) (ao q : Nat) (f : Nat → Int64) (mc ms : Nat) (rm : Room) (P : Int32 → va_W → Prop) (X : Nat → va_W → Prop) (hM : zMy l yX5_why cX5_why 7 (some .int) rm D (zTy cy) EV ws [.ref x, .int p0, .int p1, .int p2, .int p3, .int p4] mc ms P X) (hrc : rm.cells = mc) (hrs : rm.slots = ms) (hR : rm.frames ≤ 60 ∧ rm.locals ≤ 4000) (hx0 : ws[0]? = some (x, .inr (9, fs))) (hout : ∀ v w, P v w → w[q]? = some (ao, .inl (cy 4, 1, .inr (.inl f)))) (hcd : ∀ c w, X c w → c ≠ 0 → c = 3 ∨ c = 1) : zMw l yL_why cL_why 8 (some .int) [(0, 16, 19, 25), (0, 16, 23, 13)] (zrw mc ms) D (zTy cy) zEw ws [.ref x, .int p0, .int p1, .int p2, .int p3, .int p4, .ref ao] mc ms (tI D (zTy cy) (zPw cy q ao f Int32.toInt64 [3, 1] P X)) := by
  refine zMw.of (by decide) (Nat.le_of_ble_eq_true rfl) ?_
  intro p e s m below meth c A C hr hE htab
  obtain ⟨hR1, hR2⟩ := hR
  refine zG_L (L' := [(0, .ref x), (1, .int p0), (2, .int p1), (3, .int p2), (4, .int p3), (5, .int p4), (6, .ref ao)]) rfl ?_
  refine g_aload (j := 6) C dL_why_0 rfl ?_
  refine g_iconst (v := (nI 0)) C dL_why_2 (by decide) ?_
  refine g_aload_n (j := 0) C dL_why_3 rfl rfl ?_
  refine g_iload_n (j := 1) C dL_why_4 rfl rfl ?_
  refine g_iload_n (j := 2) C dL_why_5 rfl rfl ?_
  refine g_iload_n (j := 3) C dL_why_6 rfl rfl ?_
  refine g_iload (j := 4) C dL_why_7 rfl ?_
  refine g_iload (j := 5) C dL_why_9 rfl ?_
  refine w_Yi (As := [.int p0, .int p1, .int p2, .int p3, .int p4]) (rest := [.int (nI 0), .ref ao]) hG (hsub _ _ _ hE) C hM zml_RL_80 zcv_X5_why (zRec.of C (ci := 9) (q0 := 0) rfl hx0) hrc hrs ⟨by show rm.frames + 1 ≤ 61; omega, by show 8 + (7 + 11) + rm.locals ≤ 5000; omega⟩ rfl rfl (Nat.le_of_ble_eq_true rfl) ⟨by show 0 + mc ≤ mc; omega, by show 0 + ms ≤ ms; omega⟩ dL_why_11 (fun code w hX hne => ?_) (fun r w hP => ?_)
  · rcases hcd code w hX hne with rfl | rfl
    · refine ⟨19, ⟨[], ⟨0, 16, 19, 25⟩, [⟨0, 16, 23, 13⟩], zExc 3, htab, (fun _ h => nomatch h), rfl, by decide, C.2.2.2.2.1 _ zkw_25, va_tabs rfl rfl (hE.1.2.1.2.1 _ (List.mem_of_getElem? (i := 2) rfl)), rfl⟩, fun q9 => ?_⟩
      refine g_astore (L' := [(7, .ref q9), (0, .ref x), (1, .int p0), (2, .int p1), (3, .int p2), (4, .int p3), (5, .int p4), (6, .ref ao)]) C dL_why_19 (by decide) rfl ?_
      refine g_iconst (v := (nI 1)) C dL_why_21 (by decide) ?_
      exact t_iret C hr rfl (Or.inr ⟨0, 3, rfl, hX, by decide, rfl⟩) (by show 0 + mc ≤ mc; omega) (by show 0 + ms ≤ ms; omega) dL_why_22
    · refine ⟨23, ⟨[⟨0, 16, 19, 25⟩], ⟨0, 16, 23, 13⟩, [], zExc 1, htab, (List.forall_mem_cons.mpr ⟨Or.inr ⟨by decide, zExc 3, C.2.2.2.2.1 _ zkw_25, hE.2 (zExc 1, zExc 3) (List.mem_of_getElem? (i := 0) rfl)⟩, (fun _ h => nomatch h)⟩), rfl, by decide, C.2.2.2.2.1 _ zkw_13, va_tabs rfl rfl (hE.1.2.1.2.1 _ (List.mem_of_getElem? (i := 0) rfl)), rfl⟩, fun q9 => ?_⟩
      refine g_astore (L' := [(7, .ref q9), (0, .ref x), (1, .int p0), (2, .int p1), (3, .int p2), (4, .int p3), (5, .int p4), (6, .ref ao)]) C dL_why_23 (by decide) rfl ?_
      refine g_iconst (v := (nI 2)) C dL_why_25 (by decide) ?_
      exact t_iret C hr rfl (Or.inr ⟨1, 1, rfl, hX, by decide, rfl⟩) (by show 0 + mc ≤ mc; omega) (by show 0 + ms ≤ ms; omega) dL_why_26
  · skip
    refine n_i2l C dL_why_14 ?_
    refine n_last (q0 := q) (n := 1) (ws' := w.set q (ao, .inl (cy 4, 1, .inr (.inl (vp_updL f 0 r.toInt64))))) C (hout r w hP) (nI_in (by decide) (by decide)) (by rw [nI_clamp (by decide)]) dL_why_15 ?_
    refine g_goto C dL_why_16 (tgt := 27) (by decide) ?_
    refine g_iconst (v := (nI 0)) C dL_why_27 (by decide) ?_
    exact t_iret C hr rfl (Or.inl ⟨rfl, r, w, hP, rfl⟩) (by show 0 + mc ≤ mc; omega) (by show 0 + ms ≤ ms; omega) dL_why_28
theorem zml_RL_84 : Cond.methodLink RL 84 yX5_firstStart ∈ zAll := zg (z_t4 (List.mem_of_getElem? (i := 76) (by decide +kernel))) (by decide +kernel)
theorem zcw_firstStart : zCalW RL 218 yL_firstStart cL_firstStart 7 (some .int) [(0, 14, 17, 25), (0, 14, 21, 13), (0, 14, 25, 50)] 6 := ⟨⟨zg (z_t4 (List.mem_of_getElem? (i := 73) (by decide +kernel))) (by decide +kernel), zg (z_t4 (List.mem_of_getElem? (i := 74) (by decide +kernel))) (by decide +kernel), zg (z_t1 (List.mem_of_getElem? (i := 0) (by decide +kernel))) (by decide +kernel), zg (z_t4 (List.mem_of_getElem? (i := 75) (by decide +kernel))) (by decide +kernel)⟩, by decide +kernel⟩
set_option maxRecDepth 100000 in
set_option maxHeartbeats 8000000 in
theorem hw_firstStart (l : Launch) (D : va_G) (cy : Nat → ClassId) {EV : zEV} (hG : zGE EV) (hsub : ∀ A U H, zEw A U H → EV A U H) (ws : va_W) (x : Nat) (fs : List Value) (p0 p1 p2 p3 : Int32) (ao q : Nat) (f : Nat → Int64) (mc ms : Nat) (rm : Room) (P : Int32 → va_W → Prop) (X : Nat → va_W → Prop) (hM : zMy l yX5_firstStart cX5_firstStart 7 (some .int) rm D (zTy cy) EV ws [.ref x, .int p0, .int p1, .int p2, .int p3] mc ms P X) (hrc : rm.cells = mc) (hrs : rm.slots = ms) (hR : rm.frames ≤ 60 ∧ rm.locals ≤ 4000) (hx0 : ws[0]? = some (x, .inr (9, fs))) (hout : ∀ v w, P v w → w[q]? = some (ao, .inl (cy 4, 1, .inr (.inl f)))) (hcd : ∀ c w, X c w → c ≠ 0 → c = 3 ∨ c = 1 ∨ c = 6) : zMw l yL_firstStart cL_firstStart 7 (some .int) [(0, 14, 17, 25), (0, 14, 21, 13), (0, 14, 25, 50)] (zrw mc ms) D (zTy cy) zEw ws [.ref x, .int p0, .int p1, .int p2, .int p3, .ref ao] mc ms (tI D (zTy cy) (zPw cy q ao f Int32.toInt64 [3, 1, 6] P X)) := by
  refine zMw.of (by decide) (Nat.le_of_ble_eq_true rfl) ?_
  intro p e s m below meth c A C hr hE htab
  obtain ⟨hR1, hR2⟩ := hR
  refine zG_L (L' := [(0, .ref x), (1, .int p0), (2, .int p1), (3, .int p2), (4, .int p3), (5, .ref ao)]) rfl ?_
  refine g_aload (j := 5) C dL_firstStart_0 rfl ?_
  refine g_iconst (v := (nI 0)) C dL_firstStart_2 (by decide) ?_
  refine g_aload_n (j := 0) C dL_firstStart_3 rfl rfl ?_
  refine g_iload_n (j := 1) C dL_firstStart_4 rfl rfl ?_
  refine g_iload_n (j := 2) C dL_firstStart_5 rfl rfl ?_
  refine g_iload_n (j := 3) C dL_firstStart_6 rfl rfl ?_
  refine g_iload (j := 4) C dL_firstStart_7 rfl ?_
  refine w_Yi (As := [.int p0, .int p1, .int p2, .int p3]) (rest := [.int (nI 0), .ref ao]) hG (hsub _ _ _ hE) C hM zml_RL_84 zcv_X5_firstStart (zRec.of C (ci := 9) (q0 := 0) rfl hx0) hrc hrs ⟨by show rm.frames + 1 ≤ 61; omega, by show 8 + (7 + 11) + rm.locals ≤ 5000; omega⟩ rfl rfl (Nat.le_of_ble_eq_true rfl) ⟨by show 0 + mc ≤ mc; omega, by show 0 + ms ≤ ms; omega⟩ dL_firstStart_9 (fun code w hX hne => ?_) (fun r w hP => ?_)
  · rcases hcd code w hX hne with rfl | rfl | rfl
    · refine ⟨17, ⟨[], ⟨0, 14, 17, 25⟩, [⟨0, 14, 21, 13⟩, ⟨0, 14, 25, 50⟩], zExc 3, htab, (fun _ h => nomatch h), rfl, by decide, C.2.2.2.2.1 _ zkw_25, va_tabs rfl rfl (hE.1.2.1.2.1 _ (List.mem_of_getElem? (i := 2) rfl)), rfl⟩, fun q9 => ?_⟩
      refine g_astore (L' := [(6, .ref q9), (0, .ref x), (1, .int p0), (2, .int p1), (3, .int p2), (4, .int p3), (5, .ref ao)]) C dL_firstStart_17 (by decide) rfl ?_
      refine g_iconst (v := (nI 1)) C dL_firstStart_19 (by decide) ?_
      exact t_iret C hr rfl (Or.inr ⟨0, 3, rfl, hX, by decide, rfl⟩) (by show 0 + mc ≤ mc; omega) (by show 0 + ms ≤ ms; omega) dL_firstStart_20
    · refine ⟨21, ⟨[⟨0, 14, 17, 25⟩], ⟨0, 14, 21, 13⟩, [⟨0, 14, 25, 50⟩], zExc 1, htab, (List.forall_mem_cons.mpr ⟨Or.inr ⟨by decide, zExc 3, C.2.2.2.2.1 _ zkw_25, hE.2 (zExc 1, zExc 3) (List.mem_of_getElem? (i := 0) rfl)⟩, (fun _ h => nomatch h)⟩), rfl, by decide, C.2.2.2.2.1 _ zkw_13, va_tabs rfl rfl (hE.1.2.1.2.1 _ (List.mem_of_getElem? (i := 0) rfl)), rfl⟩, fun q9 => ?_⟩
      refine g_astore (L' := [(6, .ref q9), (0, .ref x), (1, .int p0), (2, .int p1), (3, .int p2), (4, .int p3), (5, .ref ao)]) C dL_firstStart_21 (by decide) rfl ?_
      refine g_iconst (v := (nI 2)) C dL_firstStart_23 (by decide) ?_
      exact t_iret C hr rfl (Or.inr ⟨1, 1, rfl, hX, by decide, rfl⟩) (by show 0 + mc ≤ mc; omega) (by show 0 + ms ≤ ms; omega) dL_firstStart_24
    · refine ⟨25, ⟨[⟨0, 14, 17, 25⟩, ⟨0, 14, 21, 13⟩], ⟨0, 14, 25, 50⟩, [], zExc 6, htab, (List.forall_mem_cons.mpr ⟨Or.inr ⟨by decide, zExc 3, C.2.2.2.2.1 _ zkw_25, hE.2 (zExc 6, zExc 3) (List.mem_of_getElem? (i := 7) rfl)⟩, (List.forall_mem_cons.mpr ⟨Or.inr ⟨by decide, zExc 1, C.2.2.2.2.1 _ zkw_13, hE.2 (zExc 6, zExc 1) (List.mem_of_getElem? (i := 6) rfl)⟩, (fun _ h => nomatch h)⟩)⟩), rfl, by decide, C.2.2.2.2.1 _ zkw_50, va_tabs rfl rfl (hE.1.2.1.2.1 _ (List.mem_of_getElem? (i := 5) rfl)), rfl⟩, fun q9 => ?_⟩
      refine g_astore (L' := [(6, .ref q9), (0, .ref x), (1, .int p0), (2, .int p1), (3, .int p2), (4, .int p3), (5, .ref ao)]) C dL_firstStart_25 (by decide) rfl ?_
      refine g_iconst (v := (nI 3)) C dL_firstStart_27 (by decide) ?_
      exact t_iret C hr rfl (Or.inr ⟨2, 6, rfl, hX, by decide, rfl⟩) (by show 0 + mc ≤ mc; omega) (by show 0 + ms ≤ ms; omega) dL_firstStart_28
  · skip
    refine n_i2l C dL_firstStart_12 ?_
    refine n_last (q0 := q) (n := 1) (ws' := w.set q (ao, .inl (cy 4, 1, .inr (.inl (vp_updL f 0 r.toInt64))))) C (hout r w hP) (nI_in (by decide) (by decide)) (by rw [nI_clamp (by decide)]) dL_firstStart_13 ?_
    refine g_goto C dL_firstStart_14 (tgt := 29) (by decide) ?_
    refine g_iconst (v := (nI 0)) C dL_firstStart_29 (by decide) ?_
    exact t_iret C hr rfl (Or.inl ⟨rfl, r, w, hP, rfl⟩) (by show 0 + mc ≤ mc; omega) (by show 0 + ms ≤ ms; omega) dL_firstStart_30
theorem zml_RL_87 : Cond.methodLink RL 87 yX5_fail ∈ zAll := zg (z_t4 (List.mem_of_getElem? (i := 84) (by decide +kernel))) (by decide +kernel)
theorem zcw_fail : zCalW RL 221 yL_fail cL_fail 5 (some .int) [(0, 10, 13, 25), (0, 10, 17, 13), (0, 10, 21, 15)] 4 := ⟨⟨zg (z_t4 (List.mem_of_getElem? (i := 81) (by decide +kernel))) (by decide +kernel), zg (z_t4 (List.mem_of_getElem? (i := 82) (by decide +kernel))) (by decide +kernel), zg (z_t1 (List.mem_of_getElem? (i := 0) (by decide +kernel))) (by decide +kernel), zg (z_t4 (List.mem_of_getElem? (i := 83) (by decide +kernel))) (by decide +kernel)⟩, by decide +kernel⟩
set_option maxRecDepth 100000 in
set_option maxHeartbeats 8000000 in
theorem hw_fail (l : Launch) (D : va_G) (cy : Nat → ClassId) {EV : zEV} (hG : zGE EV) (hsub : ∀ A U H, zEw A U H → EV A U H) (ws : va_W) (x : Nat) (fs : List Value) (p0 p1 : Int32) (ao q : Nat) (f : Nat → Int64) (mc ms : Nat) (rm : Room) (P : Int32 → va_W → Prop) (X : Nat → va_W → Prop) (hM : zMy l yX5_fail cX5_fail 4 (some .int) rm D (zTy cy) EV ws [.ref x, .int p0, .int p1] mc ms P X) (hrc : rm.cells = mc) (hrs : rm.slots = ms) (hR : rm.frames ≤ 60 ∧ rm.locals ≤ 4000) (hx0 : ws[0]? = some (x, .inr (9, fs))) (hout : ∀ v w, P v w → w[q]? = some (ao, .inl (cy 4, 1, .inr (.inl f)))) (hcd : ∀ c w, X c w → c ≠ 0 → c = 3 ∨ c = 1 ∨ c = 2) : zMw l yL_fail cL_fail 5 (some .int) [(0, 10, 13, 25), (0, 10, 17, 13), (0, 10, 21, 15)] (zrw mc ms) D (zTy cy) zEw ws [.ref x, .int p0, .int p1, .ref ao] mc ms (tI D (zTy cy) (zPw cy q ao f Int32.toInt64 [3, 1, 2] P X)) := by
  refine zMw.of (by decide) (Nat.le_of_ble_eq_true rfl) ?_
  intro p e s m below meth c A C hr hE htab
  obtain ⟨hR1, hR2⟩ := hR
  refine zG_L (L' := [(0, .ref x), (1, .int p0), (2, .int p1), (3, .ref ao)]) rfl ?_
  refine g_aload_n (j := 3) C dL_fail_0 rfl rfl ?_
  refine g_iconst (v := (nI 0)) C dL_fail_1 (by decide) ?_
  refine g_aload_n (j := 0) C dL_fail_2 rfl rfl ?_
  refine g_iload_n (j := 1) C dL_fail_3 rfl rfl ?_
  refine g_iload_n (j := 2) C dL_fail_4 rfl rfl ?_
  refine w_Yi (As := [.int p0, .int p1]) (rest := [.int (nI 0), .ref ao]) hG (hsub _ _ _ hE) C hM zml_RL_87 zcv_X5_fail (zRec.of C (ci := 9) (q0 := 0) rfl hx0) hrc hrs ⟨by show rm.frames + 1 ≤ 61; omega, by show 8 + (4 + 11) + rm.locals ≤ 5000; omega⟩ rfl rfl (Nat.le_of_ble_eq_true rfl) ⟨by show 0 + mc ≤ mc; omega, by show 0 + ms ≤ ms; omega⟩ dL_fail_5 (fun code w hX hne => ?_) (fun r w hP => ?_)
  · rcases hcd code w hX hne with rfl | rfl | rfl
    · refine ⟨13, ⟨[], ⟨0, 10, 13, 25⟩, [⟨0, 10, 17, 13⟩, ⟨0, 10, 21, 15⟩], zExc 3, htab, (fun _ h => nomatch h), rfl, by decide, C.2.2.2.2.1 _ zkw_25, va_tabs rfl rfl (hE.1.2.1.2.1 _ (List.mem_of_getElem? (i := 2) rfl)), rfl⟩, fun q9 => ?_⟩
      refine g_astore (L' := [(4, .ref q9), (0, .ref x), (1, .int p0), (2, .int p1), (3, .ref ao)]) C dL_fail_13 (by decide) rfl ?_
      refine g_iconst (v := (nI 1)) C dL_fail_15 (by decide) ?_
      exact t_iret C hr rfl (Or.inr ⟨0, 3, rfl, hX, by decide, rfl⟩) (by show 0 + mc ≤ mc; omega) (by show 0 + ms ≤ ms; omega) dL_fail_16
    · refine ⟨17, ⟨[⟨0, 10, 13, 25⟩], ⟨0, 10, 17, 13⟩, [⟨0, 10, 21, 15⟩], zExc 1, htab, (List.forall_mem_cons.mpr ⟨Or.inr ⟨by decide, zExc 3, C.2.2.2.2.1 _ zkw_25, hE.2 (zExc 1, zExc 3) (List.mem_of_getElem? (i := 0) rfl)⟩, (fun _ h => nomatch h)⟩), rfl, by decide, C.2.2.2.2.1 _ zkw_13, va_tabs rfl rfl (hE.1.2.1.2.1 _ (List.mem_of_getElem? (i := 0) rfl)), rfl⟩, fun q9 => ?_⟩
      refine g_astore (L' := [(4, .ref q9), (0, .ref x), (1, .int p0), (2, .int p1), (3, .ref ao)]) C dL_fail_17 (by decide) rfl ?_
      refine g_iconst (v := (nI 2)) C dL_fail_19 (by decide) ?_
      exact t_iret C hr rfl (Or.inr ⟨1, 1, rfl, hX, by decide, rfl⟩) (by show 0 + mc ≤ mc; omega) (by show 0 + ms ≤ ms; omega) dL_fail_20
    · refine ⟨21, ⟨[⟨0, 10, 13, 25⟩, ⟨0, 10, 17, 13⟩], ⟨0, 10, 21, 15⟩, [], zExc 2, htab, (List.forall_mem_cons.mpr ⟨Or.inr ⟨by decide, zExc 3, C.2.2.2.2.1 _ zkw_25, hE.2 (zExc 2, zExc 3) (List.mem_of_getElem? (i := 2) rfl)⟩, (List.forall_mem_cons.mpr ⟨Or.inr ⟨by decide, zExc 1, C.2.2.2.2.1 _ zkw_13, hE.2 (zExc 2, zExc 1) (List.mem_of_getElem? (i := 1) rfl)⟩, (fun _ h => nomatch h)⟩)⟩), rfl, by decide, C.2.2.2.2.1 _ zkw_15, va_tabs rfl rfl (hE.1.2.1.2.1 _ (List.mem_of_getElem? (i := 1) rfl)), rfl⟩, fun q9 => ?_⟩
      refine g_astore (L' := [(4, .ref q9), (0, .ref x), (1, .int p0), (2, .int p1), (3, .ref ao)]) C dL_fail_21 (by decide) rfl ?_
      refine g_iconst (v := (nI 3)) C dL_fail_23 (by decide) ?_
      exact t_iret C hr rfl (Or.inr ⟨2, 2, rfl, hX, by decide, rfl⟩) (by show 0 + mc ≤ mc; omega) (by show 0 + ms ≤ ms; omega) dL_fail_24
  · skip
    refine n_i2l C dL_fail_8 ?_
    refine n_last (q0 := q) (n := 1) (ws' := w.set q (ao, .inl (cy 4, 1, .inr (.inl (vp_updL f 0 r.toInt64))))) C (hout r w hP) (nI_in (by decide) (by decide)) (by rw [nI_clamp (by decide)]) dL_fail_9 ?_
    refine g_goto C dL_fail_10 (tgt := 25) (by decide) ?_
    refine g_iconst (v := (nI 0)) C dL_fail_25 (by decide) ?_
    exact t_iret C hr rfl (Or.inl ⟨rfl, r, w, hP, rfl⟩) (by show 0 + mc ≤ mc; omega) (by show 0 + ms ≤ ms; omega) dL_fail_26
theorem zml_RL_90 : Cond.methodLink RL 90 yX5_reopen ∈ zAll := zg (z_t4 (List.mem_of_getElem? (i := 122) (by decide +kernel))) (by decide +kernel)
theorem zcw_reopen : zCalW RL 224 yL_reopen cL_reopen 4 (some .int) [(0, 9, 12, 25), (0, 9, 15, 15)] 3 := ⟨⟨zg (z_t4 (List.mem_of_getElem? (i := 119) (by decide +kernel))) (by decide +kernel), zg (z_t4 (List.mem_of_getElem? (i := 120) (by decide +kernel))) (by decide +kernel), zg (z_t1 (List.mem_of_getElem? (i := 0) (by decide +kernel))) (by decide +kernel), zg (z_t4 (List.mem_of_getElem? (i := 121) (by decide +kernel))) (by decide +kernel)⟩, by decide +kernel⟩
set_option maxRecDepth 100000 in
set_option maxHeartbeats 8000000 in
theorem hw_reopen (l : Launch) (D : va_G) (cy : Nat → ClassId) {EV : zEV} (hG : zGE EV) (hsub : ∀ A U H, zEw A U H → EV A U H) (ws : va_W) (x : Nat) (fs : List Value) (p0 : Int32) (ao q : Nat) (f : Nat → Int64) (mc ms : Nat) (rm : Room) (P : Int32 → va_W → Prop) (X : Nat → va_W → Prop) (hM : zMy l yX5_reopen cX5_reopen 3 (some .int) rm D (zTy cy) EV ws [.ref x, .int p0] mc ms P X) (hrc : rm.cells = mc) (hrs : rm.slots = ms) (hR : rm.frames ≤ 60 ∧ rm.locals ≤ 4000) (hx0 : ws[0]? = some (x, .inr (9, fs))) (hout : ∀ v w, P v w → w[q]? = some (ao, .inl (cy 4, 1, .inr (.inl f)))) (hcd : ∀ c w, X c w → c ≠ 0 → c = 3 ∨ c = 2) : zMw l yL_reopen cL_reopen 4 (some .int) [(0, 9, 12, 25), (0, 9, 15, 15)] (zrw mc ms) D (zTy cy) zEw ws [.ref x, .int p0, .ref ao] mc ms (tI D (zTy cy) (zPw cy q ao f Int32.toInt64 [3, 2] P X)) := by
  refine zMw.of (by decide) (Nat.le_of_ble_eq_true rfl) ?_
  intro p e s m below meth c A C hr hE htab
  obtain ⟨hR1, hR2⟩ := hR
  refine zG_L (L' := [(0, .ref x), (1, .int p0), (2, .ref ao)]) rfl ?_
  refine g_aload_n (j := 2) C dL_reopen_0 rfl rfl ?_
  refine g_iconst (v := (nI 0)) C dL_reopen_1 (by decide) ?_
  refine g_aload_n (j := 0) C dL_reopen_2 rfl rfl ?_
  refine g_iload_n (j := 1) C dL_reopen_3 rfl rfl ?_
  refine w_Yi (As := [.int p0]) (rest := [.int (nI 0), .ref ao]) hG (hsub _ _ _ hE) C hM zml_RL_90 zcv_X5_reopen (zRec.of C (ci := 9) (q0 := 0) rfl hx0) hrc hrs ⟨by show rm.frames + 1 ≤ 61; omega, by show 8 + (3 + 11) + rm.locals ≤ 5000; omega⟩ rfl rfl (Nat.le_of_ble_eq_true rfl) ⟨by show 0 + mc ≤ mc; omega, by show 0 + ms ≤ ms; omega⟩ dL_reopen_4 (fun code w hX hne => ?_) (fun r w hP => ?_)
  · rcases hcd code w hX hne with rfl | rfl
    · refine ⟨12, ⟨[], ⟨0, 9, 12, 25⟩, [⟨0, 9, 15, 15⟩], zExc 3, htab, (fun _ h => nomatch h), rfl, by decide, C.2.2.2.2.1 _ zkw_25, va_tabs rfl rfl (hE.1.2.1.2.1 _ (List.mem_of_getElem? (i := 2) rfl)), rfl⟩, fun q9 => ?_⟩
      refine g_astore_n (L' := [(3, .ref q9), (0, .ref x), (1, .int p0), (2, .ref ao)]) C dL_reopen_12 rfl (by decide) rfl ?_
      refine g_iconst (v := (nI 1)) C dL_reopen_13 (by decide) ?_
      exact t_iret C hr rfl (Or.inr ⟨0, 3, rfl, hX, by decide, rfl⟩) (by show 0 + mc ≤ mc; omega) (by show 0 + ms ≤ ms; omega) dL_reopen_14
    · refine ⟨15, ⟨[⟨0, 9, 12, 25⟩], ⟨0, 9, 15, 15⟩, [], zExc 2, htab, (List.forall_mem_cons.mpr ⟨Or.inr ⟨by decide, zExc 3, C.2.2.2.2.1 _ zkw_25, hE.2 (zExc 2, zExc 3) (List.mem_of_getElem? (i := 2) rfl)⟩, (fun _ h => nomatch h)⟩), rfl, by decide, C.2.2.2.2.1 _ zkw_15, va_tabs rfl rfl (hE.1.2.1.2.1 _ (List.mem_of_getElem? (i := 1) rfl)), rfl⟩, fun q9 => ?_⟩
      refine g_astore_n (L' := [(3, .ref q9), (0, .ref x), (1, .int p0), (2, .ref ao)]) C dL_reopen_15 rfl (by decide) rfl ?_
      refine g_iconst (v := (nI 2)) C dL_reopen_16 (by decide) ?_
      exact t_iret C hr rfl (Or.inr ⟨1, 2, rfl, hX, by decide, rfl⟩) (by show 0 + mc ≤ mc; omega) (by show 0 + ms ≤ ms; omega) dL_reopen_17
  · skip
    refine n_i2l C dL_reopen_7 ?_
    refine n_last (q0 := q) (n := 1) (ws' := w.set q (ao, .inl (cy 4, 1, .inr (.inl (vp_updL f 0 r.toInt64))))) C (hout r w hP) (nI_in (by decide) (by decide)) (by rw [nI_clamp (by decide)]) dL_reopen_8 ?_
    refine g_goto C dL_reopen_9 (tgt := 18) (by decide) ?_
    refine g_iconst (v := (nI 0)) C dL_reopen_18 (by decide) ?_
    exact t_iret C hr rfl (Or.inl ⟨rfl, r, w, hP, rfl⟩) (by show 0 + mc ≤ mc; omega) (by show 0 + ms ≤ ms; omega) dL_reopen_19
theorem zml_RL_93 : Cond.methodLink RL 93 yX5_line ∈ zAll := zg (z_t4 (List.mem_of_getElem? (i := 130) (by decide +kernel))) (by decide +kernel)
theorem zcw_line : zCalW RL 227 yL_line cL_line 5 (some .int) [(0, 10, 13, 50), (0, 10, 17, 13)] 4 := ⟨⟨zg (z_t4 (List.mem_of_getElem? (i := 127) (by decide +kernel))) (by decide +kernel), zg (z_t4 (List.mem_of_getElem? (i := 128) (by decide +kernel))) (by decide +kernel), zg (z_t1 (List.mem_of_getElem? (i := 0) (by decide +kernel))) (by decide +kernel), zg (z_t4 (List.mem_of_getElem? (i := 129) (by decide +kernel))) (by decide +kernel)⟩, by decide +kernel⟩
set_option maxRecDepth 100000 in
set_option maxHeartbeats 8000000 in
theorem hw_line (l : Launch) (D : va_G) (cy : Nat → ClassId) {EV : zEV} (hG : zGE EV) (hsub : ∀ A U H, zEw A U H → EV A U H) (ws : va_W) (x : Nat) (fs : List Value) (p0 p1 : Int32) (ao q : Nat) (f : Nat → Int64) (mc ms : Nat) (rm : Room) (P : Int32 → va_W → Prop) (X : Nat → va_W → Prop) (hM : zMy l yX5_line cX5_line 3 (some .int) rm D (zTy cy) EV ws [.ref x, .int p0, .int p1] mc ms P X) (hrc : rm.cells = mc) (hrs : rm.slots = ms) (hR : rm.frames ≤ 60 ∧ rm.locals ≤ 4000) (hx0 : ws[0]? = some (x, .inr (9, fs))) (hout : ∀ v w, P v w → w[q]? = some (ao, .inl (cy 4, 1, .inr (.inl f)))) (hcd : ∀ c w, X c w → c ≠ 0 → c = 6 ∨ c = 1) : zMw l yL_line cL_line 5 (some .int) [(0, 10, 13, 50), (0, 10, 17, 13)] (zrw mc ms) D (zTy cy) zEw ws [.ref x, .int p0, .int p1, .ref ao] mc ms (tI D (zTy cy) (zPw cy q ao f Int32.toInt64 [6, 1] P X)) := by
  refine zMw.of (by decide) (Nat.le_of_ble_eq_true rfl) ?_
  intro p e s m below meth c A C hr hE htab
  obtain ⟨hR1, hR2⟩ := hR
  refine zG_L (L' := [(0, .ref x), (1, .int p0), (2, .int p1), (3, .ref ao)]) rfl ?_
  refine g_aload_n (j := 3) C dL_line_0 rfl rfl ?_
  refine g_iconst (v := (nI 0)) C dL_line_1 (by decide) ?_
  refine g_aload_n (j := 0) C dL_line_2 rfl rfl ?_
  refine g_iload_n (j := 1) C dL_line_3 rfl rfl ?_
  refine g_iload_n (j := 2) C dL_line_4 rfl rfl ?_
  refine w_Yi (As := [.int p0, .int p1]) (rest := [.int (nI 0), .ref ao]) hG (hsub _ _ _ hE) C hM zml_RL_93 zcv_X5_line (zRec.of C (ci := 9) (q0 := 0) rfl hx0) hrc hrs ⟨by show rm.frames + 1 ≤ 61; omega, by show 8 + (3 + 11) + rm.locals ≤ 5000; omega⟩ rfl rfl (Nat.le_of_ble_eq_true rfl) ⟨by show 0 + mc ≤ mc; omega, by show 0 + ms ≤ ms; omega⟩ dL_line_5 (fun code w hX hne => ?_) (fun r w hP => ?_)
  · rcases hcd code w hX hne with rfl | rfl
    · refine ⟨13, ⟨[], ⟨0, 10, 13, 50⟩, [⟨0, 10, 17, 13⟩], zExc 6, htab, (fun _ h => nomatch h), rfl, by decide, C.2.2.2.2.1 _ zkw_50, va_tabs rfl rfl (hE.1.2.1.2.1 _ (List.mem_of_getElem? (i := 5) rfl)), rfl⟩, fun q9 => ?_⟩
      refine g_astore (L' := [(4, .ref q9), (0, .ref x), (1, .int p0), (2, .int p1), (3, .ref ao)]) C dL_line_13 (by decide) rfl ?_
      refine g_iconst (v := (nI 1)) C dL_line_15 (by decide) ?_
      exact t_iret C hr rfl (Or.inr ⟨0, 6, rfl, hX, by decide, rfl⟩) (by show 0 + mc ≤ mc; omega) (by show 0 + ms ≤ ms; omega) dL_line_16
    · refine ⟨17, ⟨[⟨0, 10, 13, 50⟩], ⟨0, 10, 17, 13⟩, [], zExc 1, htab, (List.forall_mem_cons.mpr ⟨Or.inr ⟨by decide, zExc 6, C.2.2.2.2.1 _ zkw_50, hE.2 (zExc 1, zExc 6) (List.mem_of_getElem? (i := 8) rfl)⟩, (fun _ h => nomatch h)⟩), rfl, by decide, C.2.2.2.2.1 _ zkw_13, va_tabs rfl rfl (hE.1.2.1.2.1 _ (List.mem_of_getElem? (i := 0) rfl)), rfl⟩, fun q9 => ?_⟩
      refine g_astore (L' := [(4, .ref q9), (0, .ref x), (1, .int p0), (2, .int p1), (3, .ref ao)]) C dL_line_17 (by decide) rfl ?_
      refine g_iconst (v := (nI 2)) C dL_line_19 (by decide) ?_
      exact t_iret C hr rfl (Or.inr ⟨1, 1, rfl, hX, by decide, rfl⟩) (by show 0 + mc ≤ mc; omega) (by show 0 + ms ≤ ms; omega) dL_line_20
  · skip
    refine n_i2l C dL_line_8 ?_
    refine n_last (q0 := q) (n := 1) (ws' := w.set q (ao, .inl (cy 4, 1, .inr (.inl (vp_updL f 0 r.toInt64))))) C (hout r w hP) (nI_in (by decide) (by decide)) (by rw [nI_clamp (by decide)]) dL_line_9 ?_
    refine g_goto C dL_line_10 (tgt := 21) (by decide) ?_
    refine g_iconst (v := (nI 0)) C dL_line_21 (by decide) ?_
    exact t_iret C hr rfl (Or.inl ⟨rfl, r, w, hP, rfl⟩) (by show 0 + mc ≤ mc; omega) (by show 0 + ms ≤ ms; omega) dL_line_22
theorem zml_RL_96 : Cond.methodLink RL 96 yX5_used ∈ zAll := zg (z_t4 (List.mem_of_getElem? (i := 139) (by decide +kernel))) (by decide +kernel)
theorem zcw_used : zCalW RL 230 yL_used cL_used 6 (some .int) [(0, 12, 15, 25), (0, 12, 19, 13)] 5 := ⟨⟨zg (z_t4 (List.mem_of_getElem? (i := 136) (by decide +kernel))) (by decide +kernel), zg (z_t4 (List.mem_of_getElem? (i := 137) (by decide +kernel))) (by decide +kernel), zg (z_t1 (List.mem_of_getElem? (i := 0) (by decide +kernel))) (by decide +kernel), zg (z_t4 (List.mem_of_getElem? (i := 138) (by decide +kernel))) (by decide +kernel)⟩, by decide +kernel⟩
set_option maxRecDepth 100000 in
set_option maxHeartbeats 8000000 in
theorem hw_used (l : Launch) (D : va_G) (cy : Nat → ClassId) {EV : zEV} (hG : zGE EV) (hsub : ∀ A U H, zEw A U H → EV A U H) (ws : va_W) (x : Nat) (fs : List Value) (p0 p1 p2 : Int32) (ao q : Nat) (f : Nat → Int64) (mc ms : Nat) (rm : Room) (P : Int32 → va_W → Prop) (X : Nat → va_W → Prop) (hM : zMy l yX5_used cX5_used 5 (some .int) rm D (zTy cy) EV ws [.ref x, .int p0, .int p1, .int p2] mc ms P X) (hrc : rm.cells = mc) (hrs : rm.slots = ms) (hR : rm.frames ≤ 60 ∧ rm.locals ≤ 4000) (hx0 : ws[0]? = some (x, .inr (9, fs))) (hout : ∀ v w, P v w → w[q]? = some (ao, .inl (cy 4, 1, .inr (.inl f)))) (hcd : ∀ c w, X c w → c ≠ 0 → c = 3 ∨ c = 1) : zMw l yL_used cL_used 6 (some .int) [(0, 12, 15, 25), (0, 12, 19, 13)] (zrw mc ms) D (zTy cy) zEw ws [.ref x, .int p0, .int p1, .int p2, .ref ao] mc ms (tI D (zTy cy) (zPw cy q ao f Int32.toInt64 [3, 1] P X)) := by
  refine zMw.of (by decide) (Nat.le_of_ble_eq_true rfl) ?_
  intro p e s m below meth c A C hr hE htab
  obtain ⟨hR1, hR2⟩ := hR
  refine zG_L (L' := [(0, .ref x), (1, .int p0), (2, .int p1), (3, .int p2), (4, .ref ao)]) rfl ?_
  refine g_aload (j := 4) C dL_used_0 rfl ?_
  refine g_iconst (v := (nI 0)) C dL_used_2 (by decide) ?_
  refine g_aload_n (j := 0) C dL_used_3 rfl rfl ?_
  refine g_iload_n (j := 1) C dL_used_4 rfl rfl ?_
  refine g_iload_n (j := 2) C dL_used_5 rfl rfl ?_
  refine g_iload_n (j := 3) C dL_used_6 rfl rfl ?_
  refine w_Yi (As := [.int p0, .int p1, .int p2]) (rest := [.int (nI 0), .ref ao]) hG (hsub _ _ _ hE) C hM zml_RL_96 zcv_X5_used (zRec.of C (ci := 9) (q0 := 0) rfl hx0) hrc hrs ⟨by show rm.frames + 1 ≤ 61; omega, by show 8 + (5 + 11) + rm.locals ≤ 5000; omega⟩ rfl rfl (Nat.le_of_ble_eq_true rfl) ⟨by show 0 + mc ≤ mc; omega, by show 0 + ms ≤ ms; omega⟩ dL_used_7 (fun code w hX hne => ?_) (fun r w hP => ?_)
  · rcases hcd code w hX hne with rfl | rfl
    · refine ⟨15, ⟨[], ⟨0, 12, 15, 25⟩, [⟨0, 12, 19, 13⟩], zExc 3, htab, (fun _ h => nomatch h), rfl, by decide, C.2.2.2.2.1 _ zkw_25, va_tabs rfl rfl (hE.1.2.1.2.1 _ (List.mem_of_getElem? (i := 2) rfl)), rfl⟩, fun q9 => ?_⟩
      refine g_astore (L' := [(5, .ref q9), (0, .ref x), (1, .int p0), (2, .int p1), (3, .int p2), (4, .ref ao)]) C dL_used_15 (by decide) rfl ?_
      refine g_iconst (v := (nI 1)) C dL_used_17 (by decide) ?_
      exact t_iret C hr rfl (Or.inr ⟨0, 3, rfl, hX, by decide, rfl⟩) (by show 0 + mc ≤ mc; omega) (by show 0 + ms ≤ ms; omega) dL_used_18
    · refine ⟨19, ⟨[⟨0, 12, 15, 25⟩], ⟨0, 12, 19, 13⟩, [], zExc 1, htab, (List.forall_mem_cons.mpr ⟨Or.inr ⟨by decide, zExc 3, C.2.2.2.2.1 _ zkw_25, hE.2 (zExc 1, zExc 3) (List.mem_of_getElem? (i := 0) rfl)⟩, (fun _ h => nomatch h)⟩), rfl, by decide, C.2.2.2.2.1 _ zkw_13, va_tabs rfl rfl (hE.1.2.1.2.1 _ (List.mem_of_getElem? (i := 0) rfl)), rfl⟩, fun q9 => ?_⟩
      refine g_astore (L' := [(5, .ref q9), (0, .ref x), (1, .int p0), (2, .int p1), (3, .int p2), (4, .ref ao)]) C dL_used_19 (by decide) rfl ?_
      refine g_iconst (v := (nI 2)) C dL_used_21 (by decide) ?_
      exact t_iret C hr rfl (Or.inr ⟨1, 1, rfl, hX, by decide, rfl⟩) (by show 0 + mc ≤ mc; omega) (by show 0 + ms ≤ ms; omega) dL_used_22
  · skip
    refine n_i2l C dL_used_10 ?_
    refine n_last (q0 := q) (n := 1) (ws' := w.set q (ao, .inl (cy 4, 1, .inr (.inl (vp_updL f 0 r.toInt64))))) C (hout r w hP) (nI_in (by decide) (by decide)) (by rw [nI_clamp (by decide)]) dL_used_11 ?_
    refine g_goto C dL_used_12 (tgt := 23) (by decide) ?_
    refine g_iconst (v := (nI 0)) C dL_used_23 (by decide) ?_
    exact t_iret C hr rfl (Or.inl ⟨rfl, r, w, hP, rfl⟩) (by show 0 + mc ≤ mc; omega) (by show 0 + ms ≤ ms; omega) dL_used_24
theorem zml_RL_99 : Cond.methodLink RL 99 yX5_at ∈ zAll := zg (z_t4 (List.mem_of_getElem? (i := 164) (by decide +kernel))) (by decide +kernel)
theorem zcw_at : zCalW RL 233 yL_at cL_at 6 (some .int) [(0, 12, 15, 13)] 5 := ⟨⟨zg (z_t4 (List.mem_of_getElem? (i := 161) (by decide +kernel))) (by decide +kernel), zg (z_t4 (List.mem_of_getElem? (i := 162) (by decide +kernel))) (by decide +kernel), zg (z_t1 (List.mem_of_getElem? (i := 0) (by decide +kernel))) (by decide +kernel), zg (z_t4 (List.mem_of_getElem? (i := 163) (by decide +kernel))) (by decide +kernel)⟩, by decide +kernel⟩
set_option maxRecDepth 100000 in
set_option maxHeartbeats 8000000 in
theorem hw_at (l : Launch) (D : va_G) (cy : Nat → ClassId) {EV : zEV} (hG : zGE EV) (hsub : ∀ A U H, zEw A U H → EV A U H) (ws : va_W) (x : Nat) (fs : List Value) (p0 p1 p2 : Int32) (ao q : Nat) (f : Nat → Int64) (mc ms : Nat) (rm : Room) (P : Int32 → va_W → Prop) (X : Nat → va_W → Prop) (hM : zMy l yX5_at cX5_at 4 (some .int) rm D (zTy cy) EV ws [.ref x, .int p0, .int p1, .int p2] mc ms P X) (hrc : rm.cells = mc) (hrs : rm.slots = ms) (hR : rm.frames ≤ 60 ∧ rm.locals ≤ 4000) (hx0 : ws[0]? = some (x, .inr (9, fs))) (hout : ∀ v w, P v w → w[q]? = some (ao, .inl (cy 4, 1, .inr (.inl f)))) (hcd : ∀ c w, X c w → c ≠ 0 → c = 1) : zMw l yL_at cL_at 6 (some .int) [(0, 12, 15, 13)] (zrw mc ms) D (zTy cy) zEw ws [.ref x, .int p0, .int p1, .int p2, .ref ao] mc ms (tI D (zTy cy) (zPw cy q ao f Int32.toInt64 [1] P X)) := by
  refine zMw.of (by decide) (Nat.le_of_ble_eq_true rfl) ?_
  intro p e s m below meth c A C hr hE htab
  obtain ⟨hR1, hR2⟩ := hR
  refine zG_L (L' := [(0, .ref x), (1, .int p0), (2, .int p1), (3, .int p2), (4, .ref ao)]) rfl ?_
  refine g_aload (j := 4) C dL_at_0 rfl ?_
  refine g_iconst (v := (nI 0)) C dL_at_2 (by decide) ?_
  refine g_aload_n (j := 0) C dL_at_3 rfl rfl ?_
  refine g_iload_n (j := 1) C dL_at_4 rfl rfl ?_
  refine g_iload_n (j := 2) C dL_at_5 rfl rfl ?_
  refine g_iload_n (j := 3) C dL_at_6 rfl rfl ?_
  refine w_Yi (As := [.int p0, .int p1, .int p2]) (rest := [.int (nI 0), .ref ao]) hG (hsub _ _ _ hE) C hM zml_RL_99 zcv_X5_at (zRec.of C (ci := 9) (q0 := 0) rfl hx0) hrc hrs ⟨by show rm.frames + 1 ≤ 61; omega, by show 8 + (4 + 11) + rm.locals ≤ 5000; omega⟩ rfl rfl (Nat.le_of_ble_eq_true rfl) ⟨by show 0 + mc ≤ mc; omega, by show 0 + ms ≤ ms; omega⟩ dL_at_7 (fun code w hX hne => ?_) (fun r w hP => ?_)
  · rcases hcd code w hX hne with rfl
    · refine ⟨15, ⟨[], ⟨0, 12, 15, 13⟩, [], zExc 1, htab, (fun _ h => nomatch h), rfl, by decide, C.2.2.2.2.1 _ zkw_13, va_tabs rfl rfl (hE.1.2.1.2.1 _ (List.mem_of_getElem? (i := 0) rfl)), rfl⟩, fun q9 => ?_⟩
      refine g_astore (L' := [(5, .ref q9), (0, .ref x), (1, .int p0), (2, .int p1), (3, .int p2), (4, .ref ao)]) C dL_at_15 (by decide) rfl ?_
      refine g_iconst (v := (nI 1)) C dL_at_17 (by decide) ?_
      exact t_iret C hr rfl (Or.inr ⟨0, 1, rfl, hX, by decide, rfl⟩) (by show 0 + mc ≤ mc; omega) (by show 0 + ms ≤ ms; omega) dL_at_18
  · skip
    refine n_i2l C dL_at_10 ?_
    refine n_last (q0 := q) (n := 1) (ws' := w.set q (ao, .inl (cy 4, 1, .inr (.inl (vp_updL f 0 r.toInt64))))) C (hout r w hP) (nI_in (by decide) (by decide)) (by rw [nI_clamp (by decide)]) dL_at_11 ?_
    refine g_goto C dL_at_12 (tgt := 19) (by decide) ?_
    refine g_iconst (v := (nI 0)) C dL_at_19 (by decide) ?_
    exact t_iret C hr rfl (Or.inl ⟨rfl, r, w, hP, rfl⟩) (by show 0 + mc ≤ mc; omega) (by show 0 + ms ≤ ms; omega) dL_at_20
theorem zml_RL_102 : Cond.methodLink RL 102 yX5_refusal ∈ zAll := zg (z_t4 (List.mem_of_getElem? (i := 188) (by decide +kernel))) (by decide +kernel)
theorem zcw_refusal : zCalW RL 236 yL_refusal cL_refusal 4 (some .int) [(0, 9, 12, 50)] 3 := ⟨⟨zg (z_t4 (List.mem_of_getElem? (i := 185) (by decide +kernel))) (by decide +kernel), zg (z_t4 (List.mem_of_getElem? (i := 186) (by decide +kernel))) (by decide +kernel), zg (z_t1 (List.mem_of_getElem? (i := 0) (by decide +kernel))) (by decide +kernel), zg (z_t4 (List.mem_of_getElem? (i := 187) (by decide +kernel))) (by decide +kernel)⟩, by decide +kernel⟩
set_option maxRecDepth 100000 in
set_option maxHeartbeats 8000000 in
theorem hw_refusal (l : Launch) (D : va_G) (cy : Nat → ClassId) {EV : zEV} (hG : zGE EV) (hsub : ∀ A U H, zEw A U H → EV A U H) (ws : va_W) (x : Nat) (fs : List Value) (p0 : Int32) (ao q : Nat) (f : Nat → Int64) (mc ms : Nat) (rm : Room) (P : Int32 → va_W → Prop) (X : Nat → va_W → Prop) (hM : zMy l yX5_refusal cX5_refusal 2 (some .int) rm D (zTy cy) EV ws [.ref x, .int p0] mc ms P X) (hrc : rm.cells = mc) (hrs : rm.slots = ms) (hR : rm.frames ≤ 60 ∧ rm.locals ≤ 4000) (hx0 : ws[0]? = some (x, .inr (9, fs))) (hout : ∀ v w, P v w → w[q]? = some (ao, .inl (cy 4, 1, .inr (.inl f)))) (hcd : ∀ c w, X c w → c ≠ 0 → c = 6) : zMw l yL_refusal cL_refusal 4 (some .int) [(0, 9, 12, 50)] (zrw mc ms) D (zTy cy) zEw ws [.ref x, .int p0, .ref ao] mc ms (tI D (zTy cy) (zPw cy q ao f Int32.toInt64 [6] P X)) := by
  refine zMw.of (by decide) (Nat.le_of_ble_eq_true rfl) ?_
  intro p e s m below meth c A C hr hE htab
  obtain ⟨hR1, hR2⟩ := hR
  refine zG_L (L' := [(0, .ref x), (1, .int p0), (2, .ref ao)]) rfl ?_
  refine g_aload_n (j := 2) C dL_refusal_0 rfl rfl ?_
  refine g_iconst (v := (nI 0)) C dL_refusal_1 (by decide) ?_
  refine g_aload_n (j := 0) C dL_refusal_2 rfl rfl ?_
  refine g_iload_n (j := 1) C dL_refusal_3 rfl rfl ?_
  refine w_Yi (As := [.int p0]) (rest := [.int (nI 0), .ref ao]) hG (hsub _ _ _ hE) C hM zml_RL_102 zcv_X5_refusal (zRec.of C (ci := 9) (q0 := 0) rfl hx0) hrc hrs ⟨by show rm.frames + 1 ≤ 61; omega, by show 8 + (2 + 11) + rm.locals ≤ 5000; omega⟩ rfl rfl (Nat.le_of_ble_eq_true rfl) ⟨by show 0 + mc ≤ mc; omega, by show 0 + ms ≤ ms; omega⟩ dL_refusal_4 (fun code w hX hne => ?_) (fun r w hP => ?_)
  · rcases hcd code w hX hne with rfl
    · refine ⟨12, ⟨[], ⟨0, 9, 12, 50⟩, [], zExc 6, htab, (fun _ h => nomatch h), rfl, by decide, C.2.2.2.2.1 _ zkw_50, va_tabs rfl rfl (hE.1.2.1.2.1 _ (List.mem_of_getElem? (i := 5) rfl)), rfl⟩, fun q9 => ?_⟩
      refine g_astore_n (L' := [(3, .ref q9), (0, .ref x), (1, .int p0), (2, .ref ao)]) C dL_refusal_12 rfl (by decide) rfl ?_
      refine g_iconst (v := (nI 1)) C dL_refusal_13 (by decide) ?_
      exact t_iret C hr rfl (Or.inr ⟨0, 6, rfl, hX, by decide, rfl⟩) (by show 0 + mc ≤ mc; omega) (by show 0 + ms ≤ ms; omega) dL_refusal_14
  · skip
    refine n_i2l C dL_refusal_7 ?_
    refine n_last (q0 := q) (n := 1) (ws' := w.set q (ao, .inl (cy 4, 1, .inr (.inl (vp_updL f 0 r.toInt64))))) C (hout r w hP) (nI_in (by decide) (by decide)) (by rw [nI_clamp (by decide)]) dL_refusal_8 ?_
    refine g_goto C dL_refusal_9 (tgt := 15) (by decide) ?_
    refine g_iconst (v := (nI 0)) C dL_refusal_15 (by decide) ?_
    exact t_iret C hr rfl (Or.inl ⟨rfl, r, w, hP, rfl⟩) (by show 0 + mc ≤ mc; omega) (by show 0 + ms ≤ ms; omega) dL_refusal_16
theorem zml_RL_106 : Cond.methodLink RL 106 yX5_advance ∈ zAll := zg (z_t4 (List.mem_of_getElem? (i := 196) (by decide +kernel))) (by decide +kernel)
theorem zcw_advance : zCalW RL 240 yL_advance cL_advance 4 (some .int) [(0, 9, 12, 13)] 3 := ⟨⟨zg (z_t4 (List.mem_of_getElem? (i := 193) (by decide +kernel))) (by decide +kernel), zg (z_t4 (List.mem_of_getElem? (i := 194) (by decide +kernel))) (by decide +kernel), zg (z_t1 (List.mem_of_getElem? (i := 0) (by decide +kernel))) (by decide +kernel), zg (z_t4 (List.mem_of_getElem? (i := 195) (by decide +kernel))) (by decide +kernel)⟩, by decide +kernel⟩
set_option maxRecDepth 100000 in
set_option maxHeartbeats 8000000 in
theorem hw_advance (l : Launch) (D : va_G) (cy : Nat → ClassId) {EV : zEV} (hG : zGE EV) (hsub : ∀ A U H, zEw A U H → EV A U H) (ws : va_W) (x : Nat) (fs : List Value) (p0 : Int32) (ao q : Nat) (f : Nat → Int64) (mc ms : Nat) (rm : Room) (P : Int32 → va_W → Prop) (X : Nat → va_W → Prop) (hM : zMy l yX5_advance cX5_advance 2 (some .int) rm D (zTy cy) EV ws [.ref x, .int p0] mc ms P X) (hrc : rm.cells = mc) (hrs : rm.slots = ms) (hR : rm.frames ≤ 60 ∧ rm.locals ≤ 4000) (hx0 : ws[0]? = some (x, .inr (9, fs))) (hout : ∀ v w, P v w → w[q]? = some (ao, .inl (cy 4, 1, .inr (.inl f)))) (hcd : ∀ c w, X c w → c ≠ 0 → c = 1) : zMw l yL_advance cL_advance 4 (some .int) [(0, 9, 12, 13)] (zrw mc ms) D (zTy cy) zEw ws [.ref x, .int p0, .ref ao] mc ms (tI D (zTy cy) (zPw cy q ao f Int32.toInt64 [1] P X)) := by
  refine zMw.of (by decide) (Nat.le_of_ble_eq_true rfl) ?_
  intro p e s m below meth c A C hr hE htab
  obtain ⟨hR1, hR2⟩ := hR
  refine zG_L (L' := [(0, .ref x), (1, .int p0), (2, .ref ao)]) rfl ?_
  refine g_aload_n (j := 2) C dL_advance_0 rfl rfl ?_
  refine g_iconst (v := (nI 0)) C dL_advance_1 (by decide) ?_
  refine g_aload_n (j := 0) C dL_advance_2 rfl rfl ?_
  refine g_iload_n (j := 1) C dL_advance_3 rfl rfl ?_
  refine w_Yi (As := [.int p0]) (rest := [.int (nI 0), .ref ao]) hG (hsub _ _ _ hE) C hM zml_RL_106 zcv_X5_advance (zRec.of C (ci := 9) (q0 := 0) rfl hx0) hrc hrs ⟨by show rm.frames + 1 ≤ 61; omega, by show 8 + (2 + 11) + rm.locals ≤ 5000; omega⟩ rfl rfl (Nat.le_of_ble_eq_true rfl) ⟨by show 0 + mc ≤ mc; omega, by show 0 + ms ≤ ms; omega⟩ dL_advance_4 (fun code w hX hne => ?_) (fun r w hP => ?_)
  · rcases hcd code w hX hne with rfl
    · refine ⟨12, ⟨[], ⟨0, 9, 12, 13⟩, [], zExc 1, htab, (fun _ h => nomatch h), rfl, by decide, C.2.2.2.2.1 _ zkw_13, va_tabs rfl rfl (hE.1.2.1.2.1 _ (List.mem_of_getElem? (i := 0) rfl)), rfl⟩, fun q9 => ?_⟩
      refine g_astore_n (L' := [(3, .ref q9), (0, .ref x), (1, .int p0), (2, .ref ao)]) C dL_advance_12 rfl (by decide) rfl ?_
      refine g_iconst (v := (nI 1)) C dL_advance_13 (by decide) ?_
      exact t_iret C hr rfl (Or.inr ⟨0, 1, rfl, hX, by decide, rfl⟩) (by show 0 + mc ≤ mc; omega) (by show 0 + ms ≤ ms; omega) dL_advance_14
  · skip
    refine n_i2l C dL_advance_7 ?_
    refine n_last (q0 := q) (n := 1) (ws' := w.set q (ao, .inl (cy 4, 1, .inr (.inl (vp_updL f 0 r.toInt64))))) C (hout r w hP) (nI_in (by decide) (by decide)) (by rw [nI_clamp (by decide)]) dL_advance_8 ?_
    refine g_goto C dL_advance_9 (tgt := 15) (by decide) ?_
    refine g_iconst (v := (nI 0)) C dL_advance_15 (by decide) ?_
    exact t_iret C hr rfl (Or.inl ⟨rfl, r, w, hP, rfl⟩) (by show 0 + mc ≤ mc; omega) (by show 0 + ms ≤ ms; omega) dL_advance_16
theorem zml_RL_109 : Cond.methodLink RL 109 yX5_account ∈ zAll := zg (z_t4 (List.mem_of_getElem? (i := 208) (by decide +kernel))) (by decide +kernel)
theorem zcw_account : zCalW RL 243 yL_account cL_account 4 (some .int) [(0, 9, 12, 13)] 3 := ⟨⟨zg (z_t4 (List.mem_of_getElem? (i := 205) (by decide +kernel))) (by decide +kernel), zg (z_t4 (List.mem_of_getElem? (i := 206) (by decide +kernel))) (by decide +kernel), zg (z_t1 (List.mem_of_getElem? (i := 0) (by decide +kernel))) (by decide +kernel), zg (z_t4 (List.mem_of_getElem? (i := 207) (by decide +kernel))) (by decide +kernel)⟩, by decide +kernel⟩
set_option maxRecDepth 100000 in
set_option maxHeartbeats 8000000 in
theorem hw_account (l : Launch) (D : va_G) (cy : Nat → ClassId) {EV : zEV} (hG : zGE EV) (hsub : ∀ A U H, zEw A U H → EV A U H) (ws : va_W) (x : Nat) (fs : List Value) (p0 : Int32) (ao q : Nat) (f : Nat → Int64) (mc ms : Nat) (rm : Room) (P : Int32 → va_W → Prop) (X : Nat → va_W → Prop) (hM : zMy l yX5_account cX5_account 2 (some .int) rm D (zTy cy) EV ws [.ref x, .int p0] mc ms P X) (hrc : rm.cells = mc) (hrs : rm.slots = ms) (hR : rm.frames ≤ 60 ∧ rm.locals ≤ 4000) (hx0 : ws[0]? = some (x, .inr (9, fs))) (hout : ∀ v w, P v w → w[q]? = some (ao, .inl (cy 4, 1, .inr (.inl f)))) (hcd : ∀ c w, X c w → c ≠ 0 → c = 1) : zMw l yL_account cL_account 4 (some .int) [(0, 9, 12, 13)] (zrw mc ms) D (zTy cy) zEw ws [.ref x, .int p0, .ref ao] mc ms (tI D (zTy cy) (zPw cy q ao f Int32.toInt64 [1] P X)) := by
  refine zMw.of (by decide) (Nat.le_of_ble_eq_true rfl) ?_
  intro p e s m below meth c A C hr hE htab
  obtain ⟨hR1, hR2⟩ := hR
  refine zG_L (L' := [(0, .ref x), (1, .int p0), (2, .ref ao)]) rfl ?_
  refine g_aload_n (j := 2) C dL_account_0 rfl rfl ?_
  refine g_iconst (v := (nI 0)) C dL_account_1 (by decide) ?_
  refine g_aload_n (j := 0) C dL_account_2 rfl rfl ?_
  refine g_iload_n (j := 1) C dL_account_3 rfl rfl ?_
  refine w_Yi (As := [.int p0]) (rest := [.int (nI 0), .ref ao]) hG (hsub _ _ _ hE) C hM zml_RL_109 zcv_X5_account (zRec.of C (ci := 9) (q0 := 0) rfl hx0) hrc hrs ⟨by show rm.frames + 1 ≤ 61; omega, by show 8 + (2 + 11) + rm.locals ≤ 5000; omega⟩ rfl rfl (Nat.le_of_ble_eq_true rfl) ⟨by show 0 + mc ≤ mc; omega, by show 0 + ms ≤ ms; omega⟩ dL_account_4 (fun code w hX hne => ?_) (fun r w hP => ?_)
  · rcases hcd code w hX hne with rfl
    · refine ⟨12, ⟨[], ⟨0, 9, 12, 13⟩, [], zExc 1, htab, (fun _ h => nomatch h), rfl, by decide, C.2.2.2.2.1 _ zkw_13, va_tabs rfl rfl (hE.1.2.1.2.1 _ (List.mem_of_getElem? (i := 0) rfl)), rfl⟩, fun q9 => ?_⟩
      refine g_astore_n (L' := [(3, .ref q9), (0, .ref x), (1, .int p0), (2, .ref ao)]) C dL_account_12 rfl (by decide) rfl ?_
      refine g_iconst (v := (nI 1)) C dL_account_13 (by decide) ?_
      exact t_iret C hr rfl (Or.inr ⟨0, 1, rfl, hX, by decide, rfl⟩) (by show 0 + mc ≤ mc; omega) (by show 0 + ms ≤ ms; omega) dL_account_14
  · skip
    refine n_i2l C dL_account_7 ?_
    refine n_last (q0 := q) (n := 1) (ws' := w.set q (ao, .inl (cy 4, 1, .inr (.inl (vp_updL f 0 r.toInt64))))) C (hout r w hP) (nI_in (by decide) (by decide)) (by rw [nI_clamp (by decide)]) dL_account_8 ?_
    refine g_goto C dL_account_9 (tgt := 15) (by decide) ?_
    refine g_iconst (v := (nI 0)) C dL_account_15 (by decide) ?_
    exact t_iret C hr rfl (Or.inl ⟨rfl, r, w, hP, rfl⟩) (by show 0 + mc ≤ mc; omega) (by show 0 + ms ≤ ms; omega) dL_account_16
theorem zml_RL_112 : Cond.methodLink RL 112 yX5_bestFilm ∈ zAll := zg (z_t4 (List.mem_of_getElem? (i := 215) (by decide +kernel))) (by decide +kernel)
theorem zcw_bestFilm : zCalW RL 246 yL_bestFilm cL_bestFilm 3 (some .int) [(0, 8, 11, 50)] 2 := ⟨⟨zg (z_t4 (List.mem_of_getElem? (i := 212) (by decide +kernel))) (by decide +kernel), zg (z_t4 (List.mem_of_getElem? (i := 213) (by decide +kernel))) (by decide +kernel), zg (z_t1 (List.mem_of_getElem? (i := 0) (by decide +kernel))) (by decide +kernel), zg (z_t4 (List.mem_of_getElem? (i := 214) (by decide +kernel))) (by decide +kernel)⟩, by decide +kernel⟩
set_option maxRecDepth 100000 in
set_option maxHeartbeats 8000000 in
theorem hw_bestFilm (l : Launch) (D : va_G) (cy : Nat → ClassId) {EV : zEV} (hG : zGE EV) (hsub : ∀ A U H, zEw A U H → EV A U H) (ws : va_W) (x : Nat) (fs : List Value) (ao q : Nat) (f : Nat → Int64) (mc ms : Nat) (rm : Room) (P : Int32 → va_W → Prop) (X : Nat → va_W → Prop) (hM : zMy l yX5_bestFilm cX5_bestFilm 5 (some .int) rm D (zTy cy) EV ws [.ref x] mc ms P X) (hrc : rm.cells = mc) (hrs : rm.slots = ms) (hR : rm.frames ≤ 60 ∧ rm.locals ≤ 4000) (hx0 : ws[0]? = some (x, .inr (9, fs))) (hout : ∀ v w, P v w → w[q]? = some (ao, .inl (cy 4, 1, .inr (.inl f)))) (hcd : ∀ c w, X c w → c ≠ 0 → c = 6) : zMw l yL_bestFilm cL_bestFilm 3 (some .int) [(0, 8, 11, 50)] (zrw mc ms) D (zTy cy) zEw ws [.ref x, .ref ao] mc ms (tI D (zTy cy) (zPw cy q ao f Int32.toInt64 [6] P X)) := by
  refine zMw.of (by decide) (Nat.le_of_ble_eq_true rfl) ?_
  intro p e s m below meth c A C hr hE htab
  obtain ⟨hR1, hR2⟩ := hR
  refine zG_L (L' := [(0, .ref x), (1, .ref ao)]) rfl ?_
  refine g_aload_n (j := 1) C dL_bestFilm_0 rfl rfl ?_
  refine g_iconst (v := (nI 0)) C dL_bestFilm_1 (by decide) ?_
  refine g_aload_n (j := 0) C dL_bestFilm_2 rfl rfl ?_
  refine w_Yi (As := []) (rest := [.int (nI 0), .ref ao]) hG (hsub _ _ _ hE) C hM zml_RL_112 zcv_X5_bestFilm (zRec.of C (ci := 9) (q0 := 0) rfl hx0) hrc hrs ⟨by show rm.frames + 1 ≤ 61; omega, by show 8 + (5 + 11) + rm.locals ≤ 5000; omega⟩ rfl rfl (Nat.le_of_ble_eq_true rfl) ⟨by show 0 + mc ≤ mc; omega, by show 0 + ms ≤ ms; omega⟩ dL_bestFilm_3 (fun code w hX hne => ?_) (fun r w hP => ?_)
  · rcases hcd code w hX hne with rfl
    · refine ⟨11, ⟨[], ⟨0, 8, 11, 50⟩, [], zExc 6, htab, (fun _ h => nomatch h), rfl, by decide, C.2.2.2.2.1 _ zkw_50, va_tabs rfl rfl (hE.1.2.1.2.1 _ (List.mem_of_getElem? (i := 5) rfl)), rfl⟩, fun q9 => ?_⟩
      refine g_astore_n (L' := [(2, .ref q9), (0, .ref x), (1, .ref ao)]) C dL_bestFilm_11 rfl (by decide) rfl ?_
      refine g_iconst (v := (nI 1)) C dL_bestFilm_12 (by decide) ?_
      exact t_iret C hr rfl (Or.inr ⟨0, 6, rfl, hX, by decide, rfl⟩) (by show 0 + mc ≤ mc; omega) (by show 0 + ms ≤ ms; omega) dL_bestFilm_13
  · skip
    refine n_i2l C dL_bestFilm_6 ?_
    refine n_last (q0 := q) (n := 1) (ws' := w.set q (ao, .inl (cy 4, 1, .inr (.inl (vp_updL f 0 r.toInt64))))) C (hout r w hP) (nI_in (by decide) (by decide)) (by rw [nI_clamp (by decide)]) dL_bestFilm_7 ?_
    refine g_goto C dL_bestFilm_8 (tgt := 14) (by decide) ?_
    refine g_iconst (v := (nI 0)) C dL_bestFilm_14 (by decide) ?_
    exact t_iret C hr rfl (Or.inl ⟨rfl, r, w, hP, rfl⟩) (by show 0 + mc ≤ mc; omega) (by show 0 + ms ≤ ms; omega) dL_bestFilm_15
theorem zml_RL_116 : Cond.methodLink RL 116 yX5_use ∈ zAll := zg (z_t4 (List.mem_of_getElem? (i := 237) (by decide +kernel))) (by decide +kernel)
theorem zcw_use : zCalW RL 250 yL_use cL_use 3 (some .int) [(0, 7, 10, 120)] 2 := ⟨⟨zg (z_t4 (List.mem_of_getElem? (i := 220) (by decide +kernel))) (by decide +kernel), zg (z_t4 (List.mem_of_getElem? (i := 221) (by decide +kernel))) (by decide +kernel), zg (z_t1 (List.mem_of_getElem? (i := 0) (by decide +kernel))) (by decide +kernel), zg (z_t4 (List.mem_of_getElem? (i := 222) (by decide +kernel))) (by decide +kernel)⟩, by decide +kernel⟩
set_option maxRecDepth 100000 in
set_option maxHeartbeats 8000000 in
theorem hw_use (l : Launch) (D : va_G) (cy : Nat → ClassId) {EV : zEV} (hG : zGE EV) (hsub : ∀ A U H, zEw A U H → EV A U H) (ws : va_W) (x : Nat) (fs : List Value) (ao q : Nat) (f : Nat → UInt64) (mc ms : Nat) (rm : Room) (P : UInt64 → va_W → Prop) (X : Nat → va_W → Prop) (hM : zMd l yX5_use cX5_use 2 (some .double) rm D (zTy cy) EV ws [.ref x] mc ms P X) (hrc : rm.cells = mc) (hrs : rm.slots = ms) (hR : rm.frames ≤ 60 ∧ rm.locals ≤ 4000) (hx0 : ws[0]? = some (x, .inr (9, fs))) (hout : ∀ v w, P v w → w[q]? = some (ao, .inl (cy 5, 1, .inr (.inr (.inr (.inl f)))))) (hcd : ∀ c w, X c w → c ≠ 0 → c = 4) : zMw l yL_use cL_use 3 (some .int) [(0, 7, 10, 120)] (zrw mc ms) D (zTy cy) zEw ws [.ref x, .ref ao] mc ms (tI D (zTy cy) (zPwd cy q ao f [4] P X)) := by
  refine zMw.of (by decide) (Nat.le_of_ble_eq_true rfl) ?_
  intro p e s m below meth c A C hr hE htab
  obtain ⟨hR1, hR2⟩ := hR
  refine zG_L (L' := [(0, .ref x), (1, .ref ao)]) rfl ?_
  refine g_aload_n (j := 1) C dL_use_0 rfl rfl ?_
  refine g_iconst (v := (nI 0)) C dL_use_1 (by decide) ?_
  refine g_aload_n (j := 0) C dL_use_2 rfl rfl ?_
  refine w_Yd (As := []) (rest := [.int (nI 0), .ref ao]) hG (hsub _ _ _ hE) C hM zml_RL_116 zcv_X5_use (zRec.of C (ci := 9) (q0 := 0) rfl hx0) hrc hrs ⟨by show rm.frames + 1 ≤ 61; omega, by show 8 + (2 + 11) + rm.locals ≤ 5000; omega⟩ rfl rfl (Nat.le_of_ble_eq_true rfl) ⟨by show 0 + mc ≤ mc; omega, by show 0 + ms ≤ ms; omega⟩ dL_use_3 (fun code w hX hne => ?_) (fun r w hP => ?_)
  · rcases hcd code w hX hne with rfl
    · refine ⟨10, ⟨[], ⟨0, 7, 10, 120⟩, [], zExc 4, htab, (fun _ h => nomatch h), rfl, by decide, C.2.2.2.2.1 _ zkw_120, va_tabs rfl rfl (hE.1.2.1.2.1 _ (List.mem_of_getElem? (i := 3) rfl)), rfl⟩, fun q9 => ?_⟩
      refine g_astore_n (L' := [(2, .ref q9), (0, .ref x), (1, .ref ao)]) C dL_use_10 rfl (by decide) rfl ?_
      refine g_iconst (v := (nI 1)) C dL_use_11 (by decide) ?_
      exact t_iret C hr rfl (Or.inr ⟨0, 4, rfl, hX, by decide, rfl⟩) (by show 0 + mc ≤ mc; omega) (by show 0 + ms ≤ ms; omega) dL_use_12
  · skip
    refine n_dast (q0 := q) (n := 1) (ws' := w.set q (ao, .inl (cy 5, 1, .inr (.inr (.inr (.inl (vf_upd f 0 r))))))) C (hout r w hP) (nI_in (by decide) (by decide)) (by rw [nI_clamp (by decide)]) dL_use_6 ?_
    refine g_goto C dL_use_7 (tgt := 13) (by decide) ?_
    refine g_iconst (v := (nI 0)) C dL_use_13 (by decide) ?_
    exact t_iret C hr rfl (Or.inl ⟨rfl, r, w, hP, rfl⟩) (by show 0 + mc ≤ mc; omega) (by show 0 + ms ≤ ms; omega) dL_use_14
theorem zml_RL_122 : Cond.methodLink RL 122 yX5_write ∈ zAll := zg (z_t5 (List.mem_of_getElem? (i := 7) (by decide +kernel))) (by decide +kernel)
theorem zcw_write : zCalW RL 254 yL_write cL_write 5 (some .int) [(0, 10, 13, 25), (0, 10, 17, 13)] 4 := ⟨⟨zg (z_t5 (List.mem_of_getElem? (i := 4) (by decide +kernel))) (by decide +kernel), zg (z_t5 (List.mem_of_getElem? (i := 5) (by decide +kernel))) (by decide +kernel), zg (z_t1 (List.mem_of_getElem? (i := 0) (by decide +kernel))) (by decide +kernel), zg (z_t5 (List.mem_of_getElem? (i := 6) (by decide +kernel))) (by decide +kernel)⟩, by decide +kernel⟩
set_option maxRecDepth 100000 in
set_option maxHeartbeats 8000000 in
theorem hw_write (l : Launch) (D : va_G) (cy : Nat → ClassId) {EV : zEV} (hG : zGE EV) (hsub : ∀ A U H, zEw A U H → EV A U H) (ws : va_W) (x : Nat) (fs : List Value) (p0 p1 : Int32) (ao q : Nat) (f : Nat → Int64) (mc ms : Nat) (rm : Room) (P : Int32 → va_W → Prop) (X : Nat → va_W → Prop) (hM : zMy l yX5_write cX5_write 5 (some .int) rm D (zTy cy) EV ws [.ref x, .int p0, .int p1] mc ms P X) (hrc : rm.cells = mc) (hrs : rm.slots = ms) (hR : rm.frames ≤ 60 ∧ rm.locals ≤ 4000) (hx0 : ws[0]? = some (x, .inr (9, fs))) (hout : ∀ v w, P v w → w[q]? = some (ao, .inl (cy 4, 1, .inr (.inl f)))) (hcd : ∀ c w, X c w → c ≠ 0 → c = 3 ∨ c = 1) : zMw l yL_write cL_write 5 (some .int) [(0, 10, 13, 25), (0, 10, 17, 13)] (zrw mc ms) D (zTy cy) zEw ws [.ref x, .int p0, .int p1, .ref ao] mc ms (tI D (zTy cy) (zPw cy q ao f Int32.toInt64 [3, 1] P X)) := by
  refine zMw.of (by decide) (Nat.le_of_ble_eq_true rfl) ?_
  intro p e s m below meth c A C hr hE htab
  obtain ⟨hR1, hR2⟩ := hR
  refine zG_L (L' := [(0, .ref x), (1, .int p0), (2, .int p1), (3, .ref ao)]) rfl ?_
  refine g_aload_n (j := 3) C dL_write_0 rfl rfl ?_
  refine g_iconst (v := (nI 0)) C dL_write_1 (by decide) ?_
  refine g_aload_n (j := 0) C dL_write_2 rfl rfl ?_
  refine g_iload_n (j := 1) C dL_write_3 rfl rfl ?_
  refine g_iload_n (j := 2) C dL_write_4 rfl rfl ?_
  refine w_Yi (As := [.int p0, .int p1]) (rest := [.int (nI 0), .ref ao]) hG (hsub _ _ _ hE) C hM zml_RL_122 zcv_X5_write (zRec.of C (ci := 9) (q0 := 0) rfl hx0) hrc hrs ⟨by show rm.frames + 1 ≤ 61; omega, by show 8 + (5 + 11) + rm.locals ≤ 5000; omega⟩ rfl rfl (Nat.le_of_ble_eq_true rfl) ⟨by show 0 + mc ≤ mc; omega, by show 0 + ms ≤ ms; omega⟩ dL_write_5 (fun code w hX hne => ?_) (fun r w hP => ?_)
  · rcases hcd code w hX hne with rfl | rfl
    · refine ⟨13, ⟨[], ⟨0, 10, 13, 25⟩, [⟨0, 10, 17, 13⟩], zExc 3, htab, (fun _ h => nomatch h), rfl, by decide, C.2.2.2.2.1 _ zkw_25, va_tabs rfl rfl (hE.1.2.1.2.1 _ (List.mem_of_getElem? (i := 2) rfl)), rfl⟩, fun q9 => ?_⟩
      refine g_astore (L' := [(4, .ref q9), (0, .ref x), (1, .int p0), (2, .int p1), (3, .ref ao)]) C dL_write_13 (by decide) rfl ?_
      refine g_iconst (v := (nI 1)) C dL_write_15 (by decide) ?_
      exact t_iret C hr rfl (Or.inr ⟨0, 3, rfl, hX, by decide, rfl⟩) (by show 0 + mc ≤ mc; omega) (by show 0 + ms ≤ ms; omega) dL_write_16
    · refine ⟨17, ⟨[⟨0, 10, 13, 25⟩], ⟨0, 10, 17, 13⟩, [], zExc 1, htab, (List.forall_mem_cons.mpr ⟨Or.inr ⟨by decide, zExc 3, C.2.2.2.2.1 _ zkw_25, hE.2 (zExc 1, zExc 3) (List.mem_of_getElem? (i := 0) rfl)⟩, (fun _ h => nomatch h)⟩), rfl, by decide, C.2.2.2.2.1 _ zkw_13, va_tabs rfl rfl (hE.1.2.1.2.1 _ (List.mem_of_getElem? (i := 0) rfl)), rfl⟩, fun q9 => ?_⟩
      refine g_astore (L' := [(4, .ref q9), (0, .ref x), (1, .int p0), (2, .int p1), (3, .ref ao)]) C dL_write_17 (by decide) rfl ?_
      refine g_iconst (v := (nI 2)) C dL_write_19 (by decide) ?_
      exact t_iret C hr rfl (Or.inr ⟨1, 1, rfl, hX, by decide, rfl⟩) (by show 0 + mc ≤ mc; omega) (by show 0 + ms ≤ ms; omega) dL_write_20
  · skip
    refine n_i2l C dL_write_8 ?_
    refine n_last (q0 := q) (n := 1) (ws' := w.set q (ao, .inl (cy 4, 1, .inr (.inl (vp_updL f 0 r.toInt64))))) C (hout r w hP) (nI_in (by decide) (by decide)) (by rw [nI_clamp (by decide)]) dL_write_9 ?_
    refine g_goto C dL_write_10 (tgt := 21) (by decide) ?_
    refine g_iconst (v := (nI 0)) C dL_write_21 (by decide) ?_
    exact t_iret C hr rfl (Or.inl ⟨rfl, r, w, hP, rfl⟩) (by show 0 + mc ≤ mc; omega) (by show 0 + ms ≤ ms; omega) dL_write_22
theorem zml_RL_125 : Cond.methodLink RL 125 yX5_written ∈ zAll := zg (z_t6 (List.mem_of_getElem? (i := 59) (by decide +kernel))) (by decide +kernel)
theorem zcw_written : zCalW RL 257 yL_written cL_written 4 (some .int) [(0, 9, 12, 25)] 3 := ⟨⟨zg (z_t6 (List.mem_of_getElem? (i := 56) (by decide +kernel))) (by decide +kernel), zg (z_t6 (List.mem_of_getElem? (i := 57) (by decide +kernel))) (by decide +kernel), zg (z_t1 (List.mem_of_getElem? (i := 0) (by decide +kernel))) (by decide +kernel), zg (z_t6 (List.mem_of_getElem? (i := 58) (by decide +kernel))) (by decide +kernel)⟩, by decide +kernel⟩
set_option maxRecDepth 100000 in
set_option maxHeartbeats 8000000 in
theorem hw_written (l : Launch) (D : va_G) (cy : Nat → ClassId) {EV : zEV} (hG : zGE EV) (hsub : ∀ A U H, zEw A U H → EV A U H) (ws : va_W) (x : Nat) (fs : List Value) (p0 : Int32) (ao q : Nat) (f : Nat → Int64) (mc ms : Nat) (rm : Room) (P : Int32 → va_W → Prop) (X : Nat → va_W → Prop) (hM : zMy l yX5_written cX5_written 2 (some .char) rm D (zTy cy) EV ws [.ref x, .int p0] mc ms P X) (hrc : rm.cells = mc) (hrs : rm.slots = ms) (hR : rm.frames ≤ 60 ∧ rm.locals ≤ 4000) (hx0 : ws[0]? = some (x, .inr (9, fs))) (hout : ∀ v w, P v w → w[q]? = some (ao, .inl (cy 4, 1, .inr (.inl f)))) (hcd : ∀ c w, X c w → c ≠ 0 → c = 3) : zMw l yL_written cL_written 4 (some .int) [(0, 9, 12, 25)] (zrw mc ms) D (zTy cy) zEw ws [.ref x, .int p0, .ref ao] mc ms (tI D (zTy cy) (zPw cy q ao f Int32.toInt64 [3] P X)) := by
  refine zMw.of (by decide) (Nat.le_of_ble_eq_true rfl) ?_
  intro p e s m below meth c A C hr hE htab
  obtain ⟨hR1, hR2⟩ := hR
  refine zG_L (L' := [(0, .ref x), (1, .int p0), (2, .ref ao)]) rfl ?_
  refine g_aload_n (j := 2) C dL_written_0 rfl rfl ?_
  refine g_iconst (v := (nI 0)) C dL_written_1 (by decide) ?_
  refine g_aload_n (j := 0) C dL_written_2 rfl rfl ?_
  refine g_iload_n (j := 1) C dL_written_3 rfl rfl ?_
  refine w_Yi (As := [.int p0]) (rest := [.int (nI 0), .ref ao]) hG (hsub _ _ _ hE) C hM zml_RL_125 zcv_X5_written (zRec.of C (ci := 9) (q0 := 0) rfl hx0) hrc hrs ⟨by show rm.frames + 1 ≤ 61; omega, by show 8 + (2 + 11) + rm.locals ≤ 5000; omega⟩ rfl rfl (Nat.le_of_ble_eq_true rfl) ⟨by show 0 + mc ≤ mc; omega, by show 0 + ms ≤ ms; omega⟩ dL_written_4 (fun code w hX hne => ?_) (fun r w hP => ?_)
  · rcases hcd code w hX hne with rfl
    · refine ⟨12, ⟨[], ⟨0, 9, 12, 25⟩, [], zExc 3, htab, (fun _ h => nomatch h), rfl, by decide, C.2.2.2.2.1 _ zkw_25, va_tabs rfl rfl (hE.1.2.1.2.1 _ (List.mem_of_getElem? (i := 2) rfl)), rfl⟩, fun q9 => ?_⟩
      refine g_astore_n (L' := [(3, .ref q9), (0, .ref x), (1, .int p0), (2, .ref ao)]) C dL_written_12 rfl (by decide) rfl ?_
      refine g_iconst (v := (nI 1)) C dL_written_13 (by decide) ?_
      exact t_iret C hr rfl (Or.inr ⟨0, 3, rfl, hX, by decide, rfl⟩) (by show 0 + mc ≤ mc; omega) (by show 0 + ms ≤ ms; omega) dL_written_14
  · skip
    refine n_i2l C dL_written_7 ?_
    refine n_last (q0 := q) (n := 1) (ws' := w.set q (ao, .inl (cy 4, 1, .inr (.inl (vp_updL f 0 r.toInt64))))) C (hout r w hP) (nI_in (by decide) (by decide)) (by rw [nI_clamp (by decide)]) dL_written_8 ?_
    refine g_goto C dL_written_9 (tgt := 15) (by decide) ?_
    refine g_iconst (v := (nI 0)) C dL_written_15 (by decide) ?_
    exact t_iret C hr rfl (Or.inl ⟨rfl, r, w, hP, rfl⟩) (by show 0 + mc ≤ mc; omega) (by show 0 + ms ≤ ms; omega) dL_written_16
theorem zml_RL_129 : Cond.methodLink RL 129 yX5_append ∈ zAll := zg (z_t6 (List.mem_of_getElem? (i := 77) (by decide +kernel))) (by decide +kernel)
theorem zcw_append : zCalW RL 260 yL_append cL_append 4 (some .int) [(0, 9, 12, 13), (0, 9, 15, 15)] 3 := ⟨⟨zg (z_t6 (List.mem_of_getElem? (i := 74) (by decide +kernel))) (by decide +kernel), zg (z_t6 (List.mem_of_getElem? (i := 75) (by decide +kernel))) (by decide +kernel), zg (z_t1 (List.mem_of_getElem? (i := 0) (by decide +kernel))) (by decide +kernel), zg (z_t6 (List.mem_of_getElem? (i := 76) (by decide +kernel))) (by decide +kernel)⟩, by decide +kernel⟩
set_option maxRecDepth 100000 in
set_option maxHeartbeats 8000000 in
theorem hw_append (l : Launch) (D : va_G) (cy : Nat → ClassId) {EV : zEV} (hG : zGE EV) (hsub : ∀ A U H, zEw A U H → EV A U H) (ws : va_W) (x : Nat) (fs : List Value) (p0 : Int32) (ao q : Nat) (f : Nat → Int64) (mc ms : Nat) (rm : Room) (P : Int32 → va_W → Prop) (X : Nat → va_W → Prop) (hM : zMy l yX5_append cX5_append 2 (some .int) rm D (zTy cy) EV ws [.ref x, .int p0] mc ms P X) (hrc : rm.cells = mc) (hrs : rm.slots = ms) (hR : rm.frames ≤ 60 ∧ rm.locals ≤ 4000) (hx0 : ws[0]? = some (x, .inr (9, fs))) (hout : ∀ v w, P v w → w[q]? = some (ao, .inl (cy 4, 1, .inr (.inl f)))) (hcd : ∀ c w, X c w → c ≠ 0 → c = 1 ∨ c = 2) : zMw l yL_append cL_append 4 (some .int) [(0, 9, 12, 13), (0, 9, 15, 15)] (zrw mc ms) D (zTy cy) zEw ws [.ref x, .int p0, .ref ao] mc ms (tI D (zTy cy) (zPw cy q ao f Int32.toInt64 [1, 2] P X)) := by
  refine zMw.of (by decide) (Nat.le_of_ble_eq_true rfl) ?_
  intro p e s m below meth c A C hr hE htab
  obtain ⟨hR1, hR2⟩ := hR
  refine zG_L (L' := [(0, .ref x), (1, .int p0), (2, .ref ao)]) rfl ?_
  refine g_aload_n (j := 2) C dL_append_0 rfl rfl ?_
  refine g_iconst (v := (nI 0)) C dL_append_1 (by decide) ?_
  refine g_aload_n (j := 0) C dL_append_2 rfl rfl ?_
  refine g_iload_n (j := 1) C dL_append_3 rfl rfl ?_
  refine w_Yi (As := [.int p0]) (rest := [.int (nI 0), .ref ao]) hG (hsub _ _ _ hE) C hM zml_RL_129 zcv_X5_append (zRec.of C (ci := 9) (q0 := 0) rfl hx0) hrc hrs ⟨by show rm.frames + 1 ≤ 61; omega, by show 8 + (2 + 11) + rm.locals ≤ 5000; omega⟩ rfl rfl (Nat.le_of_ble_eq_true rfl) ⟨by show 0 + mc ≤ mc; omega, by show 0 + ms ≤ ms; omega⟩ dL_append_4 (fun code w hX hne => ?_) (fun r w hP => ?_)
  · rcases hcd code w hX hne with rfl | rfl
    · refine ⟨12, ⟨[], ⟨0, 9, 12, 13⟩, [⟨0, 9, 15, 15⟩], zExc 1, htab, (fun _ h => nomatch h), rfl, by decide, C.2.2.2.2.1 _ zkw_13, va_tabs rfl rfl (hE.1.2.1.2.1 _ (List.mem_of_getElem? (i := 0) rfl)), rfl⟩, fun q9 => ?_⟩
      refine g_astore_n (L' := [(3, .ref q9), (0, .ref x), (1, .int p0), (2, .ref ao)]) C dL_append_12 rfl (by decide) rfl ?_
      refine g_iconst (v := (nI 1)) C dL_append_13 (by decide) ?_
      exact t_iret C hr rfl (Or.inr ⟨0, 1, rfl, hX, by decide, rfl⟩) (by show 0 + mc ≤ mc; omega) (by show 0 + ms ≤ ms; omega) dL_append_14
    · refine ⟨15, ⟨[⟨0, 9, 12, 13⟩], ⟨0, 9, 15, 15⟩, [], zExc 2, htab, (List.forall_mem_cons.mpr ⟨Or.inr ⟨by decide, zExc 1, C.2.2.2.2.1 _ zkw_13, hE.2 (zExc 2, zExc 1) (List.mem_of_getElem? (i := 1) rfl)⟩, (fun _ h => nomatch h)⟩), rfl, by decide, C.2.2.2.2.1 _ zkw_15, va_tabs rfl rfl (hE.1.2.1.2.1 _ (List.mem_of_getElem? (i := 1) rfl)), rfl⟩, fun q9 => ?_⟩
      refine g_astore_n (L' := [(3, .ref q9), (0, .ref x), (1, .int p0), (2, .ref ao)]) C dL_append_15 rfl (by decide) rfl ?_
      refine g_iconst (v := (nI 2)) C dL_append_16 (by decide) ?_
      exact t_iret C hr rfl (Or.inr ⟨1, 2, rfl, hX, by decide, rfl⟩) (by show 0 + mc ≤ mc; omega) (by show 0 + ms ≤ ms; omega) dL_append_17
  · skip
    refine n_i2l C dL_append_7 ?_
    refine n_last (q0 := q) (n := 1) (ws' := w.set q (ao, .inl (cy 4, 1, .inr (.inl (vp_updL f 0 r.toInt64))))) C (hout r w hP) (nI_in (by decide) (by decide)) (by rw [nI_clamp (by decide)]) dL_append_8 ?_
    refine g_goto C dL_append_9 (tgt := 18) (by decide) ?_
    refine g_iconst (v := (nI 0)) C dL_append_18 (by decide) ?_
    exact t_iret C hr rfl (Or.inl ⟨rfl, r, w, hP, rfl⟩) (by show 0 + mc ≤ mc; omega) (by show 0 + ms ≤ ms; omega) dL_append_19
theorem zml_RL_133 : Cond.methodLink RL 133 yX5_perform ∈ zAll := zg (z_t6 (List.mem_of_getElem? (i := 86) (by decide +kernel))) (by decide +kernel)
theorem zcw_perform : zCalW RL 264 yL_perform cL_perform 3 (some .int) [(0, 8, 11, 13), (0, 8, 14, 66)] 2 := ⟨⟨zg (z_t6 (List.mem_of_getElem? (i := 83) (by decide +kernel))) (by decide +kernel), zg (z_t6 (List.mem_of_getElem? (i := 84) (by decide +kernel))) (by decide +kernel), zg (z_t1 (List.mem_of_getElem? (i := 0) (by decide +kernel))) (by decide +kernel), zg (z_t6 (List.mem_of_getElem? (i := 85) (by decide +kernel))) (by decide +kernel)⟩, by decide +kernel⟩
set_option maxRecDepth 100000 in
set_option maxHeartbeats 8000000 in
theorem hw_perform (l : Launch) (D : va_G) (cy : Nat → ClassId) {EV : zEV} (hG : zGE EV) (hsub : ∀ A U H, zEw A U H → EV A U H) (ws : va_W) (x : Nat) (fs : List Value) (ao q : Nat) (f : Nat → Int64) (mc ms : Nat) (rm : Room) (P : Int32 → va_W → Prop) (X : Nat → va_W → Prop) (hM : zMy l yX5_perform cX5_perform 3 (some .int) rm D (zTy cy) EV ws [.ref x] mc ms P X) (hrc : rm.cells = mc) (hrs : rm.slots = ms) (hR : rm.frames ≤ 60 ∧ rm.locals ≤ 4000) (hx0 : ws[0]? = some (x, .inr (9, fs))) (hout : ∀ v w, P v w → w[q]? = some (ao, .inl (cy 4, 1, .inr (.inl f)))) (hcd : ∀ c w, X c w → c ≠ 0 → c = 1 ∨ c = 5) : zMw l yL_perform cL_perform 3 (some .int) [(0, 8, 11, 13), (0, 8, 14, 66)] (zrw mc ms) D (zTy cy) zEw ws [.ref x, .ref ao] mc ms (tI D (zTy cy) (zPw cy q ao f Int32.toInt64 [1, 5] P X)) := by
  refine zMw.of (by decide) (Nat.le_of_ble_eq_true rfl) ?_
  intro p e s m below meth c A C hr hE htab
  obtain ⟨hR1, hR2⟩ := hR
  refine zG_L (L' := [(0, .ref x), (1, .ref ao)]) rfl ?_
  refine g_aload_n (j := 1) C dL_perform_0 rfl rfl ?_
  refine g_iconst (v := (nI 0)) C dL_perform_1 (by decide) ?_
  refine g_aload_n (j := 0) C dL_perform_2 rfl rfl ?_
  refine w_Yi (As := []) (rest := [.int (nI 0), .ref ao]) hG (hsub _ _ _ hE) C hM zml_RL_133 zcv_X5_perform (zRec.of C (ci := 9) (q0 := 0) rfl hx0) hrc hrs ⟨by show rm.frames + 1 ≤ 61; omega, by show 8 + (3 + 11) + rm.locals ≤ 5000; omega⟩ rfl rfl (Nat.le_of_ble_eq_true rfl) ⟨by show 0 + mc ≤ mc; omega, by show 0 + ms ≤ ms; omega⟩ dL_perform_3 (fun code w hX hne => ?_) (fun r w hP => ?_)
  · rcases hcd code w hX hne with rfl | rfl
    · refine ⟨11, ⟨[], ⟨0, 8, 11, 13⟩, [⟨0, 8, 14, 66⟩], zExc 1, htab, (fun _ h => nomatch h), rfl, by decide, C.2.2.2.2.1 _ zkw_13, va_tabs rfl rfl (hE.1.2.1.2.1 _ (List.mem_of_getElem? (i := 0) rfl)), rfl⟩, fun q9 => ?_⟩
      refine g_astore_n (L' := [(2, .ref q9), (0, .ref x), (1, .ref ao)]) C dL_perform_11 rfl (by decide) rfl ?_
      refine g_iconst (v := (nI 1)) C dL_perform_12 (by decide) ?_
      exact t_iret C hr rfl (Or.inr ⟨0, 1, rfl, hX, by decide, rfl⟩) (by show 0 + mc ≤ mc; omega) (by show 0 + ms ≤ ms; omega) dL_perform_13
    · refine ⟨14, ⟨[⟨0, 8, 11, 13⟩], ⟨0, 8, 14, 66⟩, [], zExc 5, htab, (List.forall_mem_cons.mpr ⟨Or.inr ⟨by decide, zExc 1, C.2.2.2.2.1 _ zkw_13, hE.2 (zExc 5, zExc 1) (List.mem_of_getElem? (i := 3) rfl)⟩, (fun _ h => nomatch h)⟩), rfl, by decide, C.2.2.2.2.1 _ zkw_66, va_tabs rfl rfl (hE.1.2.1.2.1 _ (List.mem_of_getElem? (i := 4) rfl)), rfl⟩, fun q9 => ?_⟩
      refine g_astore_n (L' := [(2, .ref q9), (0, .ref x), (1, .ref ao)]) C dL_perform_14 rfl (by decide) rfl ?_
      refine g_iconst (v := (nI 2)) C dL_perform_15 (by decide) ?_
      exact t_iret C hr rfl (Or.inr ⟨1, 5, rfl, hX, by decide, rfl⟩) (by show 0 + mc ≤ mc; omega) (by show 0 + ms ≤ ms; omega) dL_perform_16
  · skip
    refine n_i2l C dL_perform_6 ?_
    refine n_last (q0 := q) (n := 1) (ws' := w.set q (ao, .inl (cy 4, 1, .inr (.inl (vp_updL f 0 r.toInt64))))) C (hout r w hP) (nI_in (by decide) (by decide)) (by rw [nI_clamp (by decide)]) dL_perform_7 ?_
    refine g_goto C dL_perform_8 (tgt := 17) (by decide) ?_
    refine g_iconst (v := (nI 0)) C dL_perform_17 (by decide) ?_
    exact t_iret C hr rfl (Or.inl ⟨rfl, r, w, hP, rfl⟩) (by show 0 + mc ≤ mc; omega) (by show 0 + ms ≤ ms; omega) dL_perform_18
theorem zml_RL_136 : Cond.methodLink RL 136 yX5_errorPosition ∈ zAll := zg (z_t6 (List.mem_of_getElem? (i := 160) (by decide +kernel))) (by decide +kernel)
theorem zcw_errorPosition : zCalW RL 267 yL_errorPosition cL_errorPosition 3 (some .int) [(0, 8, 11, 50)] 2 := ⟨⟨zg (z_t6 (List.mem_of_getElem? (i := 157) (by decide +kernel))) (by decide +kernel), zg (z_t6 (List.mem_of_getElem? (i := 158) (by decide +kernel))) (by decide +kernel), zg (z_t1 (List.mem_of_getElem? (i := 0) (by decide +kernel))) (by decide +kernel), zg (z_t6 (List.mem_of_getElem? (i := 159) (by decide +kernel))) (by decide +kernel)⟩, by decide +kernel⟩
set_option maxRecDepth 100000 in
set_option maxHeartbeats 8000000 in
theorem hw_errorPosition (l : Launch) (D : va_G) (cy : Nat → ClassId) {EV : zEV} (hG : zGE EV) (hsub : ∀ A U H, zEw A U H → EV A U H) (ws : va_W) (x : Nat) (fs : List Value) (ao q : Nat) (f : Nat → Int64) (mc ms : Nat) (rm : Room) (P : Int32 → va_W → Prop) (X : Nat → va_W → Prop) (hM : zMy l yX5_errorPosition cX5_errorPosition 1 (some .int) rm D (zTy cy) EV ws [.ref x] mc ms P X) (hrc : rm.cells = mc) (hrs : rm.slots = ms) (hR : rm.frames ≤ 60 ∧ rm.locals ≤ 4000) (hx0 : ws[0]? = some (x, .inr (9, fs))) (hout : ∀ v w, P v w → w[q]? = some (ao, .inl (cy 4, 1, .inr (.inl f)))) (hcd : ∀ c w, X c w → c ≠ 0 → c = 6) : zMw l yL_errorPosition cL_errorPosition 3 (some .int) [(0, 8, 11, 50)] (zrw mc ms) D (zTy cy) zEw ws [.ref x, .ref ao] mc ms (tI D (zTy cy) (zPw cy q ao f Int32.toInt64 [6] P X)) := by
  refine zMw.of (by decide) (Nat.le_of_ble_eq_true rfl) ?_
  intro p e s m below meth c A C hr hE htab
  obtain ⟨hR1, hR2⟩ := hR
  refine zG_L (L' := [(0, .ref x), (1, .ref ao)]) rfl ?_
  refine g_aload_n (j := 1) C dL_errorPosition_0 rfl rfl ?_
  refine g_iconst (v := (nI 0)) C dL_errorPosition_1 (by decide) ?_
  refine g_aload_n (j := 0) C dL_errorPosition_2 rfl rfl ?_
  refine w_Yi (As := []) (rest := [.int (nI 0), .ref ao]) hG (hsub _ _ _ hE) C hM zml_RL_136 zcv_X5_errorPosition (zRec.of C (ci := 9) (q0 := 0) rfl hx0) hrc hrs ⟨by show rm.frames + 1 ≤ 61; omega, by show 8 + (1 + 11) + rm.locals ≤ 5000; omega⟩ rfl rfl (Nat.le_of_ble_eq_true rfl) ⟨by show 0 + mc ≤ mc; omega, by show 0 + ms ≤ ms; omega⟩ dL_errorPosition_3 (fun code w hX hne => ?_) (fun r w hP => ?_)
  · rcases hcd code w hX hne with rfl
    · refine ⟨11, ⟨[], ⟨0, 8, 11, 50⟩, [], zExc 6, htab, (fun _ h => nomatch h), rfl, by decide, C.2.2.2.2.1 _ zkw_50, va_tabs rfl rfl (hE.1.2.1.2.1 _ (List.mem_of_getElem? (i := 5) rfl)), rfl⟩, fun q9 => ?_⟩
      refine g_astore_n (L' := [(2, .ref q9), (0, .ref x), (1, .ref ao)]) C dL_errorPosition_11 rfl (by decide) rfl ?_
      refine g_iconst (v := (nI 1)) C dL_errorPosition_12 (by decide) ?_
      exact t_iret C hr rfl (Or.inr ⟨0, 6, rfl, hX, by decide, rfl⟩) (by show 0 + mc ≤ mc; omega) (by show 0 + ms ≤ ms; omega) dL_errorPosition_13
  · skip
    refine n_i2l C dL_errorPosition_6 ?_
    refine n_last (q0 := q) (n := 1) (ws' := w.set q (ao, .inl (cy 4, 1, .inr (.inl (vp_updL f 0 r.toInt64))))) C (hout r w hP) (nI_in (by decide) (by decide)) (by rw [nI_clamp (by decide)]) dL_errorPosition_7 ?_
    refine g_goto C dL_errorPosition_8 (tgt := 14) (by decide) ?_
    refine g_iconst (v := (nI 0)) C dL_errorPosition_14 (by decide) ?_
    exact t_iret C hr rfl (Or.inl ⟨rfl, r, w, hP, rfl⟩) (by show 0 + mc ≤ mc; omega) (by show 0 + ms ≤ ms; omega) dL_errorPosition_15
theorem zml_RL_139 : Cond.methodLink RL 139 yX5_undo ∈ zAll := zg (z_t6 (List.mem_of_getElem? (i := 168) (by decide +kernel))) (by decide +kernel)
theorem zcw_undo : zCalW RL 270 yL_undo cL_undo 3 (some .int) [(0, 8, 11, 15)] 2 := ⟨⟨zg (z_t6 (List.mem_of_getElem? (i := 165) (by decide +kernel))) (by decide +kernel), zg (z_t6 (List.mem_of_getElem? (i := 166) (by decide +kernel))) (by decide +kernel), zg (z_t1 (List.mem_of_getElem? (i := 0) (by decide +kernel))) (by decide +kernel), zg (z_t6 (List.mem_of_getElem? (i := 167) (by decide +kernel))) (by decide +kernel)⟩, by decide +kernel⟩
set_option maxRecDepth 100000 in
set_option maxHeartbeats 8000000 in
theorem hw_undo (l : Launch) (D : va_G) (cy : Nat → ClassId) {EV : zEV} (hG : zGE EV) (hsub : ∀ A U H, zEw A U H → EV A U H) (ws : va_W) (x : Nat) (fs : List Value) (ao q : Nat) (f : Nat → Int64) (mc ms : Nat) (rm : Room) (P : Int32 → va_W → Prop) (X : Nat → va_W → Prop) (hM : zMy l yX5_undo cX5_undo 1 (some .int) rm D (zTy cy) EV ws [.ref x] mc ms P X) (hrc : rm.cells = mc) (hrs : rm.slots = ms) (hR : rm.frames ≤ 60 ∧ rm.locals ≤ 4000) (hx0 : ws[0]? = some (x, .inr (9, fs))) (hout : ∀ v w, P v w → w[q]? = some (ao, .inl (cy 4, 1, .inr (.inl f)))) (hcd : ∀ c w, X c w → c ≠ 0 → c = 2) : zMw l yL_undo cL_undo 3 (some .int) [(0, 8, 11, 15)] (zrw mc ms) D (zTy cy) zEw ws [.ref x, .ref ao] mc ms (tI D (zTy cy) (zPw cy q ao f Int32.toInt64 [2] P X)) := by
  refine zMw.of (by decide) (Nat.le_of_ble_eq_true rfl) ?_
  intro p e s m below meth c A C hr hE htab
  obtain ⟨hR1, hR2⟩ := hR
  refine zG_L (L' := [(0, .ref x), (1, .ref ao)]) rfl ?_
  refine g_aload_n (j := 1) C dL_undo_0 rfl rfl ?_
  refine g_iconst (v := (nI 0)) C dL_undo_1 (by decide) ?_
  refine g_aload_n (j := 0) C dL_undo_2 rfl rfl ?_
  refine w_Yi (As := []) (rest := [.int (nI 0), .ref ao]) hG (hsub _ _ _ hE) C hM zml_RL_139 zcv_X5_undo (zRec.of C (ci := 9) (q0 := 0) rfl hx0) hrc hrs ⟨by show rm.frames + 1 ≤ 61; omega, by show 8 + (1 + 11) + rm.locals ≤ 5000; omega⟩ rfl rfl (Nat.le_of_ble_eq_true rfl) ⟨by show 0 + mc ≤ mc; omega, by show 0 + ms ≤ ms; omega⟩ dL_undo_3 (fun code w hX hne => ?_) (fun r w hP => ?_)
  · rcases hcd code w hX hne with rfl
    · refine ⟨11, ⟨[], ⟨0, 8, 11, 15⟩, [], zExc 2, htab, (fun _ h => nomatch h), rfl, by decide, C.2.2.2.2.1 _ zkw_15, va_tabs rfl rfl (hE.1.2.1.2.1 _ (List.mem_of_getElem? (i := 1) rfl)), rfl⟩, fun q9 => ?_⟩
      refine g_astore_n (L' := [(2, .ref q9), (0, .ref x), (1, .ref ao)]) C dL_undo_11 rfl (by decide) rfl ?_
      refine g_iconst (v := (nI 1)) C dL_undo_12 (by decide) ?_
      exact t_iret C hr rfl (Or.inr ⟨0, 2, rfl, hX, by decide, rfl⟩) (by show 0 + mc ≤ mc; omega) (by show 0 + ms ≤ ms; omega) dL_undo_13
  · skip
    refine n_i2l C dL_undo_6 ?_
    refine n_last (q0 := q) (n := 1) (ws' := w.set q (ao, .inl (cy 4, 1, .inr (.inl (vp_updL f 0 r.toInt64))))) C (hout r w hP) (nI_in (by decide) (by decide)) (by rw [nI_clamp (by decide)]) dL_undo_7 ?_
    refine g_goto C dL_undo_8 (tgt := 14) (by decide) ?_
    refine g_iconst (v := (nI 0)) C dL_undo_14 (by decide) ?_
    exact t_iret C hr rfl (Or.inl ⟨rfl, r, w, hP, rfl⟩) (by show 0 + mc ≤ mc; omega) (by show 0 + ms ≤ ms; omega) dL_undo_15
theorem zml_RL_142 : Cond.methodLink RL 142 yX5_restore ∈ zAll := zg (z_t6 (List.mem_of_getElem? (i := 181) (by decide +kernel))) (by decide +kernel)
theorem zcw_restore : zCalW RL 277 yL_restore cL_restore 3 (some .int) [(0, 8, 11, 15)] 2 := ⟨⟨zg (z_t6 (List.mem_of_getElem? (i := 178) (by decide +kernel))) (by decide +kernel), zg (z_t6 (List.mem_of_getElem? (i := 179) (by decide +kernel))) (by decide +kernel), zg (z_t1 (List.mem_of_getElem? (i := 0) (by decide +kernel))) (by decide +kernel), zg (z_t6 (List.mem_of_getElem? (i := 180) (by decide +kernel))) (by decide +kernel)⟩, by decide +kernel⟩
set_option maxRecDepth 100000 in
set_option maxHeartbeats 8000000 in
theorem hw_restore (l : Launch) (D : va_G) (cy : Nat → ClassId) {EV : zEV} (hG : zGE EV) (hsub : ∀ A U H, zEw A U H → EV A U H) (ws : va_W) (x : Nat) (fs : List Value) (ao q : Nat) (f : Nat → Int64) (mc ms : Nat) (rm : Room) (P : Int32 → va_W → Prop) (X : Nat → va_W → Prop) (hM : zMy l yX5_restore cX5_restore 1 (some .int) rm D (zTy cy) EV ws [.ref x] mc ms P X) (hrc : rm.cells = mc) (hrs : rm.slots = ms) (hR : rm.frames ≤ 60 ∧ rm.locals ≤ 4000) (hx0 : ws[0]? = some (x, .inr (9, fs))) (hout : ∀ v w, P v w → w[q]? = some (ao, .inl (cy 4, 1, .inr (.inl f)))) (hcd : ∀ c w, X c w → c ≠ 0 → c = 2) : zMw l yL_restore cL_restore 3 (some .int) [(0, 8, 11, 15)] (zrw mc ms) D (zTy cy) zEw ws [.ref x, .ref ao] mc ms (tI D (zTy cy) (zPw cy q ao f Int32.toInt64 [2] P X)) := by
  refine zMw.of (by decide) (Nat.le_of_ble_eq_true rfl) ?_
  intro p e s m below meth c A C hr hE htab
  obtain ⟨hR1, hR2⟩ := hR
  refine zG_L (L' := [(0, .ref x), (1, .ref ao)]) rfl ?_
  refine g_aload_n (j := 1) C dL_restore_0 rfl rfl ?_
  refine g_iconst (v := (nI 0)) C dL_restore_1 (by decide) ?_
  refine g_aload_n (j := 0) C dL_restore_2 rfl rfl ?_
  refine w_Yi (As := []) (rest := [.int (nI 0), .ref ao]) hG (hsub _ _ _ hE) C hM zml_RL_142 zcv_X5_restore (zRec.of C (ci := 9) (q0 := 0) rfl hx0) hrc hrs ⟨by show rm.frames + 1 ≤ 61; omega, by show 8 + (1 + 11) + rm.locals ≤ 5000; omega⟩ rfl rfl (Nat.le_of_ble_eq_true rfl) ⟨by show 0 + mc ≤ mc; omega, by show 0 + ms ≤ ms; omega⟩ dL_restore_3 (fun code w hX hne => ?_) (fun r w hP => ?_)
  · rcases hcd code w hX hne with rfl
    · refine ⟨11, ⟨[], ⟨0, 8, 11, 15⟩, [], zExc 2, htab, (fun _ h => nomatch h), rfl, by decide, C.2.2.2.2.1 _ zkw_15, va_tabs rfl rfl (hE.1.2.1.2.1 _ (List.mem_of_getElem? (i := 1) rfl)), rfl⟩, fun q9 => ?_⟩
      refine g_astore_n (L' := [(2, .ref q9), (0, .ref x), (1, .ref ao)]) C dL_restore_11 rfl (by decide) rfl ?_
      refine g_iconst (v := (nI 1)) C dL_restore_12 (by decide) ?_
      exact t_iret C hr rfl (Or.inr ⟨0, 2, rfl, hX, by decide, rfl⟩) (by show 0 + mc ≤ mc; omega) (by show 0 + ms ≤ ms; omega) dL_restore_13
  · skip
    refine n_i2l C dL_restore_6 ?_
    refine n_last (q0 := q) (n := 1) (ws' := w.set q (ao, .inl (cy 4, 1, .inr (.inl (vp_updL f 0 r.toInt64))))) C (hout r w hP) (nI_in (by decide) (by decide)) (by rw [nI_clamp (by decide)]) dL_restore_7 ?_
    refine g_goto C dL_restore_8 (tgt := 14) (by decide) ?_
    refine g_iconst (v := (nI 0)) C dL_restore_14 (by decide) ?_
    exact t_iret C hr rfl (Or.inl ⟨rfl, r, w, hP, rfl⟩) (by show 0 + mc ≤ mc; omega) (by show 0 + ms ≤ ms; omega) dL_restore_15
