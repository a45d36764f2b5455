/-! THE CLAIM: laid by wip/whole/mkwhole.py out of kit/laws/SKELETON.whole (a starting text) -/
theorem zkl_RL_8 : Cond.classLink RL 8 RX5 ∈ zAll := zg (z_t1 (List.mem_of_getElem? (i := 31) (by decide +kernel))) (by decide +kernel)
theorem zkl_RL_146 : Cond.classLink RL 146 RX6 ∈ zAll := zg (z_t6 (List.mem_of_getElem? (i := 190) (by decide +kernel))) (by decide +kernel)
theorem zml_RL_145 : Cond.methodLink RL 145 yX5_init ∈ zAll := zg (z_t1 (List.mem_of_getElem? (i := 33) (by decide +kernel))) (by decide +kernel)
theorem zml_RL_148 : Cond.methodLink RL 148 yX6_init ∈ zAll := zg (z_t6 (List.mem_of_getElem? (i := 192) (by decide +kernel))) (by decide +kernel)
theorem zni_RX5 : Cond.initialized RX5 ∈ zAll := zg (z_t1 (List.mem_of_getElem? (i := 1) (by decide +kernel))) (by decide +kernel)
theorem zns_RX5 : Cond.instantiable RX5 11 ∈ zAll := zg (z_t1 (List.mem_of_getElem? (i := 32) (by decide +kernel))) (by decide +kernel)
theorem zni_RX6 : Cond.initialized RX6 ∈ zAll := zg (z_t1 (List.mem_of_getElem? (i := 12) (by decide +kernel))) (by decide +kernel)
theorem zns_RX6 : Cond.instantiable RX6 27 ∈ zAll := zg (z_t6 (List.mem_of_getElem? (i := 191) (by decide +kernel))) (by decide +kernel)
theorem znr_long : Cond.arrayClass .long ∈ zAll := zg (z_t8 (List.mem_of_getElem? (i := 201) (by decide +kernel))) (by decide +kernel)
theorem znr_double : Cond.arrayClass .double ∈ zAll := zg (z_t8 (List.mem_of_getElem? (i := 202) (by decide +kernel))) (by decide +kernel)
theorem zci_X5_init : zCalI yX5_init cX5_init 1 0 := ⟨zg (z_t1 (List.mem_of_getElem? (i := 34) (by decide +kernel))) (by decide +kernel), zg (z_t1 (List.mem_of_getElem? (i := 1) (by decide +kernel))) (by decide +kernel), zg (z_t1 (List.mem_of_getElem? (i := 35) (by decide +kernel))) (by decide +kernel), rfl, by decide +kernel⟩
theorem zci_X6_init : zCalI yX6_init cX6_init 2 0 := ⟨zg (z_t6 (List.mem_of_getElem? (i := 193) (by decide +kernel))) (by decide +kernel), zg (z_t1 (List.mem_of_getElem? (i := 12) (by decide +kernel))) (by decide +kernel), zg (z_t6 (List.mem_of_getElem? (i := 194) (by decide +kernel))) (by decide +kernel), rfl, by decide +kernel⟩
theorem zpSt (C B1 B2 M : va_W) (o od : Nat × va_E) : (C ++ (B1 ++ (B2 ++ (o :: od :: M)))).Perm (od :: o :: (M ++ (C ++ (B1 ++ (B2 ++ []))))) := by
  refine (zpM C B1 B2 M o od).symm.trans ?_
  have h : M ++ (C ++ (B1 ++ (B2 ++ [o, od]))) = (M ++ (C ++ (B1 ++ (B2 ++ [])))) ++ [o, od] := by simp only [List.append_assoc, List.nil_append]
  rw [h]
  exact List.perm_append_comm.trans (List.Perm.swap _ _ _)
/-! THE CLAIM OUT OF ONE WALK OF THE LAW'S BODY. Your part is whole_start (and what it stands on); all else here is the same for every law, but numbers. -/
def R_law : String := "CinemaProgrammeLaw"
def lw_P (b : Addr) (xs : List Int32) (args : Array Value) (s : State) : Prop := args = #[.ref b] ∧ s.IntsAt b xs ∧ xs.length ≤ 3072 ∧ (Jvm.Cond.and given_1 narrow_1).before args s = true
/-- what a walk over the start with the record d0 says of its end, said of the start itself -/
theorem lw_closed {s t : State} {o : Outcome} {d0 : Drawn} {L : List Loc} {k n : Nat} (hd0 : s.drawn.sameBut d0 lw_cs) (hv : ∃ v, o = .returned v) (hW : (s.setDrawn d0).WarmedH t.vm) (hs : (s.setDrawn d0).sameButNew ({ t with vm := s.vm } : State) L k n) : State.butDraws s t lw_cs (fun t1 => Framed s o t1 L k n) := by
  have h2 : t.drawn = d0 := congrArg State.drawn hs.1
  refine ⟨⟨hv, hW, State.sameButNew.setDrawn hs s.drawn⟩, ?_, by decide⟩
  rw [h2]
  exact hd0
def lw_Q (_ : Array Value) (s : State) (o : Outcome) (t : State) : Prop := o = .returned (some (.int 1)) ∧ State.butDraws s t lw_cs (fun t1 => Framed s o t1 [] 603072 7194730)
def lw_Z (below : List Frame) (a : Array Value) (s : State) : State → Prop := fun t => ∃ o, t.status = .running ∧ Ended t below o ∧ lw_Q a s o t
/-- the law's own end, with 1 on the stack, nothing written that was there before, its room as the claim has it; d0: the record of draws at this point (at the entry s.drawn: begin with 'refine W.base ?_' and 'have hd0 := Drawn.sameBut.refl s.drawn lw_cs') -/
theorem lw_ret {p : Program} {l : Launch} {e : Env} {s : State} {m : MethodId} {below : List Frame} {meth : Method} {c : Code} {b : Nat} {d0 : Drawn} (hd0 : s.drawn.sameBut d0 lw_cs) (hx : p.tables.exec = Jvm.exec) (hb : c.code = code) (hr : meth.sig.returnType = ret) (hlocks : meth.locks = false) {pc : Nat} {H : Heap} {ls : Array Slot} (hdg : decode code pc = .ok (.ireturn, 1)) : W p l e room_1 (s.setDrawn d0) m #[Value.ref b] below meth c H [] 603072 7194730 (lw_Z below #[Value.ref b] s) (F0 m pc ls [.int 1]) := by
  intro T hT X
  obtain ⟨fs, hret, hrun, hended, hW, hframe⟩ := X.leave (v := some (.int 1)) (hlocks := hlocks) (fun h => by rw [hr] at h; cases h)
  have hmeth' : T.vm.method? m = some meth := X.method'
  refine ⟨T.setFrames fs, ?_, .returned (some (.int 1)), hrun, hended, rfl, lw_closed hd0 ⟨_, rfl⟩ hW hframe⟩
  jvm_step X.here [X.here.top, hx, hb, hdg, hmeth', hr, ret, narrow_b1]
  (try refine ⟨rfl, ?_⟩); (try refine ⟨rfl, ?_⟩)
  first | (intro acts; rw [hret _ acts rfl rfl rfl]) | rw [hret _ _ rfl rfl rfl]
  exact Steps.refl _
/-- what holds at the law's entry: the machine, the code, the tables' words (any of lw_tbl by 'hts w (by decide +kernel)'), the script of L ints xs at the cell b, what the Statement gives of the start (any of its parts by flat_of_before) -/
def lw_At (p : Program) (s : State) (m : MethodId) (meth : Method) (c : Code) (b L : Nat) (xs : Nat → Int32) : Prop :=
  p.tables.exec = Jvm.exec ∧ c.code = code ∧ meth.sig.returnType = ret ∧ c.maxLocals = 9 ∧ s.vm.findClass R_law = some m.cls ∧ (∀ w ∈ lw_tbl, w.before #[Value.ref b] s = true) ∧ va_X b L xs s s.heap ∧ b < s.heap.size ∧ meth.locks = false ∧ (Jvm.Cond.and given_1 narrow_1).before #[Value.ref b] s = true
set_option maxRecDepth 100000 in
set_option maxHeartbeats 8000000 in
theorem whole_start {p : Program} {e : Env} {s : State} {m : MethodId} {below : List Frame} {meth : Method} {c : Code} (l : Launch) (hflags : l.flags = flags0) {b L : Nat} {xs : Nat → Int32} (hL : L ≤ 3072) (C0 : lw_At p s m meth c b L xs) : W p l e room_1 s m #[Value.ref b] below meth c s.heap [] 0 0 (lw_Z below #[Value.ref b] s) (entryFrame m ([Value.ref b] : List Value).toArray 9) := by
  obtain ⟨hx, hb, hr, hml, hown, hts, hX, hbl, hlocks, hgv⟩ := id C0
  obtain ⟨D, cy, hK⟩ := zs_K hts
  obtain ⟨A, hAd⟩ : ∃ A : Nat → Prop, A = fun q : Nat => s.heap.size ≤ q := ⟨_, rfl⟩
  have hAn : ∀ a : Nat, a < s.heap.size → ¬ A a := fun a h => by rw [hAd]; exact Nat.not_le.mpr h
  have hE : zEl A s s.heap := zs_El hts hgv hAn
  have hEi : zEi A s s.heap := zs_Ei hts hgv hAn
  have C : zC p s m #[Value.ref b] meth c code 9 RL D (zTy cy) A := ⟨hx, hb, hml, hown, fun w hw => hts w (List.mem_filter.mp hw).1, hK, fun q h => by rw [hAd]; exact h, hlocks⟩
  have hlt : l.stackTraces = false := by
    unfold Launch.stackTraces
    rw [hflags]
    decide
  have hP : va_P D vwCl [] s.heap := fun k q h => by simp at h
  have hD : va_D A [] := ⟨fun i j p q h => by simp at h, fun k q h => by simp at h⟩
  have hl := lv_entry ([.ref b]) (n := 9) (Nat.le_of_ble_eq_true rfl)
  rw [lg_entry_eq]
  refine (?_ : zG p l e room_1 s m #[Value.ref b] below meth c 9 D A 0 0 (lw_Z below #[Value.ref b] s) [] 0 [(0, .ref b)] []) s.heap [] _ hP hD va_S.rf hl
  refine n_new (ci := 9) (N := 11) (ty0 := tyX5) (fs := [.null, .null, .null, .null, .null, .null, .null, .int 0, .int 0, .int 0, .int 0]) C zin_RX5 tyX5_ok zkl_RL_8 zns_RX5 zni_RX5 rfl (by decide) (Nat.le_of_ble_eq_true rfl) (Nat.le_of_ble_eq_true rfl) dL_law_0 (fun q1 => ?_)
  refine g_dup C dL_law_3 rfl ?_
  refine n_init (As := []) (rest := [.ref q1]) zEi_ge hEi C (c_X5_init l D cy [] q1) zml_RL_145 zci_X5_init rfl rfl ⟨Nat.le_of_ble_eq_true rfl, Nat.le_of_ble_eq_true rfl⟩ rfl rfl (Nat.le_of_ble_eq_true rfl) ⟨Nat.le_of_ble_eq_true rfl, Nat.le_of_ble_eq_true rfl⟩ dL_law_4 ?_
  intro w h
  obtain ⟨ad, v1, v2, had, rfl⟩ := h
  subst had
  refine g_astore_n (L' := [(1, .ref (ad 0)), (0, .ref b)]) C dL_law_7 rfl (by decide) rfl ?_
  refine n_new (ci := 10) (N := 27) (ty0 := tyX6) (fs := [.int 0, .null, .null, .int 0, .null, .int 0, .null, .int 0, .int 0, .int 0, .null, .int 0, .int 0, .null, .int 0, .int 0, .int 0, .int 0, .int 0, .int 0, .int 0, .int 0, .int 0, .int 0, .int 0, .int 0, .null]) C zin_RX6 tyX6_ok zkl_RL_146 zns_RX6 zni_RX6 rfl (by decide) (Nat.le_of_ble_eq_true rfl) (Nat.le_of_ble_eq_true rfl) dL_law_8 (fun q2 => ?_)
  refine g_dup C dL_law_11 rfl ?_
  refine n_init (As := []) (rest := [.ref q2]) zEi_ge hEi C (c_X6_init l D cy (zW cy ad shC (tB cy (ad 152) v1 16 0 0 (fun _ => 0) ++ (tB cy (ad 153) v2 16 0 0 (fun _ => 0) ++ [])) zX0) q2) zml_RL_148 zci_X6_init rfl rfl ⟨Nat.le_of_ble_eq_true rfl, Nat.le_of_ble_eq_true rfl⟩ rfl rfl (Nat.le_of_ble_eq_true rfl) ⟨Nat.le_of_ble_eq_true rfl, Nat.le_of_ble_eq_true rfl⟩ dL_law_12 ?_
  intro w h
  obtain ⟨adM, had, rfl⟩ := h
  subst had
  refine g_astore_n (L' := [(2, .ref (adM 0)), (1, .ref (ad 0)), (0, .ref b)]) C dL_law_15 rfl (by decide) rfl ?_
  refine g_iconst (v := nI 1) C dL_law_16 (by decide) ?_
  refine n_newa (k := 4) (ty := .long) (a0 := (1, .inr (.inl (fun _ => 0)))) (N := 1) C rfl (fun _ h => nomatch h) rfl znr_long (fun _ => rfl) (nI_pos (by decide)) (nI_clamp (by decide)) (Nat.le_of_ble_eq_true rfl) (Nat.le_of_ble_eq_true rfl) (Nat.le_of_ble_eq_true rfl) dL_law_17 (fun ao => ?_)
  refine g_astore_n (L' := [(3, .ref ao), (2, .ref (adM 0)), (1, .ref (ad 0)), (0, .ref b)]) C dL_law_19 rfl (by decide) rfl ?_
  refine g_iconst (v := nI 1) C dL_law_20 (by decide) ?_
  refine n_newa (k := 5) (ty := .double) (a0 := (1, .inr (.inr (.inr (.inl (fun _ => 0)))))) (N := 1) C rfl (fun _ h => nomatch h) rfl znr_double (fun _ => rfl) (nI_pos (by decide)) (nI_clamp (by decide)) (Nat.le_of_ble_eq_true rfl) (Nat.le_of_ble_eq_true rfl) (Nat.le_of_ble_eq_true rfl) dL_law_21 (fun aod => ?_)
  refine g_astore (L' := [(4, .ref aod), (3, .ref ao), (2, .ref (adM 0)), (1, .ref (ad 0)), (0, .ref b)]) C dL_law_23 (by decide) rfl ?_
  refine g_iconst (v := nI 0) C dL_law_25 (by decide) ?_
  refine g_istore (L' := [(5, .int (nI (6 * 0))), (4, .ref aod), (3, .ref ao), (2, .ref (adM 0)), (1, .ref (ad 0)), (0, .ref b)]) C dL_law_26 (by decide) rfl ?_
  refine zG.less (ws' := zW cy ad shC (zLT cy adM (tB cy (ad 152) v1 16 0 0 (fun _ => 0)) (tB cy (ad 153) v2 16 0 0 (fun _ => 0)) (zOut cy ao (fun _ => 0)) (zOuD cy aod (fun _ => 0)) zY0) zX0) (l' := zOuD cy aod (fun _ => 0) :: zOut cy ao (fun _ => 0) :: zW cy adM shM (zW cy ad shC (tB cy (ad 152) v1 16 0 0 (fun _ => 0) ++ (tB cy (ad 153) v2 16 0 0 (fun _ => 0) ++ [])) zX0) zY0) (zpSt _ _ _ _ _ _) (List.Sublist.refl _) ?_
  refine zG.wide (k := 400 + 200 * 0) (n := 20000 + 3200 * 0) (Nat.le_of_ble_eq_true rfl) (Nat.le_of_ble_eq_true rfl) ?_
  refine law_loop C hE hlt hX hbl (hAn b hbl) hL (fun j w hj => ?_) (L / 6 + 1) 0 _ (by omega) (by omega) ⟨v1, 16, 0, 0, fun _ => 0, fun _ => 0, v2, 16, 0, 0, fun _ => 0, fun _ => 0, fun _ => 0, fun _ => 0, zX0, zY0, za0, rfl, z0_inv, ⟨z0_in _, z0_lat _ _, z0_fit, Nat.zero_le _, by decide⟩, ⟨z0_out _, z0_lat _ _, z0_fit, Nat.zero_le _, by decide, by decide⟩⟩
  refine g_iconst (v := 1) C dL_law_2825 (by decide) ?_
  intro H locs ls hP hD hS hl
  refine va_forget (fun q hq => by have h := hS.2.2 q hq; rw [hAd] at h; exact h) ?_
  refine W.widen (k := 603072) (n := 7194730) (by omega) (by omega) ?_
  exact W.base (lw_ret (d0 := s.drawn) (Drawn.sameBut.refl s.drawn lw_cs) hx hb hr hlocks dL_law_2826)
set_option maxHeartbeats 4000000 in
theorem lw_walk (l : Launch) (hflags : l.flags = flags0) (b : Addr) (xs : List Int32) : MetFree l x (headSpec (Jvm.Cond.code x code maxLocals ret :: tables_1) room_1) (lw_P b xs) (fun _ _ _ _ _ => True) lw_Q := by
  refine MetFree.of_bodyS (code := code) (maxLocals := maxLocals) (ret := ret) (by decide) ?_ ?_
  · intro args s m h hn
    obtain ⟨meth, c, h1, h2, h3, h4, h5, h6, -, -⟩ := Cond.code_spec hn (atoms_spec (ws := Jvm.Cond.code x code maxLocals ret :: tables_1) h _ List.mem_cons_self)
    exact ⟨meth, c, h1, h2, h3, h4, h5, h6⟩
  · intro p e s m args below meth c s₁ B hml0 hP _
    obtain ⟨rfl, hx, hbd, hgv⟩ := hP
    obtain ⟨scr, harrAt, hlist, hof, hsmall⟩ := hx
    obtain ⟨hcb, hkn, -, -⟩ := State.arrayAt?_spec harrAt
    have hown : s.vm.findClass R_law = some m.cls := findClass_of_methodNamed B.named
    have hts0 : ∀ c ∈ (Jvm.Cond.code x code maxLocals ret :: tables_1), c.before #[Value.ref b] s = true := atoms_spec (ws := Jvm.Cond.code x code maxLocals ret :: tables_1) B.pre
    have hts : ∀ w ∈ lw_tbl, w.before #[Value.ref b] s = true := k2_hts_sels lw_privs (fun w hw => hts0 w (List.mem_cons_of_mem _ hw)) lw_privs_ok
    have hml : c.maxLocals = 9 := B.maxLocals_eq (hts0 _ List.mem_cons_self)
    have X₀ : Stand p l e room_1 s m #[Value.ref b] below meth c s₁ [] 0 0 := Stand.of_body B
    have hh0 : s₁.heap = s.heap := by rw [B.state]; rfl
    have hsz : scr.slots.size = xs.length := by rw [← Array.length_toList, hlist, List.length_map]
    have hval : ∀ j : Nat, j < xs.length → scr.slots[j]? = some (.int (xs.getD j 0)) := fun j hj => by
      rw [← Array.getElem?_toList, hlist]
      simp [hj]
    have hbl : b < s.heap.size := (Array.getElem?_eq_some_iff.mp hcb).1
    have hX : va_X b xs.length (fun j => xs.getD j 0) s s.heap := ⟨scr, hcb, hof, hkn, hsz, hval⟩
    have K : W p l e room_1 s m #[Value.ref b] below meth c s₁.heap [] 0 0 (lw_Z below #[Value.ref b] s) (entryFrame m ([Value.ref b] : List Value).toArray 9) := by
      rw [hh0]
      exact whole_start l hflags hbd ⟨B.exec, B.bytes, B.returns, hml, hown, hts, hX, hbl, B.notSynchronized, hgv⟩
    obtain ⟨t, a1, o, b1, b2, b3⟩ := K s₁ rfl X₀
    exact ⟨t, o, a1, b1, b2, b3⟩
theorem lw_pre_spec {args : Array Value} {s : State} (h : (Jvm.Cond.and given_1 narrow_1).before args s = true) (hr : rest_1_c.before args s = true) : ∃ (b : Addr) (xs : List Int32), lw_P b xs args s := by
  have hs := flat_of_before _ h
  have hq := flat_of_before _ hr
  have hc : (Cond.count 1).before args s = true := hs _ (by decide +kernel)
  have harr : (Cond.arrayOf (.arg 0) .int).before args s = true := hs _ (by decide +kernel)
  have hle : (Cond.le (.length (.arg 0)) (.int 3072)).before args s = true := hs _ (by decide +kernel)
  have hlen : (Cond.isInt (.length (.arg 0))).before args s = true := hq _ (by decide +kernel)
  have hall : (Cond.all (.arg 0) (.isInt (.elem (.arg 0) (.index 0)))).before args s = true := hq _ (by decide +kernel)
  obtain ⟨b, xs, hb, hx⟩ := State.ints_of_pre rfl harr hlen hall
  have hsm : xs.length < 2 ^ 31 := hx.choose_spec.2.2.2
  have hev : (Term.length (.arg 0)).eval args s none [] s = some (.int xs.length.toInt32) := hx.length_eval hb
  have hv := Cond.le_ints hev (show (Term.int 3072).eval args s none [] s = some (.int 3072) from rfl)
  have hd : xs.length.toInt32 ≤ 3072 := by
    simpa [Cond.before, Cond.holds, hv] using hle
  have hN : xs.length ≤ 3072 := (Int32.ofNat_le_ofNat hsm (by decide)).mp (show Int32.ofNat xs.length ≤ Int32.ofNat 3072 from hd)
  exact ⟨b, xs, Cond.one_arg hc (show args[0]? = some (.ref b) from hb), hx, hN, h⟩
theorem lw_comes (l : Launch) (hflags : l.flags = flags0) : Comes l x (Jvm.Cond.code x code maxLocals ret :: tables_1) room_1 (fun tb e args s => Calls_1 tb e args s ∧ rest_1 tb e args s ∧ Pre_1 tb e args s)
    (fun _ _ args s o t => lw_Q args s o t) := by
  intro p e ha hc hk s m args below hf hfit hheap happ hpre
  obtain ⟨b, xs, hP⟩ := lw_pre_spec hpre.2.2 hpre.2.1
  obtain ⟨k, o, h1, h2, h3, hQ⟩ := lw_walk l hflags b xs p e ha hc hk s m args below hf ((Spec.applies_iff_loose hf).mp happ).1 hP trivial
  exact ⟨k, o, h1, h2, h3, hQ⟩
theorem lw_frame {s t : State} {o : Outcome} {args : Array Value} (h : State.butDraws s t lw_cs (fun t1 => Framed s o t1 [] 603072 7194730)) :
    State.butDraws s t [Jvm.Choice.named "NaN.bits"] (fun t1 => Framed s o t1 (fieldLocs frame_1_writes args s ++ arrayLocs frame_1_arrays args s ++ staticLocs frame_1_statics s) 603072 7194730) := h
theorem lw_limb (L : Cond) (hL : ∀ (args : Array Value) (s t : State), L.after args s (.returned (some (.int 1))) t = true) :
    ArmFor flags0 classFile x code maxLocals ret World_1 tables_1 room_1 Calls_1 rest_1 Pre_1
      (fun tb e a s o t => postC L tb e a s o t ∧ State.butDraws s t [Jvm.Choice.named "NaN.bits"] (fun t1 => Framed s o t1 (fieldLocs frame_1_writes a s ++ arrayLocs frame_1_arrays a s ++ staticLocs frame_1_statics s) 603072 7194730)) := by
  intro l hflags _ _ p e ha hc hk s m args below hf hfit hheap happ hpre
  obtain ⟨k, o, h1, h2, h3, rfl, hF⟩ := lw_comes l hflags p e ha hc hk s m args below hf hfit hheap happ hpre
  exact ⟨k, _, h1, h2, h3, hL args s _, lw_frame hF⟩
theorem i_vc : Claimed_1_1 ∧ Claimed_1_2 := ⟨lw_limb limb_1_1 (fun args s t => by simp [limb_1_1, Cond.after, Cond.holds, Cond.value]), lw_limb limb_1_2 (fun args s t => Cond.after_iff.mpr (by
  first | (rw [show limb_1_2 = Cond.eq .result (.int 1) from rfl, Cond.eq_ints (x := 1) (y := 1) rfl rfl]; simp; done) | (simp [limb_1_2, Cond.value, Term.eval]; done)))⟩
