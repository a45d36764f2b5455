section WH
variable {X Y : Nat → Nat → Int32} {a : Nat → Nat}
noncomputable def newM (a : Nat → Nat) (f d : Nat) : Nat := lenR a (nI (bestR a f d)) + flm a f 0
theorem n_newMinutes (h : zRB X 1 a) (hG : Gd a) {f d : Nat} (hf : f < a 2) (hd : d < 2 ^ 31) : f_X3_newMinutes X (nI f) (nI d) = some (nI (newM a f d)) := by
  unfold f_X3_newMinutes
  rw [n_bestReel h hG hf hd, Option.bind_some, n_reelMinutes h hG, Option.bind_some, n_flm h hG hf (by decide), nI_add]
  rfl
theorem newM_b (hG : Gd a) {f : Nat} (d : Nat) (hf : f < a 2) : 30 ≤ newM a f d ∧ newM a f d ≤ 300 := by
  have h1 := bestR_blk a f d
  have h2 : a 11 ≤ 20 := hG.1.2.2.2.2.2.2.2.2.2.2.1
  have h3 := hG.2.2.1 f hf
  unfold newM
  omega
theorem oFul.u {w : Int32} {f d : Nat} (h : oFul X a w f d) (v : Int32) : oFul (zU X 146 3 v) a w f d := by
  obtain ⟨h1, h2, h3, h4, h5⟩ := h
  refine ⟨h1.fr (zU_r _ _ _ _ (by decide)), by rw [zU_k _ _ _ _ (by decide)]; exact h2, by rw [zU_k _ _ _ _ (by decide)]; exact h3, by rw [zU_r _ _ _ _ (by decide)]; exact h4, ?_⟩
  exact oTab_keep _ _ (fun j _ => by rw [zU_r _ _ _ _ (by decide)]) h5
theorem FX.u146 (X : Nat → Nat → Int32) (k : Nat) (v : Int32) : FX X (zU X 146 k v) := ⟨zU_r _ _ _ _ (by decide), fun r _ q _ _ => zU_r _ _ _ _ q⟩
theorem FY.look (Y : Nat → Nat → Int32) (w : Int32) (h f d st en : Nat) (v : Int32) : FY Y (zU (mPut Y w h f d st en) 0 21 v) :=
  ⟨fun r hr => by rw [zU_r _ _ _ _ (by omega), mPut_r _ _ _ _ _ _ _ (by omega)], fun k q1 q2 => by rw [zU_k _ _ _ _ (by omega), mPut_k _ _ _ _ _ _ _ (by omega)]⟩
/-- both sides look at a place -/
theorem z_look {q : Nat} (h : zInv q X Y a) {w : Int32} {f d : Nat} (hF : oFul X a w f d) (hf : f < a 2) (hd : d < 60) {x st mi : Nat} (hx : x < a 1) (hst : st < 960) (hmi : 0 < mi) (hmi2 : mi < 2 ^ 20) :
    ∃ r v, r = (brk a w f d x st (st + mi)).1 ∧ v = (brk a w f d x st (st + mi)).2 ∧ f_X2_firstBroken X (nI x) (nI st) (nI (st + mi)) = some (nI r, zU X 146 3 v) ∧ f_X6_breaks Y (nI x) (nI f) (nI d) (nI st) (nI mi) w = some (nI r, zU (mPut Y w x f d st (st + mi)) 0 21 v) ∧
      zInv q (zU X 146 3 v) (zU (mPut Y w x f d st (st + mi)) 0 21 v) a ∧ oFul (zU X 146 3 v) a w f d := by
  refine ⟨_, _, rfl, rfl, n_firstBroken h.1 h.2.2.1.1 hF hf hd hx hst (by omega) (by omega), m_breaks h.2.1 h.2.2.1.1 w hf hd hx hst hmi hmi2, ?_, hF.u _⟩
  have hFY := FY.look Y w x f d st (st + mi) (brk a w f d x st (st + mi)).2
  refine h.fr (zRB_cong (fun r _ q2 => zU_r _ _ _ _ (by omega)) h.1) ?_ h.2.2.1 (FX.u146 X 3 _) (h.con.fr (zU_r _ _ _ _ (by decide))) hFY
  rw [zU_r _ _ _ _ (by decide), mPut_r _ _ _ _ _ _ _ (by decide)]
  exact h.2.1
/-- the class takes a show up -/
theorem z_take {q : Nat} (h : zInv q X Y a) (w : Int32) {f d : Nat} (hf : f < a 2) (hd : d < 60) : ∃ X1, f_X2_takeUp X w (nI f) (nI d) = some X1 ∧ zInv q X1 Y a ∧ oFul X1 a w f d ∧ FX X X1 := by
  have c2 := h.2.2.1.1.c2
  obtain ⟨X1, e, k, hF⟩ := n_takeUp h.1 h.2.2.1.1 h.con w (f := f) (d := d) (by omega) (by omega)
  have hFX : FX X X1 := ⟨k 0 (by decide) (by decide) (by decide), fun r _ q1 q2 q3 => k r q1 q2 q3⟩
  exact ⟨X1, e, h.fr (zRB_cong (fun r _ q2 => k r (by omega) (by omega) (by omega)) h.1) h.2.1 h.2.2.1 hFX hF.1 (FY.rf Y), hF, hFX⟩
theorem place_cases (x y : Int32) : (f_X6_isPlace x y = nI 0 ∧ (f_X5_isDay x = nI 0 ∨ f_X5_isDay x = nI 1 ∧ f_X5_isMinute y = nI 0)) ∨ (f_X6_isPlace x y = nI 1 ∧ f_X5_isDay x = nI 1 ∧ f_X5_isMinute y = nI 1 ∧ (∃ d, d < 60 ∧ x = nI d) ∧ ∃ s, s < 960 ∧ y = nI s) := by
  unfold f_X6_isPlace
  rcases day_cases x with ⟨e1, e2⟩ | ⟨e1, e2, d, hd, rfl⟩
  · rw [e2, if_pos nI_0]; exact Or.inl ⟨rfl, Or.inl e1⟩
  · rw [e2, if_neg nI_10]
    rcases minute_cases y with ⟨e3, e4⟩ | ⟨e3, e4, s, hs, rfl⟩
    · rw [e4, if_pos nI_0]; exact Or.inl ⟨rfl, Or.inr ⟨e1, e3⟩⟩
    · rw [e4, if_neg nI_10]; exact Or.inr ⟨rfl, e1, e3, ⟨d, hd, rfl⟩, s, hs, rfl⟩
theorem m_newMinutes (hR : RM (Y 1) a) (hG : Gd a) {f d : Nat} (hf : f < a 2) (hd : d < 2 ^ 31) {β : Type} (F : Int32 → Option β) : ((f_X6_bestReel Y (nI f) (nI d)).bind fun q_6 => ((f_X6_lengthOf Y q_6).bind fun q_8 => ((f_X6_filmAt Y (nI f) (nI 0)).bind fun q_10 => F (q_8 + q_10)))) = F (nI (newM a f d)) := by
  have c2 := hG.c2
  rw [m_bestReel hR hG hf hd, Option.bind_some, m_lengthOf hR hG, Option.bind_some, m_flm hR (by omega) (by decide), Option.bind_some, nI_add]
  rfl
theorem sim_why (h : zInv 0 X Y a) (v1 v2 v3 v4 v5 : Int32) : zSim X Y K31 (f_X5_why X v1 v2 v3 v4 v5) (f_X6_why Y v1 v2 v3 v4 v5) := by
  have hB := h.1
  have hR := h.2.1
  have hG := h.2.2.1
  unfold f_X5_why f_X6_why
  rcases hall_cases hB hR hG.1 v1 with ⟨e1, e2⟩ | ⟨e1, e2, x, hx, rfl⟩
  · rw [e1, e2, if_pos nI_0, if_pos nI_0]
    exact .no h (zTxt.rf Y) (by decide) rfl
  rw [e1, e2, if_neg nI_10, if_neg nI_10]
  rcases film_cases hB hR hG.1 v2 with ⟨e1, e2⟩ | ⟨e1, e2, f, hf, rfl⟩
  · rw [e1, e2, if_pos nI_0, if_pos nI_0]
    exact .no h (zTxt.rf Y) (by decide) rfl
  rw [e1, e2, if_neg nI_10, if_neg nI_10]
  rcases place_cases v3 v4 with ⟨e1, e2 | ⟨e2, e3⟩⟩ | ⟨e1, e2, e3, ⟨d, hd, rfl⟩, st, hst, rfl⟩
  · rw [e1, e2, if_pos nI_0, if_pos nI_0]
    exact .no h (zTxt.rf Y) (by decide) rfl
  · rw [e1, e2, e3, if_neg nI_10, if_pos nI_0, if_pos nI_0]
    exact .no h (zTxt.rf Y) (by decide) rfl
  rw [e1, e2, e3, if_neg nI_10, if_neg nI_10, if_neg nI_10]
  obtain ⟨X1, et, h1, hF, -⟩ := z_take h (-1) hf hd
  have hm := newM_b hG.1 d hf
  obtain ⟨r, v, -, -, eb, em, h2, -⟩ := z_look h1 hF hf hd hx hst (mi := newM a f d) (by omega) (by omega)
  unfold f_X6_breaksNew
  rw [et, Option.bind_some, n_newMinutes h1.1 hG.1 hf (by omega), Option.bind_some, nI_add, eb, Option.bind_some, m_newMinutes hR hG.1 hf (by omega) (fun z => ((f_X6_breaks Y (nI x) (nI f) (nI d) (nI st) z (-1 : Int32)).bind fun q_7 => some (q_7.1, q_7.2))), em, Option.bind_some, Option.bind_some]
  have hT := (FY.look Y (-1) x f d st (st + newM a f d) v).txt
  by_cases c : v5 = 0
  · rw [if_pos c, if_pos c]
    exact .ok h2 hT rfl rfl
  · rw [if_neg c, if_neg c]
    exact .ok h2 hT rfl (by show zU X1 146 3 v 146 3 = zU (mPut Y (-1) x f d st (st + newM a f d)) 0 21 v 0 21; rw [zU_s, zU_s])
theorem sim_firstStart (h : zInv 0 X Y a) (v1 v2 v3 v4 : Int32) : zSim X Y K316 (f_X5_firstStart X v1 v2 v3 v4) (f_X6_firstStart Y v1 v2 v3 v4) := by
  have hB := h.1
  have hR := h.2.1
  have hG := h.2.2.1
  unfold f_X5_firstStart f_X6_firstStart
  rcases hall_cases hB hR hG.1 v1 with ⟨e1, e2⟩ | ⟨e1, e2, x, hx, rfl⟩
  · rw [e1, e2, if_pos nI_0, if_pos nI_0]
    exact .no h (zTxt.rf Y) (by decide) rfl
  rw [e1, e2, if_neg nI_10, if_neg nI_10]
  rcases film_cases hB hR hG.1 v2 with ⟨e1, e2⟩ | ⟨e1, e2, f, hf, rfl⟩
  · rw [e1, e2, if_pos nI_0, if_pos nI_0]
    exact .no h (zTxt.rf Y) (by decide) rfl
  rw [e1, e2, if_neg nI_10, if_neg nI_10]
  rcases place_cases v3 v4 with ⟨e1, e2 | ⟨e2, e3⟩⟩ | ⟨e1, e2, e3, ⟨d, hd, rfl⟩, st, hst, rfl⟩
  · rw [e1, e2, if_pos nI_0, if_pos nI_0]
    exact .no h (zTxt.rf Y) (by decide) rfl
  · rw [e1, e2, e3, if_neg nI_10, if_pos nI_0, if_pos nI_0]
    exact .no h (zTxt.rf Y) (by decide) rfl
  rw [e1, e2, e3, if_neg nI_10, if_neg nI_10, if_neg nI_10]
  obtain ⟨X1, et, h1, hF, -⟩ := z_take h (-1) hf hd
  have hm := newM_b hG.1 d hf
  rw [et, Option.bind_some, n_newMinutes h1.1 hG.1 hf (by omega), Option.bind_some, m_newMinutes hR hG.1 hf (by omega) (fun z => f_X6_firstStart_L60 (fun X_1017 v6_1016 => (zlet (f_X6_done X_1017 v6_1016) fun q_1018 => some (q_1018.1, q_1018.2))) (fun X_1020 => (zlet (f_X6_fails X_1020 (nI 3)) fun q_1021 => some (q_1021.1, q_1021.2))) (nI x) (nI f) (nI d) z zFuel Y (nI st))]
  have key : ∀ (n s fu : Nat) (X2 Y2 : Nat → Nat → Int32), s + n = 960 → n < fu → zInv 0 X2 Y2 a → oFul X2 a (-1) f d → zTxt Y Y2 →
      zSim X Y K316 (f_X5_firstStart_L92 (fun X_1013 => some (6, 0, X_1013)) (nI x) (nI (newM a f d)) fu X2 (nI s)) (f_X6_firstStart_L60 (fun X_1017 v6_1016 => (zlet (f_X6_done X_1017 v6_1016) fun q_1018 => some (q_1018.1, q_1018.2))) (fun X_1020 => (zlet (f_X6_fails X_1020 (nI 3)) fun q_1021 => some (q_1021.1, q_1021.2))) (nI x) (nI f) (nI d) (nI (newM a f d)) fu Y2 (nI s)) := by
    intro n
    induction n with
    | zero =>
      intro s fu X2 Y2 hs hfu hI hF2 hT
      obtain ⟨fu', rfl, -⟩ := fu_s hfu
      rw [f_X5_firstStart_L92, f_X6_firstStart_L60, if_pos (nI_le (by omega) (by omega)), if_pos (nI_le (by omega) (by omega))]
      exact .no hI hT (by decide) rfl
    | succ n ih =>
      intro s fu X2 Y2 hs hfu hI hF2 hT
      obtain ⟨fu', rfl, hf2⟩ := fu_s hfu
      obtain ⟨r, v, er, -, eb, em, h2, hF3⟩ := z_look hI hF2 hf hd hx (st := s) (by omega) (mi := newM a f d) (by omega) (by omega)
      have hT2 := hT.tr (FY.look Y2 (-1) x f d s (s + newM a f d) v).txt
      rw [f_X5_firstStart_L92, f_X6_firstStart_L60, if_neg (nI_ge (by omega) (by omega)), if_neg (nI_ge (by omega) (by omega)), nI_add, eb, Option.bind_some, em, Option.bind_some, nI_1]
      by_cases c : nI r = 0
      · rw [if_pos c, if_pos c]
        exact .ok h2 hT2 rfl rfl
      · rw [if_neg c, if_neg c]
        exact ih (s + 1) fu' _ _ (by omega) (hf2 n rfl) h2 hF3 hT2
  exact key (960 - st) st zFuel X1 Y (by omega) (by show 960 - st < 5000; omega) h1 hF (zTxt.rf Y)
end WH
