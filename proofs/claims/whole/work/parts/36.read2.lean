def K316 (c : Nat) : Nat := match c with
  | 0 => 0
  | 3 => 1
  | 1 => 2
  | _ => 3
def K61 (c : Nat) : Nat := match c with
  | 0 => 0
  | 6 => 1
  | _ => 2
def K1 (c : Nat) : Nat := match c with
  | 0 => 0
  | _ => 1
section R2
variable {X Y : Nat → Nat → Int32} {a : Nat → Nat}
theorem nI_ix {n : Nat} (h : n < 580) : ¬ (nI n < 0 ∨ 580 ≤ (nI n).toNatClampNeg) := nI_in h (by decide)
theorem sim_share (h : zRB X 1 a) (hR : RM (Y 1) a) (hG : Gd a) (v1 v2 : Int32) : zSimR X Y K316 (some (f_X5_share X v1 v2)) (f_X6_share Y v1 v2) := by
  unfold f_X5_share f_X6_share
  rcases film_cases h hR hG v1 with ⟨e1, e2⟩ | ⟨e1, e2, x, hx, rfl⟩
  · rw [e1, e2, if_pos nI_0, if_pos nI_0]
    exact .mk 3 0 (nI 0) rfl rfl (by decide)
  · rw [e1, e2, if_neg nI_10, if_neg nI_10]
    have h1 := hG.c2
    have hF := hG.2.2.1 x hx
    rcases day_cases v2 with ⟨e3, e4⟩ | ⟨e3, e4, d, hd, rfl⟩
    · rw [e3, e4, if_pos nI_0, if_pos nI_0]
      exact .mk 1 0 (nI 0) rfl rfl (by decide)
    · rw [e3, e4, if_neg nI_10, if_neg nI_10, n_flm h hG hx (by decide), m_flm hR (by omega) (by decide), Option.bind_some]
      by_cases hc : flm a x 4 ≤ d
      · rw [if_pos (nI_le hc (by omega)), if_pos (nI_le hc (by omega)), n_shareOn h hG hx hd hc, m_shareOn hR hG hx hd hc]
        exact .mk 0 _ _ rfl rfl (fun _ => rfl)
      · rw [if_neg (nI_ge (by omega) (by omega)), if_neg (nI_ge (by omega) (by omega))]
        exact .mk 6 0 (nI 0) rfl rfl (by decide)
theorem sim_trailer (h : zRB X 1 a) (hR : RM (Y 1) a) (hG : Gd a) (v1 v2 : Int32) : zSimR X Y K31 (some (f_X5_trailer X v1 v2)) (f_X6_trailer Y v1 v2) := by
  unfold f_X5_trailer f_X6_trailer
  rcases trailer_cases h hR hG v1 with ⟨e1, e2⟩ | ⟨e1, e2, x, hx, rfl⟩
  · rw [e1, e2, if_pos nI_0, if_pos nI_0]
    exact .mk 3 0 (nI 0) rfl rfl (by decide)
  · rw [e1, e2, if_neg nI_10, if_neg nI_10]
    have h1 := hG.c3
    rcases in_cases v2 (lo := 0) (hi := 3) (by decide) (by decide) with ⟨e3, e4, -⟩ | ⟨e3, e4, w, -, hw, rfl⟩
    · rw [e3, e4, if_pos nI_0, if_pos nI_0]
      exact .mk 1 0 (nI 0) rfl rfl (by decide)
    · rw [e3, e4, if_neg nI_10, if_neg nI_10, n_trl h hG hx (by omega), m_trl hR (by omega) (by omega)]
      exact .mk 0 _ _ rfl rfl (fun _ => rfl)
/-- whether a trailer fits -/
def zfit (a : Nat → Nat) (t f d : Nat) : Prop := trl a t 0 ≠ f ∧ d < flm a (trl a t 0) 4 ∧ trl a t 2 ≤ flm a f 1 ∧ ¬ (nI (trl a t 3) &&& nI (flm a f 2)) = 0
theorem n_isFitting (h : zRB X 1 a) (hG : Gd a) {t f d : Nat} (ht : t < a 3) (hf : f < a 2) (hd : d < 2 ^ 31) : (f_X3_isFitting X (nI t) (nI f) (nI d) = nI 1 ∧ zfit a t f d) ∨ (f_X3_isFitting X (nI t) (nI f) (nI d) = nI 0 ∧ ¬ zfit a t f d) := by
  have hT := hG.2.2.2.1 t ht
  have h2 := hG.c2
  have hF := hG.2.2.1 f hf
  have hF2 := hG.2.2.1 _ hT.1
  unfold f_X3_isFitting zfit
  rw [n_trl h hG ht (by decide), n_trl h hG ht (by decide), n_trl h hG ht (by decide), n_flm h hG hT.1 (by decide), n_flm h hG hf (by decide), n_flm h hG hf (by decide)]
  by_cases c1 : trl a t 0 = f
  · rw [if_pos (by rw [c1])]
    exact Or.inr ⟨rfl, fun q => q.1 c1⟩
  · rw [if_neg (fun q => c1 ((nI_eq (by omega) (by omega)).mp q))]
    by_cases c2 : flm a (trl a t 0) 4 ≤ d
    · rw [if_pos (nI_le c2 hd)]
      exact Or.inr ⟨rfl, fun q => by omega⟩
    · rw [if_neg (nI_ge (by omega) (by omega))]
      by_cases c3 : flm a f 1 < trl a t 2
      · rw [if_pos (nI_lt c3 (by omega))]
        exact Or.inr ⟨rfl, fun q => by omega⟩
      · rw [if_neg (nI_nlt (by omega) (by omega))]
        by_cases c4 : (nI (trl a t 3) &&& nI (flm a f 2)) = 0
        · rw [if_pos c4]
          exact Or.inr ⟨rfl, fun q => q.2.2.2 c4⟩
        · rw [if_neg c4]
          exact Or.inl ⟨rfl, c1, by omega, by omega, c4⟩
theorem m_doesFit (hR : RM (Y 1) a) (hG : Gd a) {t f d : Nat} (ht : t < a 3) (hf : f < a 2) (hd : d < 2 ^ 31) : (f_X6_doesFit Y (nI t) (nI f) (nI d) = some (nI 1) ∧ zfit a t f d) ∨ (f_X6_doesFit Y (nI t) (nI f) (nI d) = some (nI 0) ∧ ¬ zfit a t f d) := by
  have hT := hG.2.2.2.1 t ht
  have h2 := hG.c2
  have h3 := hG.c3
  have hF := hG.2.2.1 f hf
  have hF2 := hG.2.2.1 _ hT.1
  unfold f_X6_doesFit zfit
  rw [m_trl hR (by omega) (by decide), Option.bind_some]
  by_cases c1 : trl a t 0 = f
  · rw [if_pos (by rw [c1])]
    exact Or.inr ⟨rfl, fun q => q.1 c1⟩
  · rw [if_neg (fun q => c1 ((nI_eq (by omega) (by omega)).mp q)), m_flm hR (by omega) (by decide), Option.bind_some]
    by_cases c2 : flm a (trl a t 0) 4 ≤ d
    · rw [if_pos (nI_le c2 hd)]
      exact Or.inr ⟨rfl, fun q => by omega⟩
    · rw [if_neg (nI_ge (by omega) (by omega)), m_trl hR (by omega) (by decide), Option.bind_some, m_flm hR (by omega) (by decide), Option.bind_some]
      by_cases c3 : flm a f 1 < trl a t 2
      · rw [if_pos (nI_lt c3 (by omega))]
        exact Or.inr ⟨rfl, fun q => by omega⟩
      · rw [if_neg (nI_nlt (by omega) (by omega)), m_trl hR (by omega) (by decide), Option.bind_some, m_flm hR (by omega) (by decide), Option.bind_some]
        by_cases c4 : (nI (trl a t 3) &&& nI (flm a f 2)) = 0
        · rw [if_pos c4]
          exact Or.inr ⟨rfl, fun q => q.2.2.2 c4⟩
        · rw [if_neg c4]
          exact Or.inl ⟨rfl, c1, by omega, by omega, c4⟩
theorem RM.thrown {Y : Nat → Nat → Int32} {a : Nat → Nat} (h : RM (Y 1) a) (k : Nat) (v : Int32) : RM ((zU Y 0 k v) 1) a := h
theorem sim_fits (h : zRB X 1 a) (hR : RM (Y 1) a) (hG : Gd a) (v1 v2 v3 : Int32) : zSimR X Y K31 (some (f_X5_fits X v1 v2 v3)) (f_X6_fits Y v1 v2 v3) := by
  unfold f_X5_fits f_X6_fits
  rcases trailer_cases h hR hG v1 with ⟨e1, e2⟩ | ⟨e1, e2, x, hx, rfl⟩
  · rw [e1, e2, if_pos nI_0, if_pos nI_0]
    exact .mk 3 0 (nI 0) rfl rfl (by decide)
  · rw [e1, e2, if_neg nI_10, if_neg nI_10]
    rcases film_cases h hR hG v2 with ⟨e1, e2⟩ | ⟨e1, e2, f, hf, rfl⟩
    · rw [e1, e2, if_pos nI_0, if_pos nI_0]
      exact .mk 3 0 (nI 0) rfl rfl (by decide)
    · rw [e1, e2, if_neg nI_10, if_neg nI_10]
      rcases day_cases v3 with ⟨e3, e4⟩ | ⟨e3, e4, d, hd, rfl⟩
      · rw [e3, e4, if_pos nI_0, if_pos nI_0]
        exact .mk 1 0 (nI 0) rfl rfl (by decide)
      · rw [e3, e4, if_neg nI_10, if_neg nI_10]
        show zSimR X Y K31 _ ((f_X6_doesFit (zU Y 0 0 (nI 0)) (nI x) (nI f) (nI d)).bind fun q_9 => (if ¬ (q_9 = 0 ∨ q_9 = 1) then none else some (q_9, zU Y 0 0 (nI 0))))
        rcases n_isFitting h hG hx hf (d := d) (by omega) with ⟨e5, q1⟩ | ⟨e5, q1⟩
        · rcases m_doesFit (hR.thrown 0 (nI 0)) hG hx hf (d := d) (by omega) with ⟨e6, q2⟩ | ⟨e6, q2⟩
          · rw [e5, e6, Option.bind_some, if_neg (by decide)]
            exact .mk 0 _ _ rfl rfl (fun _ => rfl)
          · exact absurd q1 q2
        · rcases m_doesFit (hR.thrown 0 (nI 0)) hG hx hf (d := d) (by omega) with ⟨e6, q2⟩ | ⟨e6, q2⟩
          · exact absurd q2 q1
          · rw [e5, e6, Option.bind_some, if_neg (by decide)]
            exact .mk 0 _ _ rfl rfl (fun _ => rfl)
theorem sim_setting (h : zRB X 1 a) (hR : RM (Y 1) a) (v1 : Int32) : zSimR X Y K31 (some (f_X5_setting X v1)) (f_X6_setting Y v1) := by
  unfold f_X5_setting f_X6_setting f_X3_settingOf
  rcases in_cases v1 (lo := 0) (hi := 5) (by decide) (by decide) with ⟨e3, e4, -⟩ | ⟨e3, e4, w, -, hw, rfl⟩
  · rw [e3, e4, if_pos nI_0, if_pos nI_0]
    rcases in_cases v1 (lo := 10) (hi := 25) (by decide) (by decide) with ⟨e3, e4, -⟩ | ⟨e3, e4, w, hw0, hw, rfl⟩
    · rw [e3, e4, if_pos nI_0, if_pos nI_0]
      exact .mk 3 0 (nI 0) rfl rfl (by decide)
    · obtain ⟨w', rfl⟩ : ∃ w', w = 10 + w' := ⟨w - 10, by omega⟩
      rw [e3, e4, if_neg nI_10, if_neg nI_10, n_lim h (by omega), nI_add, pk_sub (by omega), show 14 + (10 + w') - 10 = 14 + w' by omega, if_neg (nI_ix (by omega)), nI_clamp (by omega), hR.lo (by omega)]
      exact .mk 0 _ _ rfl rfl (fun _ => rfl)
  · rw [e3, e4, if_neg nI_10, if_neg nI_10, n_set h (by omega), nI_add, if_neg (nI_ix (by omega)), nI_clamp (by omega), hR.lo (by omega)]
    exact .mk 0 _ _ rfl rfl (fun _ => rfl)
theorem n_statusOf (h : zRB X 1 a) (hG : Gd a) {x : Nat} (hx : x < a 4) : f_X3_statusOf X (nI x) = if shw a x 8 = 0 then (if a 0 ≤ shw a x 2 then nI 0 else nI 2) else nI 1 := by
  have hS := hG.2.2.2.2 x hx
  have h0 := hG.1.1
  unfold f_X3_statusOf
  rw [n_isCancelled h hG hx, n_today h, n_shw h hG hx (by decide)]
  by_cases h8 : shw a x 8 = 0
  · rw [if_pos h8, if_pos h8, if_pos nI_0]
    by_cases hd : a 0 ≤ shw a x 2
    · rw [if_pos hd, if_pos (nI_le hd (by omega))]
    · rw [if_neg hd, if_neg (nI_ge (by omega) (by omega))]
  · rw [if_neg h8, if_neg h8, if_neg nI_10]
theorem m_isOver (hR : RM (Y 1) a) (hG : Gd a) {x : Nat} (hx : x < a 4) : f_X6_isOver Y (nI x) = some (if a 0 ≤ shw a x 2 then nI 0 else nI 1) := by
  have hS := hG.2.2.2.2 x hx
  have h0 := hG.1.1
  have h4 := hG.c4
  unfold f_X6_isOver
  rw [m_shw hR (by omega) (by decide), Option.bind_some, show Y 1 (nI 0).toNatClampNeg = nI (a 0) from hR.lo (by decide)]
  by_cases hd : a 0 ≤ shw a x 2
  · rw [if_pos hd, if_pos (nI_le hd (by omega))]
  · rw [if_neg hd, if_neg (nI_ge (by omega) (by omega))]
theorem sim_show (h : zRB X 1 a) (hR : RM (Y 1) a) (hG : Gd a) (v1 v2 : Int32) : zSimR X Y K31 (some (f_X5_show X v1 v2)) (f_X6_show Y v1 v2) := by
  unfold f_X5_show f_X6_show
  rcases show_cases h hR hG v1 with ⟨e1, e2⟩ | ⟨e1, e2, x, hx, rfl⟩
  · rw [e1, e2, if_pos nI_0, if_pos nI_0]
    exact .mk 3 0 (nI 0) rfl rfl (by decide)
  · rw [e1, e2, if_neg nI_10, if_neg nI_10]
    have h4 := hG.c4
    have h30 : x < 30 := by omega
    rcases in_cases v2 (lo := 0) (hi := 11) (by decide) (by decide) with ⟨e3, e4, -⟩ | ⟨e3, e4, w, -, hw, rfl⟩
    · rw [e3, e4, if_pos nI_0, if_pos nI_0]
      exact .mk 1 0 (nI 0) rfl rfl (by decide)
    · rw [e3, e4, if_neg nI_10, if_neg nI_10]
      have dn : ∀ (v : Nat) (g : Option (Int32 × (Nat → Nat → Int32))), g = some (nI v, zU Y 0 0 (nI 0)) → zSimR X Y K31 (some (0, nI v, X)) g := fun v g hg => .mk 0 _ _ rfl hg (fun _ => rfl)
      match w, hw with
      | 0, _ => rw [if_neg (by decide), if_neg (by decide), if_neg (by decide), if_neg (by decide), if_neg (by decide), if_neg (by decide), if_neg (by decide), if_neg (by decide), if_neg (by decide), if_neg (by decide), if_neg (by decide), n_shw h hG hx (by decide), m_shw hR h30 (by decide)]; exact dn _ _ rfl
      | 1, _ => rw [if_neg (by decide), if_neg (by decide), if_neg (by decide), if_neg (by decide), if_neg (by decide), if_neg (by decide), if_neg (by decide), if_neg (by decide), if_neg (by decide), if_neg (by decide), if_neg (by decide), n_shw h hG hx (by decide), m_shw hR h30 (by decide)]; exact dn _ _ rfl
      | 2, _ => rw [if_neg (by decide), if_neg (by decide), if_neg (by decide), if_neg (by decide), if_neg (by decide), if_neg (by decide), if_neg (by decide), if_neg (by decide), if_neg (by decide), if_neg (by decide), if_neg (by decide), n_shw h hG hx (by decide), m_shw hR h30 (by decide)]; exact dn _ _ rfl
      | 3, _ => rw [if_neg (by decide), if_neg (by decide), if_neg (by decide), if_neg (by decide), if_neg (by decide), if_neg (by decide), if_neg (by decide), if_neg (by decide), if_neg (by decide), if_neg (by decide), if_neg (by decide), n_shw h hG hx (by decide), m_shw hR h30 (by decide)]; exact dn _ _ rfl
      | 4, _ => rw [if_neg (by decide), if_neg (by decide), if_neg (by decide), if_pos rfl, n_end h hG hx, m_endOf hR hG hx]; exact dn _ _ rfl
      | 5, _ => rw [if_neg (by decide), if_neg (by decide), if_neg (by decide), if_neg (by decide), if_pos rfl, n_tic h hG hx, m_shw hR h30 (by decide)]; exact dn _ _ rfl
      | 6, _ => rw [if_neg (by decide), if_neg (by decide), if_neg (by decide), if_neg (by decide), if_neg (by decide), if_pos rfl, n_ree h hG hx, m_shw hR h30 (by decide)]; exact dn _ _ rfl
      | 7, _ => rw [if_neg (by decide), if_neg (by decide), if_neg (by decide), if_neg (by decide), if_neg (by decide), if_neg (by decide), if_pos rfl, n_pri h hG hx, m_shw hR h30 (by decide)]; exact dn _ _ rfl
      | 8, _ =>
        rw [if_pos rfl, if_neg (by decide), if_neg (by decide), if_neg (by decide), if_neg (by decide), if_pos rfl, n_statusOf h hG hx, m_stands hR hG hx, Option.bind_some]
        by_cases h8 : shw a x 8 = 0
        · rw [if_pos h8, if_pos h8, if_neg nI_10, m_isOver hR hG hx, Option.bind_some]
          by_cases hd : a 0 ≤ shw a x 2
          · rw [if_pos hd, if_pos hd, if_pos nI_0]; exact dn _ _ rfl
          · rw [if_neg hd, if_neg hd, if_neg nI_10]; exact dn _ _ rfl
        · rw [if_neg h8, if_neg h8, if_pos nI_0]; exact dn _ _ rfl
      | 9, _ => rw [if_neg (by decide), if_pos rfl, if_neg (by decide), if_neg (by decide), if_neg (by decide), if_neg (by decide), if_neg (by decide), if_pos rfl, n_receiptsOf h hG hx, m_receiptsOf hR hG hx]; exact dn _ _ rfl
      | 10, _ => rw [if_neg (by decide), if_neg (by decide), if_pos rfl, if_neg (by decide), if_neg (by decide), if_neg (by decide), if_neg (by decide), if_neg (by decide), if_neg (by decide), if_pos rfl, n_partOf h hG hx, m_partOf hR hG hx]; exact dn _ _ rfl
      | 11, _ => rw [if_neg (by decide), if_neg (by decide), if_neg (by decide), if_neg (by decide), if_neg (by decide), if_neg (by decide), if_neg (by decide), if_neg (by decide), if_neg (by decide), if_neg (by decide), if_pos rfl, n_rmi h hG hx, m_shw hR h30 (by decide)]; exact dn _ _ rfl
theorem sim_account (h : zRB X 1 a) (hR : RM (Y 1) a) (hG : Gd a) (v1 : Int32) : zSimR X Y K1 (f_X5_account X v1) (f_X6_account Y v1) := by
  unfold f_X5_account f_X6_account
  rcases in_cases v1 (lo := 0) (hi := 11) (by decide) (by decide) with ⟨e3, e4, -⟩ | ⟨e3, e4, w, -, hw, rfl⟩
  · rw [e3, e4, if_pos nI_0, if_pos nI_0]
    exact .mk 1 0 (nI 0) rfl rfl (by decide)
  · rw [e3, e4, if_neg nI_10, if_neg nI_10]
    have dn : ∀ (v : Nat) (g : Option (Int32 × (Nat → Nat → Int32))), g = some (nI v, zU Y 0 0 (nI 0)) → zSimR X Y K1 (some (0, nI v, X)) g := fun v g hg => .mk 0 _ _ rfl hg (fun _ => rfl)
    have lo : ∀ k, k < 30 → Y 1 (nI k).toNatClampNeg = nI (a k) := fun k hk => by rw [nI_clamp (by omega), hR.lo hk]
    match w, hw with
    | 0, _ => rw [if_pos rfl, if_neg (by decide), if_neg (by decide), n_size (n_nH h), nI_add, lo 1 (by decide)]; exact dn _ _ rfl
    | 1, _ => rw [if_neg (by decide), if_pos rfl, if_neg (by decide), if_neg (by decide), n_size (n_nF h), nI_add, lo 2 (by decide)]; exact dn _ _ rfl
    | 2, _ => rw [if_neg (by decide), if_neg (by decide), if_pos rfl, if_neg (by decide), if_neg (by decide), n_size (n_nT h), nI_add, lo 3 (by decide)]; exact dn _ _ rfl
    | 3, _ => rw [if_neg (by decide), if_neg (by decide), if_neg (by decide), if_pos rfl, if_neg (by decide), if_neg (by decide), n_size (n_nS h), nI_add, lo 4 (by decide)]; exact dn _ _ rfl
    | 4, _ =>
      rw [if_neg (by decide), if_neg (by decide), if_neg (by decide), if_neg (by decide), if_pos rfl, if_pos (by decide), if_neg (by decide), if_neg (by decide), if_neg (by decide), n_size (n_nS h), n_total_all h hG (by decide), m_sumOf4 hR hG, Option.bind_some, Option.bind_some]
      have e := tot0_cnc a
      rw [pk_sub (by omega), show a 4 - tot a 0 (fun _ => true) = cnc a by omega]
      exact dn _ _ rfl
    | 5, _ => rw [if_neg (by decide), if_neg (by decide), if_neg (by decide), if_neg (by decide), if_neg (by decide), if_pos rfl, if_pos (by decide), if_neg (by decide), if_neg (by decide), if_neg (by decide), n_total_all h hG (by decide), m_sumOf hR hG (Or.inl rfl)]; exact dn _ _ rfl
    | 6, _ => rw [if_neg (by decide), if_neg (by decide), if_neg (by decide), if_neg (by decide), if_neg (by decide), if_neg (by decide), if_pos rfl, if_pos (by decide), if_neg (by decide), if_neg (by decide), if_neg (by decide), n_total_all h hG (by decide), m_sumOf hR hG (Or.inr (Or.inl rfl))]; exact dn _ _ rfl
    | 7, _ => rw [if_neg (by decide), if_neg (by decide), if_neg (by decide), if_neg (by decide), if_neg (by decide), if_neg (by decide), if_neg (by decide), if_pos rfl, if_pos (by decide), if_neg (by decide), if_neg (by decide), if_neg (by decide), n_total_all h hG (by decide), m_sumOf hR hG (Or.inr (Or.inr (Or.inl rfl)))]; exact dn _ _ rfl
    | 8, _ =>
      rw [if_neg (by decide), if_neg (by decide), if_neg (by decide), if_neg (by decide), if_neg (by decide), if_neg (by decide), if_neg (by decide), if_neg (by decide), if_pos rfl, if_pos (by decide), if_pos rfl, n_total_all h hG (by decide), n_total_all h hG (by decide), m_sumOf hR hG (Or.inr (Or.inl rfl)), m_sumOf hR hG (Or.inr (Or.inr (Or.inl rfl)))]
      exact .mk 0 _ _ rfl rfl (fun _ => rfl)
    | 9, _ => rw [if_neg (by decide), if_neg (by decide), if_neg (by decide), if_neg (by decide), if_neg (by decide), if_neg (by decide), if_neg (by decide), if_neg (by decide), if_neg (by decide), if_pos rfl, if_pos (by decide), if_neg (by decide), if_pos rfl, n_given h, lo 5 (by decide)]; exact dn _ _ rfl
    | 10, _ => rw [if_neg (by decide), if_neg (by decide), if_neg (by decide), if_neg (by decide), if_neg (by decide), if_neg (by decide), if_neg (by decide), if_neg (by decide), if_neg (by decide), if_neg (by decide), if_pos rfl, if_pos (by decide), if_neg (by decide), if_neg (by decide), if_neg (by decide), n_total_all h hG (by decide), m_sumOf hR hG (Or.inr (Or.inr (Or.inr rfl)))]; exact dn _ _ rfl
    | 11, _ => rw [if_neg (by decide), if_neg (by decide), if_neg (by decide), if_neg (by decide), if_neg (by decide), if_neg (by decide), if_neg (by decide), if_neg (by decide), if_neg (by decide), if_neg (by decide), if_neg (by decide), if_pos (by decide), if_neg (by decide), if_neg (by decide), if_pos rfl, n_today h, lo 0 (by decide)]; exact dn _ _ rfl
end R2
