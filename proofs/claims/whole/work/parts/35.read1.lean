section R1
variable {X Y : Nat → Nat → Int32} {a : Nat → Nat}
theorem sim_hall (h : zRB X 1 a) (hR : RM (Y 1) a) (hG : Gd a) (v1 v2 : Int32) : zSimR X Y K31 (f_X5_hall X v1 v2) (f_X6_hall Y v1 v2) := by
  unfold f_X5_hall f_X6_hall
  rcases hall_cases h hR hG v1 with ⟨e1, e2⟩ | ⟨e1, e2, x, hx, rfl⟩
  · rw [e1, e2, if_pos nI_0, if_pos nI_0]
    exact .mk 3 0 (nI 0) rfl rfl (by decide)
  · rw [e1, e2, if_neg nI_10, if_neg nI_10]
    have h1 := hG.c1
    rcases in_cases v2 (lo := 0) (hi := 6) (by decide) (by decide) with ⟨e3, e4, -⟩ | ⟨e3, e4, w, -, hw, rfl⟩
    · rw [e3, e4, if_pos nI_0, if_pos nI_0]
      exact .mk 1 0 (nI 0) rfl rfl (by decide)
    · rw [e3, e4, if_neg nI_10, if_neg nI_10]
      have hb : x < 2 ^ 31 := by omega
      match w, hw with
      | 0, _ =>
        rw [if_neg (by decide), if_neg (by decide), if_neg (by decide), if_neg (by decide), n_hal h hG hx (by decide), m_hal hR (by omega) (by decide)]
        exact .mk 0 _ _ rfl rfl (fun _ => rfl)
      | 1, _ =>
        rw [if_neg (by decide), if_neg (by decide), if_neg (by decide), if_neg (by decide), n_hal h hG hx (by decide), m_hal hR (by omega) (by decide)]
        exact .mk 0 _ _ rfl rfl (fun _ => rfl)
      | 2, _ =>
        rw [if_neg (by decide), if_neg (by decide), if_neg (by decide), if_neg (by decide), n_hal h hG hx (by decide), m_hal hR (by omega) (by decide)]
        exact .mk 0 _ _ rfl rfl (fun _ => rfl)
      | 3, _ =>
        rw [if_neg (by decide), if_neg (by decide), if_neg (by decide), if_neg (by decide), n_clo h hG hx, m_clo hR (by omega)]
        exact .mk 0 _ _ rfl rfl (fun _ => rfl)
      | 4, _ =>
        rw [if_pos rfl, if_pos (by decide), n_total_col h hG (by decide) (by decide) hb, m_hall_L hR hG hb (Or.inl rfl)]
        exact .mk 0 _ _ rfl rfl (fun _ => rfl)
      | 5, _ =>
        rw [if_neg (by decide), if_pos rfl, if_pos (by decide), n_total_col h hG (by decide) (by decide) hb, m_hall_L hR hG hb (Or.inr (Or.inl rfl))]
        exact .mk 0 _ _ rfl rfl (fun _ => rfl)
      | 6, _ =>
        rw [if_neg (by decide), if_neg (by decide), if_pos rfl, if_pos (by decide), n_total_col h hG (by decide) (by decide) hb, m_hall_L hR hG hb (Or.inr (Or.inr rfl))]
        exact .mk 0 _ _ rfl rfl (fun _ => rfl)
theorem sim_film (h : zRB X 1 a) (hR : RM (Y 1) a) (hG : Gd a) (v1 v2 : Int32) : zSimR X Y K31 (f_X5_film X v1 v2) (f_X6_film Y v1 v2) := by
  unfold f_X5_film f_X6_film
  rcases film_cases h hR hG v1 with ⟨e1, e2⟩ | ⟨e1, e2, x, hx, rfl⟩
  · rw [e1, e2, if_pos nI_0, if_pos nI_0]
    exact .mk 3 0 (nI 0) rfl rfl (by decide)
  · rw [e1, e2, if_neg nI_10, if_neg nI_10]
    have h1 := hG.c2
    rcases in_cases v2 (lo := 0) (hi := 11) (by decide) (by decide) with ⟨e3, e4, -⟩ | ⟨e3, e4, w, -, hw, rfl⟩
    · rw [e3, e4, if_pos nI_0, if_pos nI_0]
      exact .mk 1 0 (nI 0) rfl rfl (by decide)
    · rw [e3, e4, if_neg nI_10, if_neg nI_10]
      have hb : x < 2 ^ 31 := by omega
      have lo : ∀ w, w < 5 → f_X4_get X 4 96 (nI x) (nI w) = nI (flm a x w) ∧ f_X6_filmAt Y (nI x) (nI w) = some (nI (flm a x w)) := fun w hw => ⟨n_flm h hG hx hw, m_flm hR (by omega) (by omega)⟩
      have dn : ∀ (v : Nat) (g : Option (Int32 × (Nat → Nat → Int32))), g = some (nI v, zU Y 0 0 (nI 0)) → zSimR X Y K31 (some (0, nI v, X)) g := fun v g hg => .mk 0 _ _ rfl hg (fun _ => rfl)
      match w, hw with
      | 0, _ => rw [if_neg (by decide), if_neg (by decide), if_neg (by decide), if_neg (by decide), if_pos (by decide), if_neg (by decide), (lo 0 (by decide)).1, (lo 0 (by decide)).2]; exact dn _ _ rfl
      | 1, _ => rw [if_neg (by decide), if_neg (by decide), if_neg (by decide), if_neg (by decide), if_pos (by decide), if_neg (by decide), (lo 1 (by decide)).1, (lo 1 (by decide)).2]; exact dn _ _ rfl
      | 2, _ => rw [if_neg (by decide), if_neg (by decide), if_neg (by decide), if_neg (by decide), if_pos (by decide), if_neg (by decide), (lo 2 (by decide)).1, (lo 2 (by decide)).2]; exact dn _ _ rfl
      | 3, _ => rw [if_neg (by decide), if_neg (by decide), if_neg (by decide), if_neg (by decide), if_pos (by decide), if_neg (by decide), (lo 3 (by decide)).1, (lo 3 (by decide)).2]; exact dn _ _ rfl
      | 4, _ => rw [if_neg (by decide), if_neg (by decide), if_neg (by decide), if_neg (by decide), if_pos (by decide), if_neg (by decide), (lo 4 (by decide)).1, (lo 4 (by decide)).2]; exact dn _ _ rfl
      | 5, _ => rw [if_pos rfl, if_neg (by decide), if_pos (by decide), n_total_col h hG (by decide) (by decide) hb, m_film_L hR hG hb (Or.inl rfl)]; exact dn _ _ rfl
      | 6, _ => rw [if_neg (by decide), if_pos rfl, if_neg (by decide), if_pos (by decide), n_total_col h hG (by decide) (by decide) hb, m_film_L hR hG hb (Or.inr (Or.inl rfl))]; exact dn _ _ rfl
      | 7, _ => rw [if_neg (by decide), if_neg (by decide), if_pos rfl, if_neg (by decide), if_pos (by decide), n_total_col h hG (by decide) (by decide) hb, m_film_L hR hG hb (Or.inr (Or.inr (Or.inl rfl)))]; exact dn _ _ rfl
      | 8, _ => rw [if_neg (by decide), if_neg (by decide), if_neg (by decide), if_pos rfl, if_neg (by decide), if_pos (by decide), n_total_col h hG (by decide) (by decide) hb, m_film_L hR hG hb (Or.inr (Or.inr (Or.inr rfl)))]; exact dn _ _ rfl
      | 9, _ => rw [if_neg (by decide), if_neg (by decide), if_neg (by decide), if_neg (by decide), if_neg (by decide), if_neg (by decide), if_pos (by decide), n_flm9 h hG hx, show (nI 5 + nI 9) - nI 9 = nI 5 by decide, m_flm hR (by omega) (by decide)]; exact dn _ _ rfl
      | 10, _ => rw [if_neg (by decide), if_neg (by decide), if_neg (by decide), if_neg (by decide), if_neg (by decide), if_neg (by decide), if_pos (by decide), n_flm10 h hG hx, show (nI 5 + nI 10) - nI 9 = nI 6 by decide, m_flm hR (by omega) (by decide)]; exact dn _ _ rfl
      | 11, _ => rw [if_neg (by decide), if_neg (by decide), if_neg (by decide), if_neg (by decide), if_neg (by decide), if_neg (by decide), if_pos (by decide), n_flm11 h hG hx, show (nI 5 + nI 11) - nI 9 = nI 7 by decide, m_flm hR (by omega) (by decide)]; exact dn _ _ rfl
end R1
