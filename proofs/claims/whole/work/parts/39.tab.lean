/-! the class's tables: put, addRow, clear as changes of the memory -/
theorem zU_s (X : Nat → Nat → Int32) (r k : Nat) (v : Int32) : zU X r k v r k = v := by unfold zU; rw [zR_s]; exact pk_us
theorem zU_k (X : Nat → Nat → Int32) (r k : Nat) (v : Int32) {j : Nat} (h : j ≠ k) : zU X r k v r j = X r j := by unfold zU; rw [zR_s]; exact pk_un h
theorem zU_r (X : Nat → Nat → Int32) (r k : Nat) (v : Int32) {q : Nat} (h : q ≠ r) : zU X r k v q = X q := zR_n X _ h
theorem zRB_cong {X X' : Nat → Nat → Int32} {b : Nat} {a : Nat → Nat} (hX : ∀ r, b ≤ r → r ≤ b + 12 → X' r = X r) (h : zRB X b a) : zRB X' b a := by
  unfold zRB at h ⊢
  rw [hX (b + 1) (by omega) (by omega), hX (b + 2) (by omega) (by omega), hX (b + 3) (by omega) (by omega), hX (b + 4) (by omega) (by omega), hX (b + 5) (by omega) (by omega), hX (b + 6) (by omega) (by omega), hX (b + 7) (by omega) (by omega), hX (b + 8) (by omega) (by omega), hX (b + 9) (by omega) (by omega), hX (b + 10) (by omega) (by omega), hX (b + 11) (by omega) (by omega), hX (b + 12) (by omega) (by omega), hX b (by omega) (by omega)]
  exact h
theorem n_put {X : Nat → Nat → Int32} {r n c x k : Nat} (hc : X r 1 = nI c) (hn : n < 2 ^ 31) (h : x * c + k < n) (v : Int32) : f_X4_put X r n (nI x) (nI k) v = zU X (r + 1) (x * c + k) v := by
  unfold f_X4_put zlet
  rw [hc, pk_mul, nI_add, if_neg (nI_pos (by omega)), if_neg (fun q => by rw [nI_leI hn (by omega)] at q; omega), nI_clamp (by omega)]
def zClr (f : Nat → Int32) (lo hi : Nat) : Nat → Int32 := fun j => if lo ≤ j ∧ j < hi then nI 0 else f j
theorem zClr_0 (f : Nat → Int32) (lo : Nat) : zClr f lo lo = f := by
  funext j
  exact if_neg (by omega)
theorem zClr_u (f : Nat → Int32) {lo hi : Nat} (h : lo ≤ hi) : upd (zClr f lo hi) hi (nI 0) = zClr f lo (hi + 1) := by
  funext j
  by_cases e : j = hi
  · rw [e, pk_us]
    exact (if_pos ⟨h, Nat.lt_succ_self hi⟩).symm
  · rw [pk_un e]
    unfold zClr
    by_cases q : lo ≤ j ∧ j < hi
    · rw [if_pos q, if_pos ⟨q.1, by omega⟩]
    · rw [if_neg q, if_neg (by omega)]
theorem n_addRow {X : Nat → Nat → Int32} {r n c m k : Nat} (hc : X r 1 = nI c) (hm : X r 2 = nI m) (hk : X r 3 = nI k) (hkm : k < m) (hm2 : m < 2 ^ 30) (hn : k * c + c ≤ n) (hn2 : n < 4000) :
    f_X4_addRow X r n = some (nI k, zU (zR X (r + 1) (zClr (X (r + 1)) (k * c) (k * c + c))) r 3 (nI (k + 1))) := by
  unfold f_X4_addRow
  have hr : r ≠ r + 1 := by omega
  have key : ∀ (q i fu : Nat) (kk : (Nat → Nat → Int32) → Option (Int32 × (Nat → Nat → Int32))), i + q = k * c + c → k * c ≤ i → q < fu →
      f_X4_addRow_L27 kk r n (nI k) (nI (k * c)) fu (zR X (r + 1) (zClr (X (r + 1)) (k * c) i)) (nI i) = kk (zR X (r + 1) (zClr (X (r + 1)) (k * c) (k * c + c))) := by
    intro q
    induction q with
    | zero =>
      intro i fu kk hi hlo hfu
      obtain ⟨fu', rfl, -⟩ := fu_s hfu
      rw [f_X4_addRow_L27, if_neg (nI_pos (by omega)), zR_n X _ hr, hc, nI_add, if_pos (nI_le (by omega) (by omega)), show i = k * c + c by omega]
    | succ q ih =>
      intro i fu kk hi hlo hfu
      obtain ⟨fu', rfl, hf2⟩ := fu_s hfu
      rw [f_X4_addRow_L27, if_neg (nI_pos (by omega)), zR_n X _ hr, hc, nI_add, if_neg (nI_ge (by omega) (by omega)), if_neg (nI_ge (by omega) (by omega)), nI_clamp (by omega), nI_1]
      unfold zlet
      have e : zU (zR X (r + 1) (zClr (X (r + 1)) (k * c) i)) (r + 1) i (nI 0) = zR X (r + 1) (zClr (X (r + 1)) (k * c) (i + 1)) := by
        unfold zU
        rw [zR_s, zClr_u _ hlo]
        funext z
        by_cases hz : z = r + 1
        · subst hz; rw [zR_s, zR_s]
        · rw [zR_n _ _ hz, zR_n _ _ hz, zR_n _ _ hz]
      rw [e]
      exact ih (i + 1) fu' kk (by omega) (by omega) (hf2 q rfl)
  have h0 := key c (k * c) zFuel (fun X_1007 => (zlet (zU X_1007 r 3 ((X_1007 r 3) + (nI 1))) fun X_1008 => some ((X r 3), X_1008))) rfl (Nat.le_refl _) (by show c < 5000; omega)
  rw [zClr_0] at h0
  have e0 : zR X (r + 1) (X (r + 1)) = X := by
    funext z
    by_cases hz : z = r + 1
    · subst hz; rw [zR_s]
    · rw [zR_n _ _ hz]
  rw [e0, hk] at h0
  rw [hk, hm, if_pos (nI_lt hkm (by omega)), hc, pk_mul, h0]
  unfold zlet
  rw [zR_n X _ hr, hk, nI_add]
