/-! WHICH EXCEPTIONS a public method may throw (laid by wip/whole/mkcodes.py) -/
def inC (cs : List Nat) (c : Nat) : Prop := c = 0 ∨ c ∈ cs
def oC {α : Type} (cs : List Nat) (o : Option (Nat × α)) : Prop := ∀ r, o = some r → inC cs r.1
theorem oC.none {α : Type} {cs : List Nat} : oC cs (none : Option (Nat × α)) := fun r h => nomatch h
theorem oC.some {α : Type} {cs : List Nat} {c : Nat} {a : α} (h : inC cs c) : oC cs (some (c, a)) := fun r e => by cases e; exact h
theorem oC.ite {α : Type} {cs : List Nat} {p : Prop} [Decidable p] {a b : Option (Nat × α)} (ha : oC cs a) (hb : oC cs b) : oC cs (if p then a else b) := by
  by_cases h : p
  · rw [if_pos h]; exact ha
  · rw [if_neg h]; exact hb
theorem oC.bind {α β : Type} {cs : List Nat} {o : Option β} {f : β → Option (Nat × α)} (h : ∀ q, oC cs (f q)) : oC cs (o.bind f) := fun r e => by
  obtain ⟨q, -, e2⟩ := Option.bind_eq_some_iff.mp e
  exact h q r e2
theorem oC.zlet {α β : Type} {cs : List Nat} {v : β} {f : β → Option (Nat × α)} (h : oC cs (f v)) : oC cs (zlet v f) := h
def pC {α : Type} (cs : List Nat) (p : Nat × α) : Prop := inC cs p.1
theorem pC.ite {α : Type} {cs : List Nat} {p : Prop} [Decidable p] {a b : Nat × α} (ha : pC cs a) (hb : pC cs b) : pC cs (if p then a else b) := by
  by_cases h : p
  · rw [if_pos h]; exact ha
  · rw [if_neg h]; exact hb
theorem pC.zlet {α β : Type} {cs : List Nat} {v : β} {f : β → Nat × α} (h : pC cs (f v)) : pC cs (zlet v f) := h
theorem pC.mk {α : Type} {cs : List Nat} {c : Nat} {a : α} (h : inC cs c) : pC cs (c, a) := h
theorem pC.o {α : Type} {cs : List Nat} {p : Nat × α} (h : pC cs p) : oC cs (some p) := fun r e => by cases e; exact h
theorem inC.ne {cs : List Nat} {c : Nat} (h : inC cs c) (h0 : c ≠ 0) : c ∈ cs := h.resolve_left h0
theorem oc_addHall (X : Nat → Nat → Int32) (v1 v2 v3 : Int32) : oC [1, 2] (f_X5_addHall X v1 v2 v3) := by
  unfold f_X5_addHall
  exact oC.ite (oC.some (Or.inr (by decide))) (oC.ite (oC.some (Or.inr (by decide))) (oC.ite (oC.some (Or.inr (by decide))) (oC.ite (oC.zlet (oC.bind (fun _ => oC.zlet (oC.zlet (oC.zlet (oC.zlet (oC.some (Or.inl rfl)))))))) (oC.some (Or.inr (by decide))))))
theorem oc_addFilm (X : Nat → Nat → Int32) (v1 v2 v3 v4 v5 : Int32) : oC [1, 2] (f_X5_addFilm X v1 v2 v3 v4 v5) := by
  unfold f_X5_addFilm
  exact oC.ite (oC.some (Or.inr (by decide))) (oC.ite (oC.some (Or.inr (by decide))) (oC.ite (oC.some (Or.inr (by decide))) (oC.ite (oC.some (Or.inr (by decide))) (oC.ite (oC.some (Or.inr (by decide))) (oC.ite (oC.zlet (oC.bind (fun _ => oC.zlet (oC.zlet (oC.zlet (oC.zlet (oC.zlet (oC.zlet (oC.zlet (oC.zlet (oC.some (Or.inl rfl)))))))))))) (oC.some (Or.inr (by decide))))))))
theorem oc_setShares (X : Nat → Nat → Int32) (v1 v2 v3 v4 : Int32) : pC [3, 1] (f_X5_setShares X v1 v2 v3 v4) := by
  unfold f_X5_setShares
  exact pC.ite (pC.mk (Or.inr (by decide))) (pC.ite (pC.mk (Or.inr (by decide))) (pC.ite (pC.mk (Or.inr (by decide))) (pC.ite (pC.mk (Or.inr (by decide))) (pC.zlet (pC.zlet (pC.zlet (pC.zlet (pC.mk (Or.inl rfl)))))))))
theorem oc_addTrailer (X : Nat → Nat → Int32) (v1 v2 v3 v4 : Int32) : oC [3, 1, 2] (f_X5_addTrailer X v1 v2 v3 v4) := by
  unfold f_X5_addTrailer
  exact oC.ite (oC.some (Or.inr (by decide))) (oC.ite (oC.some (Or.inr (by decide))) (oC.ite (oC.some (Or.inr (by decide))) (oC.ite (oC.some (Or.inr (by decide))) (oC.ite (oC.zlet (oC.bind (fun _ => oC.zlet (oC.zlet (oC.zlet (oC.zlet (oC.some (Or.inl rfl)))))))) (oC.some (Or.inr (by decide)))))))
theorem oc_set (X : Nat → Nat → Int32) (v1 v2 : Int32) : pC [3, 1] (f_X5_set X v1 v2) := by
  unfold f_X5_set
  exact pC.ite (pC.mk (Or.inr (by decide))) (pC.ite (pC.mk (Or.inr (by decide))) (pC.ite (pC.mk (Or.inr (by decide))) (pC.mk (Or.inl rfl))))
theorem oc_setLimit (X : Nat → Nat → Int32) (v1 v2 : Int32) : pC [3, 1] (f_X5_setLimit X v1 v2) := by
  unfold f_X5_setLimit
  exact pC.ite (pC.mk (Or.inr (by decide))) (pC.ite (pC.mk (Or.inr (by decide))) (pC.zlet (pC.zlet (pC.mk (Or.inl rfl)))))
theorem oc_setting (X : Nat → Nat → Int32) (v1 : Int32) : pC [3] (f_X5_setting X v1) := by
  unfold f_X5_setting
  exact pC.ite (pC.ite (pC.mk (Or.inr (by decide))) (pC.mk (Or.inl rfl))) (pC.mk (Or.inl rfl))
theorem oc_hall (X : Nat → Nat → Int32) (v1 v2 : Int32) : oC [3, 1] (f_X5_hall X v1 v2) := by
  unfold f_X5_hall
  exact oC.ite (oC.some (Or.inr (by decide))) (oC.ite (oC.some (Or.inr (by decide))) (oC.ite (oC.bind (fun _ => oC.some (Or.inl rfl))) (oC.ite (oC.bind (fun _ => oC.some (Or.inl rfl))) (oC.ite (oC.bind (fun _ => oC.some (Or.inl rfl))) (oC.some (Or.inl rfl))))))
theorem oc_film (X : Nat → Nat → Int32) (v1 v2 : Int32) : oC [3, 1] (f_X5_film X v1 v2) := by
  unfold f_X5_film
  exact oC.ite (oC.some (Or.inr (by decide))) (oC.ite (oC.some (Or.inr (by decide))) (oC.ite (oC.bind (fun _ => oC.some (Or.inl rfl))) (oC.ite (oC.bind (fun _ => oC.some (Or.inl rfl))) (oC.ite (oC.bind (fun _ => oC.some (Or.inl rfl))) (oC.ite (oC.bind (fun _ => oC.some (Or.inl rfl))) (oC.some (Or.inl rfl)))))))
theorem oc_share (X : Nat → Nat → Int32) (v1 v2 : Int32) : pC [3, 1, 6] (f_X5_share X v1 v2) := by
  unfold f_X5_share
  exact pC.ite (pC.mk (Or.inr (by decide))) (pC.ite (pC.mk (Or.inr (by decide))) (pC.ite (pC.mk (Or.inl rfl)) (pC.mk (Or.inr (by decide)))))
theorem oc_trailer (X : Nat → Nat → Int32) (v1 v2 : Int32) : pC [3, 1] (f_X5_trailer X v1 v2) := by
  unfold f_X5_trailer
  exact pC.ite (pC.mk (Or.inr (by decide))) (pC.ite (pC.mk (Or.inr (by decide))) (pC.mk (Or.inl rfl)))
theorem oc_fits (X : Nat → Nat → Int32) (v1 v2 v3 : Int32) : pC [3, 1] (f_X5_fits X v1 v2 v3) := by
  unfold f_X5_fits
  exact pC.ite (pC.mk (Or.inr (by decide))) (pC.ite (pC.mk (Or.inr (by decide))) (pC.ite (pC.mk (Or.inr (by decide))) (pC.mk (Or.inl rfl))))
theorem oc_reel (X : Nat → Nat → Int32) (v1 v2 v3 : Int32) : oC [3, 1] (f_X5_reel X v1 v2 v3) := by
  unfold f_X5_reel
  exact oC.ite (oC.some (Or.inr (by decide))) (oC.ite (oC.some (Or.inr (by decide))) (oC.bind (fun _ => oC.ite (oC.some (Or.inl rfl)) (oC.bind (fun _ => oC.some (Or.inl rfl))))))
theorem oc_plan (X : Nat → Nat → Int32) (v1 v2 v3 v4 : Int32) : oC [3, 1, 5] (f_X5_plan X v1 v2 v3 v4) := by
  unfold f_X5_plan
  exact oC.bind (fun _ => oC.ite (oC.some (Or.inr (by decide))) (oC.ite (oC.some (Or.inr (by decide))) (oC.ite (oC.some (Or.inr (by decide))) (oC.zlet (oC.bind (fun _ => oC.some (Or.inl rfl)))))))
theorem oc_move (X : Nat → Nat → Int32) (v1 v2 v3 : Int32) : oC [3, 1, 2, 5] (f_X5_move X v1 v2 v3) := by
  unfold f_X5_move
  exact oC.ite (oC.some (Or.inr (by decide))) (oC.ite (oC.some (Or.inr (by decide))) (oC.ite (oC.some (Or.inr (by decide))) (oC.ite (oC.some (Or.inr (by decide))) (oC.bind (fun _ => oC.ite (oC.zlet (oC.zlet (oC.some (Or.inl rfl)))) (oC.some (Or.inr (by decide))))))))
theorem oc_cancel (X : Nat → Nat → Int32) (v1 : Int32) : pC [3, 2] (f_X5_cancel X v1) := by
  unfold f_X5_cancel
  exact pC.ite (pC.mk (Or.inr (by decide))) (pC.ite (pC.mk (Or.inr (by decide))) (pC.zlet (pC.zlet (pC.mk (Or.inl rfl)))))
theorem oc_sell (X : Nat → Nat → Int32) (v1 v2 : Int32) : pC [3, 1, 2, 5] (f_X5_sell X v1 v2) := by
  unfold f_X5_sell
  exact pC.zlet (pC.ite (pC.mk (Or.inr (by decide))) (pC.ite (pC.mk (Or.inr (by decide))) (pC.ite (pC.mk (Or.inr (by decide))) (pC.ite (pC.mk (Or.inr (by decide))) (pC.zlet (pC.zlet (pC.mk (Or.inl rfl))))))))
theorem oc_show (X : Nat → Nat → Int32) (v1 v2 : Int32) : pC [3, 1] (f_X5_show X v1 v2) := by
  unfold f_X5_show
  exact pC.ite (pC.mk (Or.inr (by decide))) (pC.ite (pC.mk (Or.inr (by decide))) (pC.ite (pC.mk (Or.inl rfl)) (pC.ite (pC.mk (Or.inl rfl)) (pC.ite (pC.mk (Or.inl rfl)) (pC.mk (Or.inl rfl))))))
theorem oc_why (X : Nat → Nat → Int32) (v1 v2 v3 v4 v5 : Int32) : oC [3, 1] (f_X5_why X v1 v2 v3 v4 v5) := by
  unfold f_X5_why
  exact oC.ite (oC.some (Or.inr (by decide))) (oC.ite (oC.some (Or.inr (by decide))) (oC.ite (oC.some (Or.inr (by decide))) (oC.ite (oC.some (Or.inr (by decide))) (oC.bind (fun _ => oC.bind (fun _ => oC.bind (fun _ => oC.ite (oC.some (Or.inl rfl)) (oC.some (Or.inl rfl)))))))))
theorem oc_firstStart_L (k : (Nat → Nat → Int32) → Option (Nat × Int32 × (Nat → Nat → Int32))) (h9 : ∀ X, oC [3, 1, 6] (k X)) (v1 v5 : Int32) : ∀ (fu : Nat) (X : Nat → Nat → Int32) (v6 : Int32), oC [3, 1, 6] (f_X5_firstStart_L92 k v1 v5 fu X v6) := by
  intro fu
  induction fu with
  | zero => exact fun _ _ => oC.none
  | succ fu ih => intro X v6; rw [f_X5_firstStart_L92]; exact oC.ite (h9 _) (oC.bind (fun _ => oC.ite (oC.some (Or.inl rfl)) (ih _ _)))
theorem oc_firstStart (X : Nat → Nat → Int32) (v1 v2 v3 v4 : Int32) : oC [3, 1, 6] (f_X5_firstStart X v1 v2 v3 v4) := by
  unfold f_X5_firstStart
  exact oC.ite (oC.some (Or.inr (by decide))) (oC.ite (oC.some (Or.inr (by decide))) (oC.ite (oC.some (Or.inr (by decide))) (oC.ite (oC.some (Or.inr (by decide))) (oC.bind (fun _ => oC.bind (fun _ => oc_firstStart_L _ (fun _ => oC.some (Or.inr (by decide))) _ _ _ _ _))))))
theorem oc_fail (X : Nat → Nat → Int32) (v1 v2 : Int32) : oC [3, 1, 2] (f_X5_fail X v1 v2) := by
  unfold f_X5_fail
  exact oC.ite (oC.some (Or.inr (by decide))) (oC.ite (oC.some (Or.inr (by decide))) (oC.ite (oC.some (Or.inr (by decide))) (oC.zlet (oC.bind (fun _ => oC.some (Or.inl rfl))))))
theorem oc_reopen (X : Nat → Nat → Int32) (v1 : Int32) : pC [3, 2] (f_X5_reopen X v1) := by
  unfold f_X5_reopen
  exact pC.ite (pC.mk (Or.inr (by decide))) (pC.ite (pC.mk (Or.inr (by decide))) (pC.zlet (pC.zlet (pC.mk (Or.inl rfl)))))
theorem oc_line (X : Nat → Nat → Int32) (v1 v2 : Int32) : pC [6, 1] (f_X5_line X v1 v2) := by
  unfold f_X5_line
  exact pC.ite (pC.mk (Or.inr (by decide))) (pC.ite (pC.mk (Or.inr (by decide))) (pC.mk (Or.inl rfl)))
theorem oc_used (X : Nat → Nat → Int32) (v1 v2 v3 : Int32) : oC [3, 1] (f_X5_used X v1 v2 v3) := by
  unfold f_X5_used
  exact oC.ite (oC.some (Or.inr (by decide))) (oC.ite (oC.some (Or.inr (by decide))) (oC.ite (oC.some (Or.inr (by decide))) (oC.bind (fun _ => oC.ite (oC.bind (fun _ => oC.some (Or.inl rfl))) (oC.ite (oC.bind (fun _ => oC.some (Or.inl rfl))) (oC.ite (oC.bind (fun _ => oC.bind (fun _ => oC.some (Or.inl rfl)))) (oC.ite (oC.ite (oC.some (Or.inl rfl)) (oC.some (Or.inl rfl))) (oC.bind (fun _ => oC.some (Or.inl rfl))))))))))
theorem oc_at (X : Nat → Nat → Int32) (v1 v2 v3 : Int32) : oC [1] (f_X5_at X v1 v2 v3) := by
  unfold f_X5_at
  exact oC.ite (oC.some (Or.inr (by decide))) (oC.ite (oC.some (Or.inr (by decide))) (oC.ite (oC.some (Or.inr (by decide))) (oC.ite (oC.bind (fun _ => oC.some (Or.inl rfl))) (oC.ite (oC.bind (fun _ => oC.some (Or.inl rfl))) (oC.ite (oC.bind (fun _ => oC.some (Or.inl rfl))) (oC.bind (fun _ => oC.some (Or.inl rfl))))))))
theorem oc_refusal (X : Nat → Nat → Int32) (v1 : Int32) : pC [6] (f_X5_refusal X v1) := by
  unfold f_X5_refusal
  exact pC.ite (pC.mk (Or.inr (by decide))) (pC.ite (pC.mk (Or.inl rfl)) (pC.mk (Or.inl rfl)))
theorem oc_advance (X : Nat → Nat → Int32) (v1 : Int32) : pC [1] (f_X5_advance X v1) := by
  unfold f_X5_advance
  exact pC.ite (pC.zlet (pC.zlet (pC.mk (Or.inl rfl)))) (pC.mk (Or.inr (by decide)))
theorem oc_account (X : Nat → Nat → Int32) (v1 : Int32) : oC [1] (f_X5_account X v1) := by
  unfold f_X5_account
  exact oC.ite (oC.some (Or.inr (by decide))) (oC.ite (oC.some (Or.inl rfl)) (oC.ite (oC.some (Or.inl rfl)) (oC.ite (oC.some (Or.inl rfl)) (oC.ite (oC.some (Or.inl rfl)) (oC.ite (oC.bind (fun _ => oC.some (Or.inl rfl))) (oC.ite (oC.bind (fun _ => oC.some (Or.inl rfl))) (oC.ite (oC.bind (fun _ => oC.some (Or.inl rfl))) (oC.ite (oC.bind (fun _ => oC.some (Or.inl rfl))) (oC.ite (oC.bind (fun _ => oC.bind (fun _ => oC.some (Or.inl rfl)))) (oC.ite (oC.some (Or.inl rfl)) (oC.ite (oC.bind (fun _ => oC.some (Or.inl rfl))) (oC.some (Or.inl rfl)))))))))))))
theorem oc_bestFilm_L (X : Nat → Nat → Int32) : ∀ (fu : Nat) (v1 v2 v3 : Int32), oC [6] (f_X5_bestFilm_L39 X fu v1 v2 v3) := by
  intro fu
  induction fu with
  | zero => exact fun _ _ _ => oC.none
  | succ fu ih => intro v1 v2 v3; rw [f_X5_bestFilm_L39]; exact oC.ite (oC.some (Or.inl rfl)) (oC.bind (fun _ => oC.ite (ih _ _ _) (ih _ _ _)))
theorem oc_bestFilm (X : Nat → Nat → Int32) : oC [6] (f_X5_bestFilm X) := by
  unfold f_X5_bestFilm
  exact oC.ite (oC.some (Or.inr (by decide))) (oC.bind (fun _ => oc_bestFilm_L _ _ _ _ _))
theorem oc_write (X : Nat → Nat → Int32) (v1 v2 : Int32) : oC [3, 1] (f_X5_write X v1 v2) := by
  unfold f_X5_write
  exact oC.ite (oC.some (Or.inr (by decide))) (oC.ite (oC.some (Or.inr (by decide))) (oC.bind (fun _ => oC.bind (fun _ => oC.some (Or.inl rfl)))))
theorem oc_written (k : Nat) (f : Nat → Int32) (v1 : Int32) : pC [3] (f_X5_written k f v1) := by
  unfold f_X5_written
  exact pC.ite (pC.mk (Or.inr (by decide))) (pC.ite (pC.mk (Or.inr (by decide))) (pC.mk (Or.inl rfl)))
theorem oc_perform_L : ∀ (fu : Nat) (X : Nat → Nat → Int32) (v2 : Int32), oC [1, 5] (f_X5_perform_L59 fu X v2) := by
  intro fu
  induction fu with
  | zero => exact fun _ _ => oC.none
  | succ fu ih => intro X v2; rw [f_X5_perform_L59]; exact oC.ite (oC.some (Or.inl rfl)) (oC.bind (fun _ => oC.ite (oC.some (Or.inr (by decide))) (ih _ _)))
theorem oc_perform (kT : Nat) (fT : Nat → Int32) (X : Nat → Nat → Int32) : oC [1, 5] (f_X5_perform kT fT X) := by
  unfold f_X5_perform
  exact oC.bind (fun _ => oC.ite (oC.some (Or.inr (by decide))) (oc_perform_L _ _ _))
theorem oc_errorPosition (X : Nat → Nat → Int32) : pC [6] (f_X5_errorPosition X) := by
  unfold f_X5_errorPosition
  exact pC.ite (pC.mk (Or.inr (by decide))) (pC.mk (Or.inl rfl))
theorem oc_undo (X : Nat → Nat → Int32) : pC [2] (f_X5_undo X) := by
  unfold f_X5_undo
  exact pC.ite (pC.mk (Or.inr (by decide))) (pC.zlet (pC.mk (Or.inl rfl)))
theorem oc_restore (X : Nat → Nat → Int32) : pC [2] (f_X5_restore X) := by
  unfold f_X5_restore
  exact pC.ite (pC.mk (Or.inr (by decide))) (pC.zlet (pC.zlet (pC.mk (Or.inl rfl))))
