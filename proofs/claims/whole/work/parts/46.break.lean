def obr (r : Nat) (o : Option Nat) (k : Nat × Int32) : Nat × Int32 := match o with
  | none => k
  | some m => (r, nI m)
/-- the rules 6 to 9 -/
def brkL (a : Nat → Nat) (L : List Nat) (f h st en : Nat) : Nat × Int32 :=
  obr 6 (L.find? (meet6 a h st (en + hal a h 1))) (obr 7 (crw0 (cntO (bg7 a) (fn7 a f) L) (flm a f 3) st (en + a 10) (bg7 a) L)
    (obr 8 (L.find? (meet8 a (hal a h 2) en)) (obr 9 (if hal a h 1 = 0 then none else crw0 (cntO (endA a) (fn9 a) L) (a 9) en (en + hal a h 1) (endA a) L) (0, -1))))
/-- the first rule that breaks, and its detail -/
def brk (a : Nat → Nat) (w : Int32) (f d h st en : Nat) : Nat × Int32 :=
  if d < a 0 then (1, nI (a 0)) else if hal a h 3 ≠ 0 ∧ hal a h 3 ≤ d + 1 then (2, nI h) else if d < flm a f 4 then (3, nI (flm a f 4)) else if a (14 + st / 60) < flm a f 1 then (4, nI (a (14 + st / 60))) else if 960 < en then (5, nI en) else brkL a (othL (isO a w d) 0 (a 4)) f h st en
theorem crw_b {cnt : Nat → Nat} {most fr un : Nat} {bg : Nat → Nat} {B : Nat} : ∀ (l : List Nat) (fd : Option Nat), (∀ z, fd = some z → z < B) → (∀ s ∈ l, bg s < B) → ∀ z, crw cnt most fr un bg fd l = some z → z < B
  | [], fd, h, _, z, e => h z e
  | s :: l, fd, h, hb, z, e => by
    rw [crw] at e
    refine crw_b l _ (fun y hy => ?_) (fun x hx => hb x (List.mem_cons_of_mem _ hx)) z e
    split at hy
    · cases hy; exact hb s List.mem_cons_self
    · exact h y hy
theorem crw0_b {cnt : Nat → Nat} {most fr un : Nat} {bg : Nat → Nat} {B : Nat} {l : List Nat} (hf : fr < B) (hb : ∀ s ∈ l, bg s < B) {z : Nat} (e : crw0 cnt most fr un bg l = some z) : z < B := by
  refine crw_b l _ (fun y hy => ?_) hb z e
  split at hy
  · cases hy; exact hf
  · cases hy
theorem find_b {p : Nat → Bool} {l : List Nat} {B : Nat} (hb : ∀ s ∈ l, s < B) {z : Nat} (e : l.find? p = some z) : z < B := hb z (List.mem_of_find?_eq_some e)
theorem oTab_col {X : Nat → Nat → Int32} {a : Nat → Nat} {f : Nat} : ∀ (l : List Nat) (k : Nat), oTab X a f k l → oCol X 3 (bg7 a) k l ∧ oCol X 4 (endA a) k l ∧ oCol X 5 (fn9 a) k l ∧ oCol X 6 (fn7 a f) k l
  | [], k, h => ⟨trivial, trivial, trivial, trivial⟩
  | s :: l, k, h => by
    obtain ⟨⟨r0, r1, r2, r3, r4, r5, r6⟩, hl⟩ := h
    have ih := oTab_col l (k + 1) hl
    exact ⟨⟨r3, ih.1⟩, ⟨r4, ih.2.1⟩, ⟨r5, ih.2.2.1⟩, ⟨r6, ih.2.2.2⟩⟩
/-- one step of the rules on both sides: a look that answers o, or goes on -/
theorem obr_i {β : Type} {r : Nat} {o : Option Nat} {k : Nat × Int32} {F : Nat × Int32 → β} {A B : β} (hb : ∀ z, o = some z → z < 2 ^ 31) (hA : o = none → A = F k) (hB : ∀ z, o = some z → B = F (r, nI z)) : (if enO o = -1 then A else B) = F (obr r o k) := by
  cases o with
  | none => rw [if_pos (show enO none = -1 from rfl)]; exact hA rfl
  | some z => rw [if_neg (show ¬ enO (some z) = -1 from z_m1 (hb z rfl))]; exact hB z rfl
section BR
variable {X Y : Nat → Nat → Int32} {a : Nat → Nat}
theorem n_isClosed (h : zRB X 1 a) (hG : Gd a) {x d : Nat} (hx : x < a 1) (hd : d < 2 ^ 30) : f_X3_isClosed X (nI x) (nI d) = if hal a x 3 ≠ 0 ∧ hal a x 3 ≤ d + 1 then nI 1 else nI 0 := by
  have hH := (hG.2.1 x hx).2.2.2.2
  unfold f_X3_isClosed
  rw [n_clo h hG hx]
  by_cases c : hal a x 3 = 0
  · rw [c, if_pos (by decide), if_neg (by omega)]
  · rw [show nI (hal a x 3) - 1 = nI (hal a x 3 - 1) from pk_sub (a := hal a x 3) (b := 1) (by omega), if_neg (z_m1 (by omega))]
    by_cases c2 : hal a x 3 ≤ d + 1
    · rw [if_neg (nI_nlt (by omega) (by omega)), if_pos ⟨c, c2⟩]
    · rw [if_pos (nI_lt (by omega) (by omega)), if_neg (fun q => c2 q.2)]
theorem m_isClosed (hR : RM (Y 1) a) (hG : Gd a) {x d : Nat} (hx : x < a 1) (hd : d < 2 ^ 30) : f_X6_isClosed Y (nI x) (nI d) = some (if hal a x 3 ≠ 0 ∧ hal a x 3 ≤ d + 1 then nI 1 else nI 0) := by
  have hH := (hG.2.1 x hx).2.2.2.2
  have h1 := hG.c1
  unfold f_X6_isClosed
  rw [m_clo hR (by omega)]
  simp only [Option.bind_some]
  by_cases c : hal a x 3 = 0
  · rw [c, if_pos (by decide), if_neg (by omega)]
  · rw [show nI (hal a x 3) - 1 = nI (hal a x 3 - 1) from pk_sub (a := hal a x 3) (b := 1) (by omega), if_neg (z_m1 (by omega))]
    by_cases c2 : hal a x 3 ≤ d + 1
    · rw [if_neg (nI_nlt (by omega) (by omega)), if_pos ⟨c, c2⟩]
    · rw [if_pos (nI_lt (by omega) (by omega)), if_neg (fun q => c2 q.2)]
theorem n_firstBroken (h : zRB X 1 a) (hG : Gd a) {w : Int32} {f d : Nat} (hF : oFul X a w f d) (hf : f < a 2) (hd : d < 60) {x st en : Nat} (hx : x < a 1) (hst : st < 960) (hse : st < en) (hen : en < 2 ^ 29) :
    f_X2_firstBroken X (nI x) (nI st) (nI en) = some (nI (brk a w f d x st en).1, zU X 146 3 (brk a w f d x st en).2) := by
  have hFF := hG.2.2.1 f hf
  have hHH := hG.2.1 x hx
  have h10 : a 10 ≤ 60 := hG.1.2.2.2.2.2.2.2.2.2.1
  have h9 : a 9 ≤ 3 := hG.1.2.2.2.2.2.2.2.2.1.2
  have h8 : a 8 ≤ 30 := hG.1.2.2.2.2.2.2.2.1
  have h0 : a 0 < 60 := hG.1.1
  have h4 := hG.c4
  have h1 := hG.c1
  have h2 := hG.c2
  have hst60 : st / 60 < 16 := by omega
  have hlm : a (14 + st / 60) ≤ 3 := hG.1.2.2.2.2.2.2.2.2.2.2.2.2.2 _ hst60
  have hmem : ∀ s ∈ othL (isO a w d) 0 (a 4), s < a 4 := fun s hs => by have := (othL_mem hs).2.2; omega
  have hlen := othL_len (isO a w d) (a 4) 0
  obtain ⟨hO, z1, z2, hN, hT⟩ := id hF
  obtain ⟨k3, k4, k5, k6⟩ := oTab_col _ _ hT
  have fin : ∀ (r : Nat) (v : Int32), (zlet (f_X2_broken X (nI r) v) fun q => some (q.1, q.2)) = some (nI r, zU X 146 3 v) := fun r v => rfl
  have eL : f_X3_settingOf X (nI (10 + st / 60)) = nI (a (14 + st / 60)) := n_lim h hst60
  have e2 : f_X3_settingOf X (nI 2) = nI (a 10) := n_set h (k := 2) (by decide)
  have e0 : f_X3_settingOf X (nI 0) = nI (a 8) := n_set h (k := 0) (by decide)
  have e1 : f_X3_settingOf X (nI 1) = nI (a 9) := n_set h (k := 1) (by decide)
  unfold f_X2_firstBroken
  rw [z1, z2, n_today h, n_isClosed h hG hx (by omega), n_flm h hG hf (by decide), n_flm h hG hf (by decide), n_flm h hG hf (by decide), n_hal h hG hx (by decide), n_hal h hG hx (by decide), pk_div (by omega) (by decide) (by decide), nI_add, nI_add, eL, e2, e0, e1, nI_add,
    n_inTheWay hG hF (by omega) (by omega) (by omega), n_atExit hG hF (by omega) hen,
    n_crowded hO hN (by omega) (c1 := 3) (c2 := 6) (by decide) (by decide) (by omega) (by omega) (by omega) rfl (fun s hs => by have := fn7_b hG (f := f) (hmem s hs); omega) k3 k6,
    n_crowded hO hN (by omega) (c1 := 4) (c2 := 5) (by decide) (by decide) (by omega) (by omega) (by omega) rfl (fun s hs => by have := fn7_b hG (f := f) (hmem s hs); omega) k4 k5,
    if_neg (show ¬ en + a 10 ≤ st by omega)]
  simp only [Option.bind_some, fin]
  unfold brk
  by_cases c1 : d < a 0
  · rw [if_neg (nI_ge c1 (by omega)), if_pos c1]
  · rw [if_pos (nI_le (by omega) (by omega)), if_neg c1]
    by_cases c2 : hal a x 3 ≠ 0 ∧ hal a x 3 ≤ d + 1
    · rw [if_pos c2, if_neg nI_10, if_pos c2]
    · rw [if_neg c2, if_pos nI_0, if_neg c2]
      by_cases c3 : d < flm a f 4
      · rw [if_neg (nI_ge c3 (by omega)), if_pos c3]
      · rw [if_pos (nI_le (by omega) (by omega)), if_neg c3]
        by_cases c4 : a (14 + st / 60) < flm a f 1
        · rw [if_neg (nI_ge c4 (by omega)), if_pos c4]
        · rw [if_pos (nI_le (by omega) (by omega)), if_neg c4]
          by_cases c5 : 960 < en
          · rw [if_neg (nI_ge c5 (by omega)), if_pos c5]
          · rw [if_pos (nI_le (by omega) (by omega)), if_neg c5]
            unfold brkL
            refine obr_i (F := fun q : Nat × Int32 => some (nI q.1, zU X 146 3 q.2)) (fun z e => by have := find_b (B := a 4) hmem e; omega) (fun _ => ?_) (fun z e => by rw [e]; rfl)
            refine obr_i (F := fun q : Nat × Int32 => some (nI q.1, zU X 146 3 q.2)) (fun z e => by have := crw0_b (B := 960) hst (fun s hs => (fn7_b hG (f := f) (hmem s hs)).1) e; omega) (fun _ => ?_) (fun z e => by rw [e]; rfl)
            refine obr_i (F := fun q : Nat × Int32 => some (nI q.1, zU X 146 3 q.2)) (fun z e => by have := find_b (B := a 4) hmem e; omega) (fun _ => ?_) (fun z e => by rw [e]; rfl)
            have ec : (if en + hal a x 1 ≤ en then none else crw0 (cntO (endA a) (fn9 a) (othL (isO a w d) 0 (a 4))) (a 9) en (en + hal a x 1) (endA a) (othL (isO a w d) 0 (a 4))) = (if hal a x 1 = 0 then none else crw0 (cntO (endA a) (fn9 a) (othL (isO a w d) 0 (a 4))) (a 9) en (en + hal a x 1) (endA a) (othL (isO a w d) 0 (a 4))) := by
              by_cases q : hal a x 1 = 0
              · rw [if_pos q, if_pos (by omega)]
              · rw [if_neg q, if_neg (by omega)]
            rw [ec]
            refine obr_i (F := fun q : Nat × Int32 => some (nI q.1, zU X 146 3 q.2)) (fun z e => ?_) (fun _ => rfl) (fun z e => by rw [e]; rfl)
            split at e
            · cases e
            · have := crw0_b (B := 961) (by omega) (fun s hs => (fn7_b hG (f := f) (hmem s hs)).2.2.1) e; omega
/-- the reference, standing over a place -/
def mPut (Y : Nat → Nat → Int32) (w : Int32) (h f d st en : Nat) : Nat → Nat → Int32 := zU (zU (zU (zU (zU (zU Y 0 15 (nI h)) 0 16 (nI f)) 0 17 (nI d)) 0 18 (nI st)) 0 19 (nI en)) 0 20 w
theorem mPut_its (Y : Nat → Nat → Int32) (w : Int32) (h f d st en : Nat) : mIts (mPut Y w h f d st en) w h f d st en := by
  unfold mPut
  refine ⟨?_, ?_, ?_, ?_, ?_, ?_⟩
  · rw [zU_k _ _ _ _ (by decide), zU_k _ _ _ _ (by decide), zU_k _ _ _ _ (by decide), zU_k _ _ _ _ (by decide), zU_k _ _ _ _ (by decide), zU_s]
  · rw [zU_k _ _ _ _ (by decide), zU_k _ _ _ _ (by decide), zU_k _ _ _ _ (by decide), zU_k _ _ _ _ (by decide), zU_s]
  · rw [zU_k _ _ _ _ (by decide), zU_k _ _ _ _ (by decide), zU_k _ _ _ _ (by decide), zU_s]
  · rw [zU_k _ _ _ _ (by decide), zU_k _ _ _ _ (by decide), zU_s]
  · rw [zU_k _ _ _ _ (by decide), zU_s]
  · rw [zU_s]
theorem mPut_r (Y : Nat → Nat → Int32) (w : Int32) (h f d st en : Nat) {r : Nat} (hr : r ≠ 0) : mPut Y w h f d st en r = Y r := by
  unfold mPut
  rw [zU_r _ _ _ _ hr, zU_r _ _ _ _ hr, zU_r _ _ _ _ hr, zU_r _ _ _ _ hr, zU_r _ _ _ _ hr, zU_r _ _ _ _ hr]
theorem mPut_k (Y : Nat → Nat → Int32) (w : Int32) (h f d st en : Nat) {k : Nat} (hk : k < 15 ∨ 20 < k) : mPut Y w h f d st en 0 k = Y 0 k := by
  unfold mPut
  rw [zU_k _ _ _ _ (by omega), zU_k _ _ _ _ (by omega), zU_k _ _ _ _ (by omega), zU_k _ _ _ _ (by omega), zU_k _ _ _ _ (by omega), zU_k _ _ _ _ (by omega)]
theorem m_breaks (hR : RM (Y 1) a) (hG : Gd a) (w : Int32) {f d : Nat} (hf : f < a 2) (hd : d < 60) {x st mi : Nat} (hx : x < a 1) (hst : st < 960) (hmi : 0 < mi) (hmi2 : mi < 2 ^ 20) :
    f_X6_breaks Y (nI x) (nI f) (nI d) (nI st) (nI mi) w = some (nI (brk a w f d x st (st + mi)).1, zU (mPut Y w x f d st (st + mi)) 0 21 (brk a w f d x st (st + mi)).2) := by
  have hFF := hG.2.2.1 f hf
  have hHH := hG.2.1 x hx
  have h10 : a 10 ≤ 60 := hG.1.2.2.2.2.2.2.2.2.2.1
  have h9 : a 9 ≤ 3 := hG.1.2.2.2.2.2.2.2.2.1.2
  have h8 : a 8 ≤ 30 := hG.1.2.2.2.2.2.2.2.1
  have h0 : a 0 < 60 := hG.1.1
  have h4 := hG.c4
  have h1 := hG.c1
  have h2 := hG.c2
  have hst60 : st / 60 < 16 := by omega
  have hlm : a (14 + st / 60) ≤ 3 := hG.1.2.2.2.2.2.2.2.2.2.2.2.2.2 _ hst60
  have hmem : ∀ s ∈ othL (isO a w d) 0 (a 4), s < a 4 := fun s hs => by have := (othL_mem hs).2.2; omega
  unfold f_X6_breaks zlet
  dsimp only
  rw [nI_add]
  generalize hen : st + mi = en
  have hI := mPut_its Y w x f d st en
  have hRP : RM (mPut Y w x f d st en 1) a := by rw [mPut_r _ _ _ _ _ _ _ (by decide)]; exact hR
  change (if mPut Y w x f d st en 1 (nI 0).toNatClampNeg ≤ nI d then _ else _) = _
  have fold : zU (zU (zU (zU (zU (zU Y 0 15 (nI x)) 0 16 (nI f)) 0 17 (nI d)) 0 18 (nI st)) 0 19 (nI en)) 0 20 w = mPut Y w x f d st en := rfl
  rw [fold]
  generalize mPut Y w x f d st en = Z at hI hRP ⊢
  have fin : ∀ (r : Nat) (v : Int32), some ((f_X6_broken Z (nI r) v).1, (f_X6_broken Z (nI r) v).2) = some (nI r, zU Z 0 21 v) := fun r v => rfl
  rw [show Z 1 (nI 0).toNatClampNeg = nI (a 0) from hRP.lo (by decide), m_isClosed hRP hG hx (by omega), m_flm hRP (by omega) (by decide), m_flm hRP (by omega) (by decide), pk_div (by omega) (by decide) (by decide), nI_add]
  have hix := nI_ix (n := 14 + st / 60) (by omega)
  simp only [hix, if_false]
  rw [nI_clamp (by omega), show Z 1 (14 + st / 60) = nI (a (14 + st / 60)) from hRP.lo (by omega), hI.2.2.2.2.1,
    m_meetsInHall hRP hG hI hx (by omega) (by omega) (by omega), m_meetsAtExit hRP hG hI hx (by omega) (by omega), m_tooManyCopies hRP hG hI hf (by omega) (by omega) (by omega), m_tooManyCleaned hRP hG hI hx (by omega) (by omega)]
  simp only [Option.bind_some, fin]
  unfold brk
  by_cases c1 : d < a 0
  · rw [if_neg (nI_ge c1 (by omega)), if_pos c1]
  · rw [if_pos (nI_le (by omega) (by omega)), if_neg c1]
    by_cases c2 : hal a x 3 ≠ 0 ∧ hal a x 3 ≤ d + 1
    · rw [if_pos c2, if_neg nI_10, if_pos c2]
    · rw [if_neg c2, if_pos nI_0, if_neg c2]
      by_cases c3 : d < flm a f 4
      · rw [if_neg (nI_ge c3 (by omega)), if_pos c3]
      · rw [if_pos (nI_le (by omega) (by omega)), if_neg c3]
        by_cases c4 : a (14 + st / 60) < flm a f 1
        · rw [if_neg (nI_ge c4 (by omega)), if_pos c4]
        · rw [if_pos (nI_le (by omega) (by omega)), if_neg c4]
          by_cases c5 : 960 < en
          · rw [if_neg (nI_ge c5 (by omega)), if_pos c5]
          · rw [if_pos (nI_le (by omega) (by omega)), if_neg c5]
            unfold brkL
            refine obr_i (F := fun q : Nat × Int32 => some (nI q.1, zU Z 0 21 q.2)) (fun z e => by have := find_b (B := a 4) hmem e; omega) (fun _ => ?_) (fun z e => by rw [e]; rfl)
            refine obr_i (F := fun q : Nat × Int32 => some (nI q.1, zU Z 0 21 q.2)) (fun z e => by have := crw0_b (B := 960) hst (fun s hs => (fn7_b hG (f := f) (hmem s hs)).1) e; omega) (fun _ => ?_) (fun z e => by rw [e]; rfl)
            refine obr_i (F := fun q : Nat × Int32 => some (nI q.1, zU Z 0 21 q.2)) (fun z e => by have := find_b (B := a 4) hmem e; omega) (fun _ => ?_) (fun z e => by rw [e]; rfl)
            refine obr_i (F := fun q : Nat × Int32 => some (nI q.1, zU Z 0 21 q.2)) (fun z e => ?_) (fun _ => rfl) (fun z e => by rw [e]; rfl)
            split at e
            · cases e
            · have := crw0_b (B := 961) (by omega) (fun s hs => (fn7_b hG (f := f) (hmem s hs)).2.2.1) e; omega
end BR
