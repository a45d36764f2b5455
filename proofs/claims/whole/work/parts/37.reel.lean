/-! the best reel, on both sides -/
theorem z_or (a b : Nat) : nI a ||| nI b = nI (a ||| b) := by
  apply Int32.toBitVec_inj.1
  show BitVec.ofNat 32 a ||| BitVec.ofNat 32 b = BitVec.ofNat 32 (a ||| b)
  apply BitVec.eq_of_getLsbD_eq
  intro i hi
  simp [hi]
theorem z_or0 (x : Int32) : x ||| nI 0 = x := by
  apply Int32.toBitVec_inj.1
  show x.toBitVec ||| 0#32 = x.toBitVec
  simp
theorem z_sh1 {t : Nat} (h : t < 11) : nI 1 <<< (nI t &&& 31) = nI (2 ^ t) := by
  match t, h with
  | 0, _ => decide
  | 1, _ => decide
  | 2, _ => decide
  | 3, _ => decide
  | 4, _ => decide
  | 5, _ => decide
  | 6, _ => decide
  | 7, _ => decide
  | 8, _ => decide
  | 9, _ => decide
  | 10, _ => decide
theorem z_mask {n m k : Nat} (hm : m < 2 ^ k) (hn : 2 ^ k ≤ n) (hn2 : n < 2 ^ 31) : ¬ (nI n &&& (nI m ^^^ (-1 : Int32))) = 0 := by
  intro h
  obtain ⟨i, hi, hb⟩ := Nat.exists_ge_and_testBit_of_ge_two_pow hn
  have h31 : i < 31 := by
    rcases Nat.lt_or_ge i 31 with q | q
    · exact q
    · rw [Nat.testBit_lt_two_pow (Nat.lt_of_lt_of_le hn2 (Nat.pow_le_pow_right (by decide) q))] at hb
      cases hb
  have hmb : m.testBit i = false := Nat.testBit_lt_two_pow (Nat.lt_of_lt_of_le hm (Nat.pow_le_pow_right (by decide) hi))
  have h2 : (BitVec.ofNat 32 n &&& (BitVec.ofNat 32 m ^^^ BitVec.allOnes 32)) = 0#32 := congrArg Int32.toBitVec h
  have h3 : (BitVec.ofNat 32 n &&& (BitVec.ofNat 32 m ^^^ BitVec.allOnes 32)).getLsbD i = (0#32).getLsbD i := congrArg (fun x : BitVec 32 => x.getLsbD i) h2
  have h32 : i < 32 := by omega
  have z : (0#32).getLsbD i = false := by simp
  have t : (BitVec.ofNat 32 n &&& (BitVec.ofNat 32 m ^^^ BitVec.allOnes 32)).getLsbD i = true := by
    rw [BitVec.getLsbD_and, BitVec.getLsbD_xor, BitVec.getLsbD_ofNat, BitVec.getLsbD_ofNat, BitVec.getLsbD_allOnes, hb, hmb, decide_eq_true h32]
    rfl
  rw [z, t] at h3
  cases h3
/-- the minutes of a set of trailers -/
def lenR (a : Nat → Nat) (v : Int32) : Nat := zsm (fun t => if ((v >>> (nI t &&& 31)) &&& nI 1) = 0 then 0 else trl a t 1) 0 (a 3)
theorem zsm_le {f : Nat → Nat} {c : Nat} : ∀ (m s : Nat), (∀ k, s ≤ k → k < s + m → f k ≤ c) → zsm f s m ≤ m * c
  | 0, _, _ => Nat.zero_le _
  | m + 1, s, h => by
    have h1 := zsm_le (f := f) (c := c) m (s + 1) (fun k h1 h2 => h k (by omega) (by omega))
    have h2 := h s (Nat.le_refl s) (by omega)
    rw [zsm, Nat.succ_mul]
    omega
theorem lenR_le {a : Nat → Nat} (hG : Gd a) (v : Int32) : lenR a v ≤ 60 := by
  have h3 := hG.c3
  have h := zsm_le (f := fun t => if ((v >>> (nI t &&& 31)) &&& nI 1) = 0 then 0 else trl a t 1) (c := 6) (a 3) 0 (fun k _ hk => by
    have hT := hG.2.2.2.1 k (by omega)
    show (if _ then 0 else trl a k 1) ≤ 6
    split <;> omega)
  unfold lenR
  omega
theorem bit01 (x : Int32) : x &&& nI 1 = 0 ∨ x &&& nI 1 = nI 1 := by
  obtain ⟨j, hj, e⟩ := pk_andE x (m := nI 1) 1 (by decide)
  rw [e]
  match j, hj with
  | 0, _ => exact Or.inl nI_0
  | 1, _ => exact Or.inr rfl
section RE
variable {X Y : Nat → Nat → Int32} {a : Nat → Nat}
theorem n_reelMinutes (h : zRB X 1 a) (hG : Gd a) (v : Int32) : f_X3_reelMinutes X v = some (nI (lenR a v)) := by
  have h3 := hG.c3
  have key : ∀ (n s acc fu : Nat), s + n = a 3 → n < fu → f_X3_reelMinutes_L4 X v fu (nI acc) (nI s) = some (nI (acc + zsm (fun t => if ((v >>> (nI t &&& 31)) &&& nI 1) = 0 then 0 else trl a t 1) s n)) := by
    intro n
    induction n with
    | zero =>
      intro s acc fu hs hf
      obtain ⟨f, rfl, -⟩ := fu_s hf
      rw [f_X3_reelMinutes_L4, n_size (n_nT h), if_pos (nI_le (by omega) (by omega))]
      rfl
    | succ n ih =>
      intro s acc fu hs hf
      obtain ⟨f, rfl, hf2⟩ := fu_s hf
      have hx : s < a 3 := by omega
      rw [f_X3_reelMinutes_L4, n_size (n_nT h), if_neg (nI_ge hx (by omega)), n_trl h hG hx (by decide), nI_1, zsm]
      by_cases hc : ((v >>> (nI s &&& 31)) &&& nI 1) = 0
      · rw [if_pos hc, if_pos hc, ih (s + 1) _ f (by omega) (hf2 n rfl), Nat.zero_add]
      · rw [if_neg hc, if_neg hc, nI_add, ih (s + 1) _ f (by omega) (hf2 n rfl), Nat.add_assoc]
  have h1 := key (a 3) 0 0 zFuel (Nat.zero_add _) (by show a 3 < 5000; omega)
  rw [Nat.zero_add] at h1
  exact h1
theorem m_nT (hR : RM (Y 1) a) : Y 1 (nI 3).toNatClampNeg = nI (a 3) := hR.lo (by decide)
theorem m_lengthOf (hR : RM (Y 1) a) (hG : Gd a) (v : Int32) : f_X6_lengthOf Y v = some (nI (lenR a v)) := by
  have h3 := hG.c3
  have key : ∀ (n s acc fu : Nat), s + n = a 3 → n < fu → f_X6_lengthOf_L4 Y v fu (nI acc) (nI s) = some (nI (acc + zsm (fun t => if ((v >>> (nI t &&& 31)) &&& nI 1) = 0 then 0 else trl a t 1) s n)) := by
    intro n
    induction n with
    | zero =>
      intro s acc fu hs hf
      obtain ⟨f, rfl, -⟩ := fu_s hf
      rw [f_X6_lengthOf_L4, m_nT hR, if_pos (nI_le (by omega) (by omega))]
      rfl
    | succ n ih =>
      intro s acc fu hs hf
      obtain ⟨f, rfl, hf2⟩ := fu_s hf
      have hx : s < a 3 := by omega
      rw [f_X6_lengthOf_L4, m_nT hR, if_neg (nI_ge hx (by omega)), m_trl hR (by omega) (by decide), nI_1, zsm]
      rcases bit01 (v >>> (nI s &&& 31)) with hc | hc
      · rw [if_neg (by rw [hc]; decide), if_pos hc, nI_add, ih (s + 1) _ f (by omega) (hf2 n rfl)]
        congr 3
        omega
      · rw [if_pos hc, if_neg (by rw [hc]; decide), Option.bind_some, nI_add, ih (s + 1) _ f (by omega) (hf2 n rfl), Nat.add_assoc]
  have h1 := key (a 3) 0 0 zFuel (Nat.zero_add _) (by show a 3 < 5000; omega)
  rw [Nat.zero_add] at h1
  exact h1
end RE
def zfb (a : Nat → Nat) (t f d : Nat) : Bool := decide (trl a t 0 ≠ f) && decide (d < flm a (trl a t 0) 4) && decide (trl a t 2 ≤ flm a f 1) && decide (¬ (nI (trl a t 3) &&& nI (flm a f 2)) = 0)
theorem zfb_iff {a : Nat → Nat} {t f d : Nat} : zfb a t f d = true ↔ zfit a t f d := by
  unfold zfb zfit
  simp only [Bool.and_eq_true, decide_eq_true_eq, and_assoc]
def fmk (P : Nat → Bool) : Nat → Nat → Nat → Nat
  | _, 0, acc => acc
  | s, n + 1, acc => fmk P (s + 1) n (if P s = true then acc ||| 2 ^ s else acc)
theorem fmk_lt (P : Nat → Bool) : ∀ (n s acc : Nat), acc < 2 ^ s → fmk P s n acc < 2 ^ (s + n)
  | 0, s, acc, h => h
  | n + 1, s, acc, h => by
    have e : s + (n + 1) = s + 1 + n := by omega
    have h2 : (2 : Nat) ^ s < 2 ^ (s + 1) := Nat.pow_lt_pow_right (by decide) (by omega)
    rw [fmk, e]
    refine fmk_lt P n (s + 1) _ ?_
    split
    · exact Nat.or_lt_two_pow (by omega) h2
    · omega
/-- the trailers that fit, as a set -/
def maskA (a : Nat → Nat) (f d : Nat) : Nat := fmk (fun t => zfb a t f d) 0 (a 3) 0
theorem maskA_lt (a : Nat → Nat) (f d : Nat) : maskA a f d < 2 ^ a 3 := by
  have h := fmk_lt (fun t => zfb a t f d) (a 3) 0 0 (by decide)
  rw [Nat.zero_add] at h
  exact h
/-- a reel takes the place of the best one so far -/
def rTake (a : Nat → Nat) (mk b r : Nat) : Prop := (nI r &&& (nI mk ^^^ (-1 : Int32))) = 0 ∧ ¬ nI 4 < f_J6_bitCount_0f7a4 (nI r) ∧ lenR a (nI r) ≤ a 11 ∧ (lenR a (nI b) < lenR a (nI r) ∨ (lenR a (nI r) = lenR a (nI b) ∧ ¬ f_X3_isAhead (nI r) (nI b) = 0))
noncomputable def rFold (a : Nat → Nat) (mk : Nat) : Nat → Nat → Nat → Nat
  | _, 0, b => b
  | r, n + 1, b => rFold a mk (r + 1) n (@ite _ (rTake a mk b r) (Classical.propDecidable _) r b)
theorem rFold_t {a : Nat → Nat} {mk r n b : Nat} (h : rTake a mk b r) : rFold a mk r (n + 1) b = rFold a mk (r + 1) n r := by rw [rFold, if_pos h]
theorem rFold_f {a : Nat → Nat} {mk r n b : Nat} (h : ¬ rTake a mk b r) : rFold a mk r (n + 1) b = rFold a mk (r + 1) n b := by rw [rFold, if_neg h]
noncomputable def bestR (a : Nat → Nat) (f d : Nat) : Nat := rFold a (maskA a f d) 1 1023 0
theorem rFold_add {a : Nat → Nat} {mk : Nat} : ∀ (n m r b : Nat), rFold a mk r (n + m) b = rFold a mk (r + n) m (rFold a mk r n b)
  | 0, m, r, b => by rw [Nat.zero_add, Nat.add_zero]; rfl
  | n + 1, m, r, b => by
    rw [show n + 1 + m = n + m + 1 by omega, show r + (n + 1) = r + 1 + n by omega]
    by_cases h : rTake a mk b r
    · rw [rFold_t h, rFold_t h, rFold_add n m (r + 1) r]
    · rw [rFold_f h, rFold_f h, rFold_add n m (r + 1) b]
theorem rFold_off {a : Nat → Nat} {mk k : Nat} (hm : mk < 2 ^ k) : ∀ (n r b : Nat), 2 ^ k ≤ r → r + n < 2 ^ 31 → rFold a mk r n b = b
  | 0, r, b, _, _ => rfl
  | n + 1, r, b, h1, h2 => by
    rw [rFold_f (fun q => z_mask hm h1 (by omega) q.1)]
    exact rFold_off hm n (r + 1) b (by omega) (by omega)
theorem rFold_lt {a : Nat → Nat} {mk : Nat} : ∀ (n r b : Nat), b < 1024 → r + n ≤ 1024 → rFold a mk r n b < 1024
  | 0, r, b, h, _ => h
  | n + 1, r, b, h, h2 => by
    by_cases q : rTake a mk b r
    · rw [rFold_t q]; exact rFold_lt n (r + 1) r (by omega) (by omega)
    · rw [rFold_f q]; exact rFold_lt n (r + 1) b h (by omega)
theorem bestR_lt (a : Nat → Nat) (f d : Nat) : bestR a f d < 1024 := rFold_lt 1023 1 0 (by decide) (by decide)
theorem rFold_blk {a : Nat → Nat} {mk : Nat} : ∀ (n r b : Nat), lenR a (nI b) ≤ a 11 → lenR a (nI (rFold a mk r n b)) ≤ a 11
  | 0, r, b, h => h
  | n + 1, r, b, h => by
    by_cases q : rTake a mk b r
    · rw [rFold_t q]; exact rFold_blk n (r + 1) r q.2.2.1
    · rw [rFold_f q]; exact rFold_blk n (r + 1) b h
theorem lenR_0 (a : Nat → Nat) : lenR a (nI 0) = 0 := by
  have h : ∀ n s, zsm (fun t => if ((nI 0 >>> (nI t &&& 31)) &&& nI 1) = 0 then 0 else trl a t 1) s n = 0 := by
    intro n
    induction n with
    | zero => intro s; rfl
    | succ n ih =>
      intro s
      have e : ((nI 0 >>> (nI s &&& 31)) &&& nI 1) = 0 := by
        rw [nI_0]
        rcases bit01 ((0 : Int32) >>> (nI s &&& 31)) with q | q
        · exact q
        · have : (0 : Int32) >>> (nI s &&& 31) = 0 := by
            apply Int32.toBitVec_inj.1
            simp
          rw [this]
          decide
      rw [zsm, if_pos e, ih (s + 1)]
  exact h (a 3) 0
theorem bestR_blk (a : Nat → Nat) (f d : Nat) : lenR a (nI (bestR a f d)) ≤ a 11 := rFold_blk 1023 1 0 (by rw [lenR_0]; exact Nat.zero_le _)
