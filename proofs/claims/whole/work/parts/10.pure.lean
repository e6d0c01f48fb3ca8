/-! the words in which both sides are said -/
def ff_run (f : Nat → Int32) : Nat → Nat → Nat → Nat
  | _, _, 0 => 0
  | i, j, k + 1 => if f i = f j then ff_run f (i + 1) (j + 1) k + 1 else 0
theorem ff_run_le (f : Nat → Int32) : ∀ k i j : Nat, ff_run f i j k ≤ k
  | 0, _, _ => Nat.le_refl 0
  | k + 1, i, j => by
    unfold ff_run
    split
    · exact Nat.succ_le_succ (ff_run_le f k (i + 1) (j + 1))
    · exact Nat.zero_le _
theorem ff_run_eq (f : Nat → Int32) : ∀ r k i j : Nat, r ≤ k → (∀ t, t < r → f (i + t) = f (j + t)) → (r = k ∨ ¬ f (i + r) = f (j + r)) → ff_run f i j k = r
  | 0, 0, _, _, _, _, _ => rfl
  | 0, k + 1, i, j, _, _, h => by
    rcases h with h | h
    · exact absurd h (by omega)
    · exact if_neg h
  | r + 1, 0, _, _, h, _, _ => absurd h (by omega)
  | r + 1, k + 1, i, j, h, he, hx => by
    have h0 : f i = f j := he 0 (by omega)
    unfold ff_run
    rw [if_pos h0, ff_run_eq f r k (i + 1) (j + 1) (by omega) (fun t ht => by have := he (t + 1) (by omega); rw [show i + 1 + t = i + (t + 1) by omega, show j + 1 + t = j + (t + 1) by omega]; exact this) (by
      rcases hx with hx | hx
      · exact Or.inl (by omega)
      · refine Or.inr ?_
        rw [show i + 1 + r = i + (r + 1) by omega, show j + 1 + r = j + (r + 1) by omega]
        exact hx)]
/-- how many numbers below k have p -/
def ff_ct (p : Nat → Bool) : Nat → Nat
  | 0 => 0
  | k + 1 => ff_ct p k + (if p k = true then 1 else 0)
theorem ff_ct_le (p : Nat → Bool) : ∀ k, ff_ct p k ≤ k
  | 0 => Nat.le_refl 0
  | k + 1 => by have := ff_ct_le p k; unfold ff_ct; split <;> omega
theorem ff_ct_t {p : Nat → Bool} {k : Nat} (h : p k = true) : ff_ct p (k + 1) = ff_ct p k + 1 := by
  show ff_ct p k + (if p k = true then 1 else 0) = _
  rw [if_pos h]
theorem ff_ct_f {p : Nat → Bool} {k : Nat} (h : ¬ p k = true) : ff_ct p (k + 1) = ff_ct p k := by
  show ff_ct p k + (if p k = true then 1 else 0) = _
  rw [if_neg h]; rfl
def ff_any (p : Nat → Bool) : Nat → Bool
  | 0 => false
  | k + 1 => ff_any p k || p k
theorem ff_any_iff (p : Nat → Bool) : ∀ n, ff_any p n = true ↔ ∃ t, t < n ∧ p t = true
  | 0 => ⟨fun h => (by simp [ff_any] at h), fun ⟨t, h, _⟩ => absurd h (Nat.not_lt_zero _)⟩
  | n + 1 => by
    show (ff_any p n || p n) = true ↔ _
    rw [Bool.or_eq_true, ff_any_iff p n]
    constructor
    · rintro (⟨t, h1, h2⟩ | h)
      · exact ⟨t, by omega, h2⟩
      · exact ⟨n, by omega, h⟩
    · rintro ⟨t, h1, h2⟩
      by_cases h : t = n
      · subst h; exact Or.inr h2
      · exact Or.inl ⟨t, by omega, h2⟩
/-- a row of m from j on came before, among n items -/
def ff_came (f : Nat → Int32) (n m j : Nat) : Bool := ff_any (fun t => decide (m ≤ ff_run f t j (n - j))) j
def ff_pas (f : Nat → Int32) (n m : Nat) : Nat := ff_ct (fun j => !ff_came f n m j) (n + 1 - m)
def ff_pl (f : Nat → Int32) (n : Nat) : Nat → Nat → Nat
  | _, 0 => n
  | p, k + 1 => if ff_run f 0 p (n - p) = n - p then p else ff_pl f n (p + 1) k
def ff_per (f : Nat → Int32) (n : Nat) : Nat := ff_pl f n 1 (n - 1)
def ff_same (f : Nat → Int32) (i j m : Nat) : Nat := ff_ct (fun t => decide (f (i + t) = f (j + t))) m
def ff_sg (x : Int32) : Int32 := if x = 0 then 0 else if x < 0 then -1 else 1
/-- item i of view v -/
def ff_it (P L : Nat → Int32) (v i : Nat) : Int32 := if v = 0 then P i else if v = 1 then P (i + 1) - P i else if v = 2 then ff_sg (P (i + 1) - P i) else if v = 3 then L i else P i * 1000 + L i
def ff_cnt (v n : Nat) : Nat := if v = 1 ∨ v = 2 then n - 1 else n
theorem ff_cnt_le (v n : Nat) : ff_cnt v n ≤ n := by unfold ff_cnt; split <;> omega
/-- the m of the repeat that begins at i, j; 0: none -/
def ff_rl (f : Nat → Int32) (n i j : Nat) : Nat := if 0 < i ∧ f (i - 1) = f (j - 1) then 0 else ff_run f i j (n - j)
theorem ff_sg_eq (x : Int32) : (x >>> ((nI 31) &&& 31)) ||| (Int32.toUInt32 (-x) >>> (Int32.toUInt32 (nI 31) &&& Int32.toUInt32 31)).toInt32 = ff_sg x := by
  have h1 := pk_shr x (nI 31 &&& 31) 31 (by decide)
  have h2 := pk_ushr (-x) (nI 31) 31 (by decide)
  have hlo := Int32.minValue_le_toInt x
  have hhi := Int32.toInt_lt x
  have hlo' : -2147483648 ≤ x.toInt := by simpa using hlo
  have hhi' : x.toInt < 2147483648 := by simpa using hhi
  generalize ha : x >>> (nI 31 &&& 31) = a at h1 ⊢
  generalize hb : (Int32.toUInt32 (-x) >>> (Int32.toUInt32 (nI 31) &&& Int32.toUInt32 31)).toInt32 = b at h2 ⊢
  unfold ff_sg
  by_cases hz : x = 0
  · subst hz
    rw [if_pos rfl, ← ha, ← hb]
    decide
  · rw [if_neg hz]
    by_cases hn : x < 0
    · rw [if_pos hn]
      have hn' : x.toInt < 0 := by simpa [Int32.lt_iff_toInt_lt] using hn
      have ea : a = -1 := by
        apply Int32.toInt_inj.mp
        rw [h1, Int.shiftRight_eq_div_pow]
        show x.toInt / ((2 ^ 31 : Nat) : Int) = -1
        have : ((2 ^ 31 : Nat) : Int) = 2147483648 := by decide
        rw [this]
        omega
      rw [ea]
      apply Int32.toBitVec_inj.mp
      rw [Int32.toBitVec_or]
      show BitVec.allOnes 32 ||| b.toBitVec = BitVec.allOnes 32
      exact BitVec.allOnes_or
    · rw [if_neg hn]
      have hn' : 0 < x.toInt := by
        have h0 : ¬ x.toInt < 0 := fun q => hn (by simpa [Int32.lt_iff_toInt_lt] using q)
        have h3 : x.toInt ≠ 0 := fun q => hz (Int32.toInt_inj.mp (by rw [q]; rfl))
        omega
      have ea : a = 0 := by
        apply Int32.toInt_inj.mp
        rw [h1, Int.shiftRight_eq_div_pow]
        show x.toInt / ((2 ^ 31 : Nat) : Int) = 0
        have : ((2 ^ 31 : Nat) : Int) = 2147483648 := by decide
        rw [this]
        omega
      have hxn : (x.toBitVec.toNat : Int) = x.toInt := by
        have : x.toInt = x.toBitVec.toInt := rfl
        rw [this, BitVec.toInt_eq_toNat_cond]
        split
        · rfl
        · rename_i hh
          have h4 : x.toInt = x.toBitVec.toInt := rfl
          rw [BitVec.toInt_eq_toNat_cond, if_neg hh] at h4
          have := x.toBitVec.isLt
          omega
      have eb : b = 1 := by
        apply Int32.toBitVec_inj.mp
        apply BitVec.eq_of_toNat_eq
        rw [h2]
        have h5 : (-x).toBitVec.toNat = 2 ^ 32 - x.toBitVec.toNat := by
          have : (-x).toBitVec = -x.toBitVec := rfl
          rw [this, BitVec.toNat_neg, Nat.mod_eq_of_lt]
          have := x.toBitVec.isLt
          omega
        rw [h5]
        have := x.toBitVec.isLt
        show (2 ^ 32 - x.toBitVec.toNat) / 2 ^ 31 = 1
        omega
      rw [ea, eb]
      decide
