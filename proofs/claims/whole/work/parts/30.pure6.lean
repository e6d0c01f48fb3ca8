theorem l_nlt {x y : Int64} : ¬ x < y ↔ y ≤ x := by rw [Int64.le_iff_toInt_le, Int64.lt_iff_toInt_lt]; omega
theorem l_of {a b : Int32} : a.toInt64 ≤ b.toInt64 ↔ a ≤ b := by
  rw [Int64.le_iff_toInt_le, Int32.le_iff_toInt_le, Int32.toInt_toInt64, Int32.toInt_toInt64]
theorem l_sum9 {a m c : Nat} (ha : a < 2 ^ 31) (hm : m < 2 ^ 31) (hc : c < 2 ^ 31) : (nI c).toInt64 < (nI a).toInt64 + (nI m).toInt64 ↔ c < a + m := by
  rw [nI_l hc, nI_l ha, nI_l hm, lN_add]
  exact pk_lLT (by omega) (by omega)
theorem ff_sg_cmp {a b : Int32} (ha : 0 ≤ a.toInt ∧ a.toInt ≤ 127) (hb : 0 ≤ b.toInt ∧ b.toInt ≤ 127) : ff_sg (a - b) = if b < a then 1 else if a < b then -1 else 0 := by
  obtain ⟨x, hx, rfl⟩ := ff_nat9 ha.1 ha.2
  obtain ⟨y, hy, rfl⟩ := ff_nat9 hb.1 hb.2
  have e : (nI x - nI y).toInt = (x : Int) - y := pk_sub_toInt (by omega) (by omega)
  have h0 : (nI x - nI y = 0) ↔ x = y := by
    rw [← Int32.toInt_inj, e]
    have : (0 : Int32).toInt = 0 := rfl
    omega
  have h1 : (nI x - nI y < 0) ↔ x < y := by
    rw [Int32.lt_iff_toInt_lt, e]
    have : (0 : Int32).toInt = 0 := rfl
    omega
  have h2 : (nI y < nI x) ↔ y < x := nI_ltI (by omega) (by omega)
  have h3 : (nI x < nI y) ↔ x < y := nI_ltI (by omega) (by omega)
  unfold ff_sg
  simp only [h0, h1, h2, h3]
  rcases Nat.lt_trichotomy x y with h | h | h
  · have e1 : ¬ x = y := by omega
    have e2 : ¬ y < x := by omega
    simp [e1, e2, h]
  · subst h; simp
  · have e1 : ¬ x = y := by omega
    have e2 : ¬ x < y := by omega
    simp [e1, e2, h]
/-- congruence in the items below n -/
theorem ff_run_congr {f g : Nat → Int32} {n : Nat} (h : ∀ t, t < n → f t = g t) : ∀ k i j, i + k ≤ n → j + k ≤ n → ff_run f i j k = ff_run g i j k
  | 0, _, _, _, _ => rfl
  | k + 1, i, j, hi, hj => by
    unfold ff_run
    rw [h i (by omega), h j (by omega), ff_run_congr h k (i + 1) (j + 1) (by omega) (by omega)]
theorem ff_it_congr {P L P' L' : Nat → Int32} {n v i : Nat} (hP : ∀ t, t < n → P t = P' t) (hL : ∀ t, t < n → L t = L' t) (hi : i < ff_cnt v n) (hv : v ≤ 4) : ff_it P L v i = ff_it P' L' v i := by
  have h0 : i < n := Nat.lt_of_lt_of_le hi (ff_cnt_le v n)
  have e1 := hP i h0
  have e2 := hL i h0
  unfold ff_it
  rw [e1, e2]
  split
  · rfl
  · split
    · rename_i h
      rw [hP (i + 1) (by unfold ff_cnt at hi; rw [if_pos (Or.inl h)] at hi; omega)]
    · split
      · rename_i h
        rw [hP (i + 1) (by unfold ff_cnt at hi; rw [if_pos (Or.inr h)] at hi; omega)]
      · rfl
theorem ff_came_congr {f g : Nat → Int32} {n q j : Nat} (h : ∀ t, t < n → f t = g t) (hj : j ≤ n) : ff_came f n q j = ff_came g n q j := by
  unfold ff_came
  have : ∀ k, k ≤ j → ff_any (fun t => decide (q ≤ ff_run f t j (n - j))) k = ff_any (fun t => decide (q ≤ ff_run g t j (n - j))) k := by
    intro k
    induction k with
    | zero => intro _; rfl
    | succ k ih =>
      intro hk
      show (ff_any _ k || decide (q ≤ ff_run f k j (n - j))) = (ff_any _ k || decide (q ≤ ff_run g k j (n - j)))
      rw [ih (by omega), ff_run_congr h (n - j) k j (by omega) (by omega)]
  exact this j (Nat.le_refl _)
theorem ff_pas_congr {f g : Nat → Int32} {n q : Nat} (h : ∀ t, t < n → f t = g t) (hq : 1 ≤ q) : ff_pas f n q = ff_pas g n q := by
  unfold ff_pas
  refine ff_ct_ext (fun t ht => ?_)
  rw [ff_came_congr h (by omega)]
theorem ff_pl_congr {f g : Nat → Int32} {n : Nat} (h : ∀ t, t < n → f t = g t) : ∀ k p, p + k ≤ n ∨ k = 0 → ff_pl f n p k = ff_pl g n p k
  | 0, _, _ => rfl
  | k + 1, p, hp => by
    unfold ff_pl
    rw [ff_run_congr h (n - p) 0 p (by omega) (by omega), ff_pl_congr h k (p + 1) (by omega)]
theorem ff_per_congr {f g : Nat → Int32} {n : Nat} (h : ∀ t, t < n → f t = g t) : ff_per f n = ff_per g n := ff_pl_congr h _ _ (by omega)
theorem ff_same_congr {f g : Nat → Int32} {n i j q : Nat} (h : ∀ t, t < n → f t = g t) (hi : i + q ≤ n) (hj : j + q ≤ n) : ff_same f i j q = ff_same g i j q := by
  unfold ff_same
  refine ff_ct_ext (fun t ht => ?_)
  rw [h (i + t) (by omega), h (j + t) (by omega)]
theorem ff_rl_congr {f g : Nat → Int32} {n i j : Nat} (h : ∀ t, t < n → f t = g t) (hij : i < j) (hj : j < n) : ff_rl f n i j = ff_rl g n i j := by
  unfold ff_rl
  rw [h (i - 1) (by omega), h (j - 1) (by omega), ff_run_congr h (n - j) i j (by omega) (by omega)]
theorem ff_rw_in {n i : Nat} {q : Nat × Nat} (h : q ∈ ff_rw i n) : q.1 < q.2 ∧ q.2 < n := by
  unfold ff_rw at h
  obtain ⟨t, ht, rfl⟩ := List.mem_map.mp h
  have := List.mem_range.mp ht
  exact ⟨by show i < i + 1 + t; omega, by show i + 1 + t < n; omega⟩
theorem ff_ar_in {n : Nat} : ∀ {i : Nat} {q : Nat × Nat}, q ∈ ff_ar n i → q.1 < q.2 ∧ q.2 < n
  | 0, _, h => absurd h List.not_mem_nil
  | i + 1, q, h => by
    rcases List.mem_append.mp h with h | h
    · exact ff_ar_in h
    · exact ff_rw_in h
theorem ff_F_congr {r r' : Nat → Nat → Nat} {n i m : Nat} (h : ∀ a b, a < b → b < n → r a b = r' a b) : ff_F r m (ff_ar n i) = ff_F r' m (ff_ar n i) := by
  unfold ff_F
  refine List.filter_congr (fun q hq => ?_)
  obtain ⟨h1, h2⟩ := ff_ar_in hq
  rw [h _ _ h1 h2]
theorem ff_cn_congr {r r' : Nat → Nat → Nat} {n least : Nat} (h : ∀ a b, a < b → b < n → r a b = r' a b) : ff_cn r least (ff_ar n n) = ff_cn r' least (ff_ar n n) := by
  funext m
  unfold ff_cn
  rw [ff_F_congr h]
theorem ff_rowsP_congr {r r' : Nat → Nat → Nat} {n least : Nat} {G : Nat → Nat} {row : Nat → Int32} (h : ∀ a b, a < b → b < n → r a b = r' a b) (hr : ff_rowsP r least G (ff_ar n n) row) : ff_rowsP r' least G (ff_ar n n) row := by
  intro m h1 h2 t q hq
  rw [← ff_F_congr h] at hq
  exact hr m h1 h2 t q hq
/-- lowest and highest as the check finds them -/
def ff_lo (P : Nat → Int32) (s : Nat) : Nat → Int32
  | 0 => nI 127
  | t + 1 => if P (s + t) < ff_lo P s t then P (s + t) else ff_lo P s t
def ff_hi (P : Nat → Int32) (s : Nat) : Nat → Int32
  | 0 => nI 0
  | t + 1 => if ff_hi P s t < P (s + t) then P (s + t) else ff_hi P s t
theorem ff_lo_eq {P : Nat → Int32} {s : Nat} : ∀ t, (∀ x, x < t + 1 → 0 ≤ (P (s + x)).toInt ∧ (P (s + x)).toInt ≤ 127) → ff_lo P s (t + 1) = ff_mn P s (t + 1) ∧ ff_hi P s (t + 1) = ff_mx P s (t + 1)
  | 0, h => by
    have h0 := h 0 (by omega)
    rw [Nat.add_zero] at h0
    constructor
    · show (if P (s + 0) < nI 127 then P (s + 0) else nI 127) = (if P (s + 0) < P s then P (s + 0) else P s)
      rw [Nat.add_zero]
      split
      · split <;> rfl
      · rename_i hn
        have : P s = nI 127 := by
          rw [Int32.lt_iff_toInt_lt, nI_toInt (by decide)] at hn
          exact Int32.toInt_inj.mp (by rw [nI_toInt (by decide)]; omega)
        split <;> exact this.symm
    · show (if nI 0 < P (s + 0) then P (s + 0) else nI 0) = (if P s < P (s + 0) then P (s + 0) else P s)
      rw [Nat.add_zero]
      split
      · split <;> rfl
      · rename_i hn
        have : P s = nI 0 := by
          rw [Int32.lt_iff_toInt_lt, nI_toInt (by decide)] at hn
          exact Int32.toInt_inj.mp (by rw [nI_toInt (by decide)]; omega)
        split <;> exact this.symm
  | t + 1, h => by
    obtain ⟨e1, e2⟩ := ff_lo_eq t (fun x hx => h x (by omega))
    constructor
    · show (if P (s + (t + 1)) < ff_lo P s (t + 1) then _ else ff_lo P s (t + 1)) = (if P (s + (t + 1)) < ff_mn P s (t + 1) then _ else ff_mn P s (t + 1))
      rw [e1]
    · show (if ff_hi P s (t + 1) < P (s + (t + 1)) then _ else ff_hi P s (t + 1)) = (if ff_mx P s (t + 1) < P (s + (t + 1)) then _ else ff_mx P s (t + 1))
      rw [e2]
theorem ff_rem12 {x : Int32} {ky : Nat} (h1 : 0 ≤ x.toInt) (h2 : x.toInt ≤ 127) (hk : ky ≤ 11) : ((x + nI 120 - nI ky - nI 7) - (x + nI 120 - nI ky - nI 7) / nI 12 * nI 12 = 0) ↔ (x.toInt + 113 - (ky : Int)) % 12 = 0 := by
  obtain ⟨a, ha, rfl⟩ := ff_nat9 h1 h2
  rw [nI_add, pk_sub (by omega), pk_sub (by omega), pk_rem (by omega) (by decide) (by decide), nI_toInt (by omega), nz_eq (by omega)]
  omega
/-- what is sought lies at z, all of it among n -/
def ff_go (n : Nat) (P T : Nat → Int32) (mn z : Nat) : Bool := decide (z + mn ≤ n) && ff_all (fun t => decide (t = 0) || decide (P (z + t) - P (z + t - 1) = T t - T (t - 1))) mn
theorem ff_go_t {n mn z r : Nat} {P T : Nat → Int32} (h : z + mn ≤ n ∧ ff_all (fun t => decide (t = 0) || decide (P (z + t) - P (z + t - 1) = T t - T (t - 1))) (1 + r) = true) (c : P (z + (1 + r)) - P (z + (1 + r) - 1) = T (1 + r) - T (1 + r - 1)) : z + mn ≤ n ∧ ff_all (fun t => decide (t = 0) || decide (P (z + t) - P (z + t - 1) = T t - T (t - 1))) (1 + (r + 1)) = true := by
  refine ⟨h.1, ?_⟩
  rw [show 1 + (r + 1) = (1 + r) + 1 by omega]
  show (ff_all _ (1 + r) && _) = true
  rw [h.2, Bool.true_and, Bool.or_eq_true]
  exact Or.inr (decide_eq_true c)
theorem ff_go_f {n mn z r : Nat} {P T : Nat → Int32} (hr : 0 < 1 + r) (c : ¬ P (z + (1 + r)) - P (z + (1 + r) - 1) = T (1 + r) - T (1 + r - 1)) : ¬ (z + mn ≤ n ∧ ff_all (fun t => decide (t = 0) || decide (P (z + t) - P (z + t - 1) = T t - T (t - 1))) (1 + (r + 1)) = true) := by
  rintro ⟨-, h⟩
  rw [ff_all_iff] at h
  have := h (1 + r) (by omega)
  rw [Bool.or_eq_true] at this
  rcases this with q | q
  · exact absurd (of_decide_eq_true q) (by omega)
  · exact c (of_decide_eq_true q)
theorem ff_go_e {n mn z r : Nat} {P T : Nat → Int32} (h : 1 + r = mn) : (z + mn ≤ n ∧ ff_all (fun t => decide (t = 0) || decide (P (z + t) - P (z + t - 1) = T t - T (t - 1))) (1 + r) = true) ↔ (decide (z + mn ≤ n) && ff_all (fun t => decide (t = 0) || decide (P (z + t) - P (z + t - 1) = T t - T (t - 1))) mn) = true := by
  rw [Bool.and_eq_true, decide_eq_true_iff, h]
theorem ff_all_mono {p : Nat → Bool} {a b : Nat} (h : a ≤ b) (hb : ff_all p b = true) : ff_all p a = true := (ff_all_iff p a).mpr (fun t ht => (ff_all_iff p b).mp hb t (by omega))
theorem ff_go_n {n mn z r : Nat} {P T : Nat → Int32} (hr : 1 + r ≤ mn) (h : ¬ (z + mn ≤ n ∧ ff_all (fun t => decide (t = 0) || decide (P (z + t) - P (z + t - 1) = T t - T (t - 1))) (1 + r) = true)) : (z + mn ≤ n ∧ ff_all (fun t => decide (t = 0) || decide (P (z + t) - P (z + t - 1) = T t - T (t - 1))) (1 + r) = true) ↔ (decide (z + mn ≤ n) && ff_all (fun t => decide (t = 0) || decide (P (z + t) - P (z + t - 1) = T t - T (t - 1))) mn) = true := by
  rw [Bool.and_eq_true, decide_eq_true_iff]
  exact ⟨fun q => absurd q h, fun q => absurd ⟨q.1, ff_all_mono hr q.2⟩ h⟩
