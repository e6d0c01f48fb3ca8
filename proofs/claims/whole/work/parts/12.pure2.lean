theorem i_nlt {x y : Int32} : ¬ x < y ↔ y ≤ x := by rw [Int32.le_iff_toInt_le, Int32.lt_iff_toInt_lt]; omega
theorem i_nle {x y : Int32} : ¬ x ≤ y ↔ y < x := by rw [Int32.le_iff_toInt_le, Int32.lt_iff_toInt_lt]; omega
theorem ff_cnt_ix {v n i : Nat} (h : i < ff_cnt v n) (hn : n ≤ 60) : i + 1 < 60 ∨ (i < 60 ∧ ¬ v = 1 ∧ ¬ v = 2) := by
  unfold ff_cnt at h
  split at h <;> omega
/-- the first k places filled with g -/
def ff_fill (g f : Nat → Int32) (k : Nat) : Nat → Int32 := fun i => if i < k then g i else f i
theorem ff_fill_0 (g f : Nat → Int32) : ff_fill g f 0 = f := by funext i; simp [ff_fill]
theorem ff_fill_s (g f : Nat → Int32) (k : Nat) : upd (ff_fill g f k) k (g k) = ff_fill g f (k + 1) := by
  funext i
  unfold upd ff_fill
  by_cases h : i = k
  · subst h; rw [if_pos rfl, if_pos (by omega)]
  · rw [if_neg h]
    by_cases h2 : i < k
    · rw [if_pos h2, if_pos (by omega)]
    · rw [if_neg h2, if_neg (by omega)]
theorem ff_fill_in {g f : Nat → Int32} {k i : Nat} (h : i < k) : ff_fill g f k i = g i := if_pos h
def ff_src (fo tn i : Nat) : Nat := if fo < 2 then i else tn - 1 - i
theorem ff_src_lt {fo tn i : Nat} (h : i < tn) : ff_src fo tn i < tn := by unfold ff_src; split <;> omega
/-- pitch of note i of a form -/
def ff_fp (T : Nat → Int32) (fo tn i : Nat) : Int32 := if fo = 1 ∨ fo = 3 then nI 2 * T (ff_src fo tn 0) - T (ff_src fo tn i) else T (ff_src fo tn i)
def ff_fl (T : Nat → Int32) (fo tn i : Nat) : Int32 := T (ff_src fo tn i)
/-- pitch of note i of the answer -/
def ff_ap (T : Nat → Int32) (ky hd i : Nat) : Int32 := T i + (if i < hd ∧ ((T i).toInt + 113 - (ky : Int)) % 12 = 0 then nI 5 else nI 7)
def ff_all (p : Nat → Bool) : Nat → Bool
  | 0 => true
  | k + 1 => ff_all p k && p k
theorem ff_all_iff (p : Nat → Bool) : ∀ n, ff_all p n = true ↔ ∀ t, t < n → p t = true
  | 0 => ⟨fun _ t h => absurd h (Nat.not_lt_zero _), fun _ => rfl⟩
  | n + 1 => by
    show (ff_all p n && p n) = true ↔ _
    rw [Bool.and_eq_true, ff_all_iff p n]
    constructor
    · rintro ⟨h1, h2⟩ t ht
      by_cases h : t = n
      · subst h; exact h2
      · exact h1 t (by omega)
    · intro h
      exact ⟨fun t ht => h t (by omega), h n (by omega)⟩
/-- what is sought, of sn notes, is found at z -/
def ff_at (NP NL SP SL : Nat → Int32) (sn : Nat) (up dn : Int32) (z : Nat) : Bool :=
  ff_all (fun t => (decide (t = 0) || decide (NP (z + t) - NP (z + t - 1) = SP t - SP (t - 1))) && decide (NL (z + t) * dn = SL t * up)) sn
/-- floorMod by 12 of a small number -/
theorem ff_fm {x : Int32} {z : Int} (hx : x.toInt = z) (h1 : -11 ≤ z) (h2 : z ≤ 127) :
    (z = 0 ∨ 0 < z → (x - x / nI 12 * nI 12) = nI (z % 12).toNat) ∧ (z < 0 → (x - x / nI 12 * nI 12) = x) := by
  have key : ∀ a : Fin 128, (nI a.val - nI a.val / nI 12 * nI 12) = nI (a.val % 12) := by decide +kernel
  have key2 : ∀ a : Fin 12, ((-(nI a.val)) - (-(nI a.val)) / nI 12 * nI 12) = -(nI a.val) := by decide +kernel
  constructor
  · intro h
    obtain ⟨a, ha⟩ : ∃ a : Nat, z = a := ⟨z.toNat, by omega⟩
    have hxa : x = nI a := Int32.toInt_inj.mp (by rw [hx, nI_toInt (by omega), ha])
    have := key ⟨a, by omega⟩
    rw [hxa, this]
    congr 1
    show a % 12 = (z % 12).toNat
    omega
  · intro h
    obtain ⟨a, ha⟩ : ∃ a : Nat, z = -(a : Int) := ⟨(-z).toNat, by omega⟩
    have hxa : x = -(nI a) := Int32.toInt_inj.mp (by rw [hx, sb_negT (by omega), ha])
    have := key2 ⟨a, by omega⟩
    rw [hxa]; exact this
theorem ff_fm2 {x : Int32} {z : Int} (hx : x.toInt = z) (h1 : -11 ≤ z) (h2 : z < 0) : x + nI 12 = nI (z % 12).toNat := by
  obtain ⟨a, ha⟩ : ∃ a : Nat, z = -(a : Int) := ⟨(-z).toNat, by omega⟩
  have hxa : x = -(nI a) := Int32.toInt_inj.mp (by rw [hx, sb_negT (by omega), ha])
  have key : ∀ a : Fin 12, a.val = 0 ∨ (-(nI a.val)) + nI 12 = nI (12 - a.val) := by decide +kernel
  rcases key ⟨a, by omega⟩ with h | h
  · have h3 : a = 0 := h
    omega
  · rw [hxa, h]
    congr 1
    show 12 - a = _
    omega
theorem ff_xor {a : Nat} (h : a < 128) : 0 ≤ (nI a ^^^ nI 12) := by
  have key : ∀ a : Fin 128, 0 ≤ (nI a.val ^^^ nI 12) := by decide +kernel
  exact key ⟨a, h⟩
theorem ff_xor2 {a : Nat} (h0 : 0 < a) (h : a < 12) : ¬ 0 ≤ ((-(nI a)) ^^^ nI 12) := by
  have key : ∀ a : Fin 12, a.val = 0 ∨ ¬ 0 ≤ ((-(nI a.val)) ^^^ nI 12) := by decide +kernel
  rcases key ⟨a, h⟩ with h1 | h1
  · have : a = 0 := h1
    omega
  · exact h1
theorem ff_fm0 {x : Int32} {z : Int} (hx : x.toInt = z) (h1 : -11 ≤ z) (h2 : z ≤ 127) : (x - x / nI 12 * nI 12) = (if z < 0 then x else nI (z % 12).toNat) := by
  obtain ⟨hA, hB⟩ := ff_fm hx h1 h2
  split
  · rename_i h; exact hB h
  · rename_i h; exact hA (by omega)
theorem ff_neg9 {x : Int32} {z : Int} (hx : x.toInt = z) (h1 : -11 ≤ z) (h2 : z < 0) : ∃ a : Nat, 0 < a ∧ a < 12 ∧ x = -(nI a) := by
  obtain ⟨a, ha⟩ : ∃ a : Nat, z = -(a : Int) := ⟨(-z).toNat, by omega⟩
  exact ⟨a, by omega, by omega, Int32.toInt_inj.mp (by rw [hx, sb_negT (by omega), ha])⟩
theorem ff_fmA {x : Int32} {z : Int} (hx : x.toInt = z) (h1 : -11 ≤ z) (c : 0 ≤ (x ^^^ nI 12)) : (if z < 0 then x else nI (z % 12).toNat) = nI (z % 12).toNat := by
  split
  · rename_i h
    obtain ⟨a, h3, h4, rfl⟩ := ff_neg9 hx h1 h
    exact absurd c (ff_xor2 h3 h4)
  · rfl
theorem ff_fmB {x : Int32} {z : Int} (hx : x.toInt = z) (h1 : -11 ≤ z) (c : (if z < 0 then x else nI (z % 12).toNat) = 0) : (if z < 0 then x else nI (z % 12).toNat) = nI (z % 12).toNat := by
  split
  · rename_i h
    rw [if_pos h] at c
    rw [c] at hx
    have : (0 : Int32).toInt = 0 := rfl
    omega
  · rfl
theorem ff_nat9 {x : Int32} (h1 : 0 ≤ x.toInt) (h2 : x.toInt ≤ 127) : ∃ a : Nat, a ≤ 127 ∧ x = nI a := by
  refine ⟨x.toInt.toNat, by omega, Int32.toInt_inj.mp ?_⟩
  rw [nI_toInt (by omega)]
  omega
theorem ff_fmC {x : Int32} {z : Int} (hx : x.toInt = z) (h1 : -11 ≤ z) (h2 : z ≤ 127) (c : ¬ 0 ≤ (x ^^^ nI 12)) : (if z < 0 then x else nI (z % 12).toNat) + nI 12 = nI (z % 12).toNat := by
  split
  · rename_i h
    exact ff_fm2 hx h1 h
  · rename_i h
    obtain ⟨a, ha, rfl⟩ := ff_nat9 (x := x) (by omega) (by omega)
    exact absurd (ff_xor (by omega)) c
theorem ff_sub9 {x : Int32} {ky : Nat} (h1 : 0 ≤ x.toInt) (h2 : x.toInt ≤ 127) (hk : ky ≤ 11) : (x - nI ky).toInt = x.toInt - (ky : Int) := by
  obtain ⟨a, ha, rfl⟩ := ff_nat9 h1 h2
  rw [pk_sub_toInt (by omega) (by omega), nI_toInt (by omega)]
/-- the place of a hit is the number of hits ahead of it -/
theorem ff_ct_mono (p : Nat → Bool) {a b : Nat} (h : a ≤ b) : ff_ct p a ≤ ff_ct p b := by
  induction b with
  | zero => rw [show a = 0 by omega]; exact Nat.le_refl _
  | succ b ih =>
    by_cases hb : a = b + 1
    · subst hb; exact Nat.le_refl _
    · have := ih (by omega)
      exact Nat.le_trans this (Nat.le_add_right _ _)
theorem ff_ct_lt (p : Nat → Bool) {a b : Nat} (h : a < b) (hp : p a = true) : ff_ct p a < ff_ct p b := by
  have h1 := ff_ct_mono p (show a + 1 ≤ b from h)
  rw [ff_ct_t hp] at h1
  omega
theorem ff_ct_sur (p : Nat → Bool) : ∀ (n k : Nat), k < ff_ct p n → ∃ z, z < n ∧ p z = true ∧ ff_ct p z = k
  | 0, k, h => absurd h (Nat.not_lt_zero _)
  | n + 1, k, h => by
    by_cases hk : k < ff_ct p n
    · obtain ⟨z, h1, h2, h3⟩ := ff_ct_sur p n k hk
      exact ⟨z, by omega, h2, h3⟩
    · by_cases hp : p n = true
      · rw [ff_ct_t hp] at h
        exact ⟨n, by omega, hp, by omega⟩
      · rw [ff_ct_f hp] at h
        exact absurd h hk
theorem ff_ct_ext {p q : Nat → Bool} : ∀ {n : Nat}, (∀ t, t < n → p t = q t) → ff_ct p n = ff_ct q n
  | 0, _ => rfl
  | n + 1, h => by
    unfold ff_ct
    rw [ff_ct_ext (fun t ht => h t (by omega)), h n (by omega)]
theorem ff_ct_zero {p : Nat → Bool} {a : Nat} : ∀ {b : Nat}, a ≤ b → (∀ t, a ≤ t → t < b → p t = false) → ff_ct p b = ff_ct p a
  | 0, h, _ => by rw [show a = 0 by omega]
  | b + 1, h, hz => by
    by_cases hb : a = b + 1
    · subst hb; rfl
    · rw [ff_ct_f (by rw [hz b (by omega) (by omega)]; decide)]
      exact ff_ct_zero (by omega) (fun t h1 h2 => hz t h1 (by omega))
/-- a row u holds the hits of p below n, in order -/
def ff_hits (p : Nat → Bool) (n : Nat) (u : Nat → Int32) : Prop := ∀ z, z < n → p z = true → u (ff_ct p z) = nI z
theorem ff_hits_0 (p : Nat → Bool) (u : Nat → Int32) : ff_hits p 0 u := fun z h => absurd h (Nat.not_lt_zero _)
theorem ff_hits_t {p : Nat → Bool} {n : Nat} {u : Nat → Int32} (h : ff_hits p n u) : ff_hits p (n + 1) (upd u (ff_ct p n) (nI n)) := by
  intro z hz hp
  by_cases hn : z = n
  · subst hn; exact pk_us
  · rw [pk_un (by have := ff_ct_lt p (show z < n by omega) hp; omega)]
    exact h z (by omega) hp
theorem ff_hits_f {p : Nat → Bool} {n : Nat} {u : Nat → Int32} (h : ff_hits p n u) (hp : ¬ p n = true) : ff_hits p (n + 1) u := by
  intro z hz h2
  by_cases hn : z = n
  · subst hn; exact absurd h2 hp
  · exact h z (by omega) h2
theorem ff_hits_eq {p : Nat → Bool} {n k : Nat} {u w : Nat → Int32} (h1 : ff_hits p n u) (h2 : ff_hits p n w) (hk : k < ff_ct p n) : u k = w k := by
  obtain ⟨z, hz, hp, rfl⟩ := ff_ct_sur p n k hk
  rw [h1 z hz hp, h2 z hz hp]
