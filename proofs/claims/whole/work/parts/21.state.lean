/-! what is asked of the arguments, and the class's state in registers -/
def ff_N (a b c d e f : Nat) : Nat → Nat := fun i => match i with | 0 => a | 1 => b | 2 => c | 3 => d | 4 => e | _ => f
def ff_Z (a b : Int32) : Nat → Int32 := fun i => match i with | 0 => a | _ => b
def ff_A14 (a b c d e f g h i j k l m n : Nat → Int32) : Nat → Nat → Int32 := fun x => match x with | 0 => a | 1 => b | 2 => c | 3 => d | 4 => e | 5 => f | 6 => g | 7 => h | 8 => i | 9 => j | 10 => k | 11 => l | 12 => m | _ => n
abbrev ff_S : Type := (Nat → Nat) × (Nat → Int32) × (Nat → Nat → Int32)
abbrev cl (x : Int32) : Nat := x.toNatClampNeg
def okV (vw : Int32) : Prop := ∃ v, v ≤ 4 ∧ vw = nI v
def okVI (n : Nat) (vw i : Int32) : Prop := ∃ v, v ≤ 4 ∧ vw = nI v ∧ ∃ j, j < ff_cnt v n ∧ i = nI j
def okVM (vw q : Int32) : Prop := ∃ v, v ≤ 4 ∧ vw = nI v ∧ ∃ m, 1 ≤ m ∧ m ≤ 60 ∧ q = nI m
def okAl (n : Nat) (vw i j q : Int32) : Prop := ∃ v, v ≤ 4 ∧ vw = nI v ∧ ∃ a b m : Nat, i = nI a ∧ j = nI b ∧ q = nI m ∧ a + m ≤ ff_cnt v n ∧ b + m ≤ ff_cnt v n
def okMo (n : Nat) (fr q : Int32) : Prop := ∃ a m : Nat, 1 ≤ m ∧ m ≤ 12 ∧ q = nI m ∧ fr = nI a ∧ a + m ≤ n
def okFo (tn : Nat) (fo i w : Int32) : Prop := ∃ f j x : Nat, f ≤ 3 ∧ fo = nI f ∧ j < tn ∧ i = nI j ∧ x ≤ 1 ∧ w = nI x
def okRe (gn : Nat) (k w : Int32) : Prop := ∃ a x : Nat, a < gn ∧ k = nI a ∧ x ≤ 2 ∧ w = nI x
def okFi (fo up dn : Int32) : Prop := (∃ f : Nat, f ≤ 3 ∧ fo = nI f) ∧ ((up = 0 ∧ dn = 0) ∨ ((nI 1 ≤ up ∧ up ≤ nI 9) ∧ (nI 1 ≤ dn ∧ dn ≤ nI 9)))
def okKH (ky hd : Int32) : Prop := ∃ a b : Nat, a ≤ 11 ∧ ky = nI a ∧ b ≤ 12 ∧ hd = nI b
def okAn (tn : Nat) (ky hd i : Int32) : Prop := ∃ a b j : Nat, a ≤ 11 ∧ ky = nI a ∧ b ≤ 12 ∧ hd = nI b ∧ j < tn ∧ i = nI j
def okSe (base bw : Int32) : Prop := (nI 0 ≤ base ∧ base ≤ nI 1000) ∧ (nI 0 ≤ bw ∧ bw ≤ nI 100)
def okNo (x y : Int32) : Prop := (nI 0 ≤ x ∧ x ≤ nI 127) ∧ (nI 1 ≤ y ∧ y ≤ nI 999)
def okDr (n : Nat) (x : Int32) : Prop := ∃ j, j ≤ n ∧ x = nI j
def okOf (w : Int32) : Prop := ∃ x, x ≤ 4 ∧ w = nI x
theorem ff_le {j k : Nat} (h : j ≤ k) (hk : k < 2 ^ 31) : nI 0 ≤ nI j ∧ nI j ≤ nI k := ⟨(nI_leI (by decide) (by omega)).mpr (Nat.zero_le _), (nI_leI (by omega) hk).mpr h⟩
theorem ff_of {x : Int32} {k : Nat} (hk : k < 2 ^ 31) (h : nI 0 ≤ x ∧ x ≤ nI k) : ∃ j, j ≤ k ∧ x = nI j := by
  obtain ⟨h1, h2⟩ := h
  rw [Int32.le_iff_toInt_le, nI_toInt (by decide)] at h1
  rw [Int32.le_iff_toInt_le, nI_toInt hk] at h2
  refine ⟨x.toInt.toNat, by omega, Int32.toInt_inj.mp ?_⟩
  rw [nI_toInt (by omega)]
  omega
theorem ff_of1 {x : Int32} {k : Nat} (hk : k < 2 ^ 31) (h : nI 1 ≤ x ∧ x ≤ nI k) : ∃ j, 1 ≤ j ∧ j ≤ k ∧ x = nI j := by
  obtain ⟨h1, h2⟩ := h
  rw [Int32.le_iff_toInt_le, nI_toInt (by decide)] at h1
  rw [Int32.le_iff_toInt_le, nI_toInt hk] at h2
  refine ⟨x.toInt.toNat, by omega, by omega, Int32.toInt_inj.mp ?_⟩
  rw [nI_toInt (by omega)]
  omega
theorem ff_le1 {j k : Nat} (h1 : 1 ≤ j) (h : j ≤ k) (hk : k < 2 ^ 31) : nI 1 ≤ nI j ∧ nI j ≤ nI k := ⟨(nI_leI (by decide) (by omega)).mpr h1, (nI_leI (by omega) hk).mpr h⟩
theorem ff_of2 {x : Int32} {k : Nat} (hk : k < 2 ^ 30) (h : nI 0 ≤ x ∧ x ≤ nI k - nI 1) : ∃ j, j < k ∧ x = nI j := by
  obtain ⟨h1, h2⟩ := h
  rw [Int32.le_iff_toInt_le, nI_toInt (by decide)] at h1
  rw [Int32.le_iff_toInt_le, pk_sub_toInt hk (by decide)] at h2
  refine ⟨x.toInt.toNat, by omega, Int32.toInt_inj.mp ?_⟩
  rw [nI_toInt (by omega)]
  omega
theorem ff_le2 {j k : Nat} (h : j < k) (hk : k < 2 ^ 30) : nI 0 ≤ nI j ∧ nI j ≤ nI k - nI 1 := by
  refine ⟨(nI_leI (by decide) (by omega)).mpr (Nat.zero_le _), ?_⟩
  rw [pk_sub (by omega)]
  exact (nI_leI (by omega) (by omega)).mpr (by omega)
/-- a place with q behind it, among c -/
theorem ff_of3 {x q : Int32} {c : Nat} (hc : c < 2 ^ 30) (hq : ¬ q < 0) (h : nI 0 ≤ x ∧ x ≤ nI c - q) : ∃ a m : Nat, x = nI a ∧ q = nI m ∧ a + m ≤ c := by
  obtain ⟨m, hm, rfl⟩ := nI_of hq
  obtain ⟨h1, h2⟩ := h
  rw [Int32.le_iff_toInt_le, nI_toInt (by decide)] at h1
  have e : (nI c - nI m).toInt = (c : Int) - m := by
    rw [Int32.toInt_sub, nI_toInt (by omega), nI_toInt hm, Int.bmod_eq_of_le (by omega) (by omega)]
  rw [Int32.le_iff_toInt_le, e] at h2
  refine ⟨x.toInt.toNat, m, Int32.toInt_inj.mp ?_, rfl, by omega⟩
  rw [nI_toInt (by omega)]
  omega
theorem ff_le3 {a m c : Nat} (h : a + m ≤ c) (hc : c < 2 ^ 30) : nI 0 ≤ nI a ∧ nI a ≤ nI c - nI m := by
  refine ⟨(nI_leI (by decide) (by omega)).mpr (Nat.zero_le _), ?_⟩
  rw [pk_sub (by omega)]
  exact (nI_leI (by omega) (by omega)).mpr (by omega)
theorem nI_inj {a b : Nat} (ha : a < 2 ^ 31) (hb : b < 2 ^ 31) (h : nI a = nI b) : a = b := (nI_eq ha hb).mp h
theorem cl_n {n : Nat} (h : n < 2 ^ 31) : cl (nI n) = n := nI_clamp h
