theorem ff_S_t {r : Nat → Nat → Nat} {n least i j : Nat} {S : Nat → Int32} (h1 : i + 1 ≤ j) (hl : least ≤ r i j) (he : ∀ m, m < 60 → S m = nI (ff_cn r least (ff_pp n i j) m)) (h6 : r i j < 60) : ∀ m, m < 60 → upd S (r i j) (S (r i j) + nI 1) m = nI (ff_cn r least (ff_pp n i (j + 1)) m) := by
  intro m hm
  rw [ff_pp_s h1]
  by_cases h : m = r i j
  · subst h
    rw [pk_us, he _ hm, ff_cn_t hl, nI_add]
  · rw [pk_un h, he m hm, ff_cn_f (Or.inl (fun q => h q.symm))]
theorem ff_S_f {r : Nat → Nat → Nat} {n least i j : Nat} {S : Nat → Int32} (h1 : i + 1 ≤ j) (he : ∀ m, m < 60 → S m = nI (ff_cn r least (ff_pp n i j) m)) (hl : ¬ least ≤ r i j) : ∀ m, m < 60 → S m = nI (ff_cn r least (ff_pp n i (j + 1)) m) := by
  intro m hm
  rw [ff_pp_s h1, he m hm, ff_cn_f (by
    by_cases h : r i j = m
    · subst h; exact Or.inr hl
    · exact Or.inl h)]
theorem ff_P_t {r : Nat → Nat → Nat} {n least i j : Nat} {S : Nat → Int32} {G : Nat → Nat} (h1 : i + 1 ≤ j) (h6 : r i j < 60) (hs : ∀ m, least ≤ m → m < 60 → S m = nI (G m + (ff_F r m (ff_pp n i j)).length)) : ∀ m, least ≤ m → m < 60 → upd S (r i j) (nI (G (r i j) + (ff_F r (r i j) (ff_pp n i j)).length + 1)) m = nI (G m + (ff_F r m (ff_pp n i (j + 1))).length) := by
  intro m hm hm2
  rw [ff_pp_s h1]
  by_cases h : m = r i j
  · subst h
    rw [pk_us, ff_F_t rfl, List.length_append]
    rfl
  · rw [pk_un h, hs m hm hm2, ff_F_f (fun q => h q.symm)]
theorem ff_P_f {r : Nat → Nat → Nat} {n least i j : Nat} {S : Nat → Int32} {G : Nat → Nat} (h1 : i + 1 ≤ j) (hs : ∀ m, least ≤ m → m < 60 → S m = nI (G m + (ff_F r m (ff_pp n i j)).length)) (hl : r i j < least) : ∀ m, least ≤ m → m < 60 → S m = nI (G m + (ff_F r m (ff_pp n i (j + 1))).length) := by
  intro m hm hm2
  rw [ff_pp_s h1, hs m hm hm2, ff_F_f (by omega)]
theorem ff_place_lt {r : Nat → Nat → Nat} {least i j : Nat} {all ps rest : List (Nat × Nat)} (hall : all = (ps ++ [(i, j)]) ++ rest) (hl : least ≤ r i j) (h6 : 1 ≤ r i j ∧ r i j ≤ 59) : ff_G (ff_cn r least all) (r i j) + (ff_F r (r i j) ps).length < ff_G (ff_cn r least all) 0 := by
  have h1 := ff_G_in (c := ff_cn r least all) (show 0 < r i j by omega) h6.2
  have h2 : (ff_F r (r i j) (ps ++ [(i, j)])).length ≤ ff_cn r least all (r i j) := by
    unfold ff_cn
    rw [if_pos hl, hall]
    unfold ff_F
    rw [List.filter_append (ps ++ [(i, j)]) rest, List.length_append]
    omega
  rw [ff_F_t rfl] at h2
  simp only [List.length_append, List.length_singleton] at h2
  omega
