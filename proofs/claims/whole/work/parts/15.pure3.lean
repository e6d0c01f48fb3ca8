/-! repeats: pairs in order, how many of each length, where each lies -/
def ff_rw (i j : Nat) : List (Nat × Nat) := (List.range (j - (i + 1))).map (fun t => (i, i + 1 + t))
def ff_ar (n : Nat) : Nat → List (Nat × Nat)
  | 0 => []
  | i + 1 => ff_ar n i ++ ff_rw i n
def ff_pp (n i j : Nat) : List (Nat × Nat) := ff_ar n i ++ ff_rw i j
theorem ff_pp_0 (n i : Nat) : ff_pp n i (i + 1) = ff_ar n i := by
  unfold ff_pp ff_rw
  rw [Nat.sub_self]
  simp
theorem ff_pp_n (n i : Nat) : ff_pp n i n = ff_ar n (i + 1) := rfl
theorem ff_pp_s {n i j : Nat} (h : i + 1 ≤ j) : ff_pp n i (j + 1) = ff_pp n i j ++ [(i, j)] := by
  unfold ff_pp ff_rw
  rw [show j + 1 - (i + 1) = j - (i + 1) + 1 by omega, List.range_succ, List.map_append, List.append_assoc]
  simp
  omega
theorem ff_ar_pre (n : Nat) : ∀ {a b : Nat}, a ≤ b → ∃ r, ff_ar n b = ff_ar n a ++ r
  | a, 0, h => ⟨[], by rw [show a = 0 by omega]; simp⟩
  | a, b + 1, h => by
    by_cases hb : a = b + 1
    · subst hb; exact ⟨[], by simp⟩
    · obtain ⟨r, hr⟩ := ff_ar_pre n (show a ≤ b by omega)
      exact ⟨r ++ ff_rw b n, by show ff_ar n b ++ ff_rw b n = _; rw [hr, List.append_assoc]⟩
theorem ff_pp_pre {n i j : Nat} (hi : i < n) (hj : j ≤ n) : ∃ r, ff_ar n n = ff_pp n i j ++ r := by
  obtain ⟨r, hr⟩ := ff_ar_pre n (show i + 1 ≤ n from hi)
  have h1 : ∃ r2, ff_rw i n = ff_rw i j ++ r2 := by
    unfold ff_rw
    have : n - (i + 1) = (j - (i + 1)) + (n - (i + 1) - (j - (i + 1))) := by omega
    rw [this, List.range_add, List.map_append]
    exact ⟨_, rfl⟩
  obtain ⟨r2, h2⟩ := h1
  refine ⟨r2 ++ r, ?_⟩
  rw [hr]
  show (ff_ar n i ++ ff_rw i n) ++ r = (ff_ar n i ++ ff_rw i j) ++ (r2 ++ r)
  rw [h2]
  simp
def ff_F (r : Nat → Nat → Nat) (m : Nat) (ps : List (Nat × Nat)) : List (Nat × Nat) := ps.filter (fun q => decide (r q.1 q.2 = m))
def ff_cn (r : Nat → Nat → Nat) (least : Nat) (ps : List (Nat × Nat)) (m : Nat) : Nat := if least ≤ m then (ff_F r m ps).length else 0
theorem ff_F_t {r : Nat → Nat → Nat} {m i j : Nat} {ps : List (Nat × Nat)} (h : r i j = m) : ff_F r m (ps ++ [(i, j)]) = ff_F r m ps ++ [(i, j)] := by
  unfold ff_F
  rw [List.filter_append]
  simp [h]
theorem ff_F_f {r : Nat → Nat → Nat} {m i j : Nat} {ps : List (Nat × Nat)} (h : ¬ r i j = m) : ff_F r m (ps ++ [(i, j)]) = ff_F r m ps := by
  unfold ff_F
  rw [List.filter_append]
  simp [h]
theorem ff_cn_t {r : Nat → Nat → Nat} {least i j : Nat} {ps : List (Nat × Nat)} (h : least ≤ r i j) : ff_cn r least (ps ++ [(i, j)]) (r i j) = ff_cn r least ps (r i j) + 1 := by
  unfold ff_cn
  rw [if_pos h, if_pos h, ff_F_t rfl]
  simp
theorem ff_cn_f {r : Nat → Nat → Nat} {least i j m : Nat} {ps : List (Nat × Nat)} (h : ¬ r i j = m ∨ ¬ least ≤ m) : ff_cn r least (ps ++ [(i, j)]) m = ff_cn r least ps m := by
  unfold ff_cn
  split
  · rename_i hl
    rw [ff_F_f (h.resolve_right (fun q => q hl))]
  · rfl
def ff_sm (f : Nat → Nat) : Nat → Nat
  | 0 => 0
  | k + 1 => ff_sm f k + f k
def ff_G (c : Nat → Nat) (m : Nat) : Nat := ff_sm (fun t => c (59 - t)) (59 - m)
theorem ff_G_s {c : Nat → Nat} {q : Nat} (h0 : 1 ≤ q) (h : q ≤ 59) : ff_G c (q - 1) = ff_G c q + c q := by
  unfold ff_G
  rw [show 59 - (q - 1) = 59 - q + 1 by omega]
  show ff_sm _ (59 - q) + c (59 - (59 - q)) = _
  rw [show 59 - (59 - q) = q by omega]
theorem ff_G_59 (c : Nat → Nat) : ff_G c 59 = 0 := rfl
theorem ff_sm_mono (f : Nat → Nat) {a b : Nat} (h : a ≤ b) : ff_sm f a ≤ ff_sm f b := by
  induction b with
  | zero => rw [show a = 0 by omega]; exact Nat.le_refl _
  | succ b ih =>
    by_cases hb : a = b + 1
    · subst hb; exact Nat.le_refl _
    · exact Nat.le_trans (ih (by omega)) (Nat.le_add_right _ _)
theorem ff_G_mono (c : Nat → Nat) {a b : Nat} (h : a ≤ b) : ff_G c b ≤ ff_G c a := ff_sm_mono _ (by omega)
theorem ff_G_in {c : Nat → Nat} {a b : Nat} (h : a < b) (hb : b ≤ 59) : ff_G c b + c b ≤ ff_G c a := by
  rw [← ff_G_s (by omega) hb]
  exact ff_G_mono c (by omega)
/-- places of different ones are different -/
theorem ff_G_inj {c : Nat → Nat} {a b t u : Nat} (ha : a ≤ 59) (hb : b ≤ 59) (ht : t < c a) (hu : u < c b) (h : ff_G c a + t = ff_G c b + u) : a = b ∧ t = u := by
  rcases Nat.lt_trichotomy a b with q | q | q
  · have := ff_G_in (c := c) q hb
    omega
  · subst q; exact ⟨rfl, by omega⟩
  · have := ff_G_in (c := c) q ha
    omega
theorem ff_G_sur {c : Nat → Nat} : ∀ (d k : Nat), d ≤ 59 → k < ff_G c (59 - d) → ∃ m, 59 - d < m ∧ m ≤ 59 ∧ ff_G c m ≤ k ∧ k < ff_G c m + c m
  | 0, k, _, h => absurd h (by rw [show 59 - 0 = 59 from rfl, ff_G_59]; omega)
  | d + 1, k, hd, h => by
    by_cases hk : k < ff_G c (59 - d)
    · obtain ⟨m, h1, h2, h3, h4⟩ := ff_G_sur d k (by omega) hk
      exact ⟨m, by omega, h2, h3, h4⟩
    · refine ⟨59 - d, by omega, by omega, by omega, ?_⟩
      have := ff_G_s (c := c) (q := 59 - d) (by omega) (by omega)
      rw [show 59 - d - 1 = 59 - (d + 1) by omega] at this
      omega
/-- the row holds the repeats of the pairs ps, each at its place -/
def ff_rowsP (r : Nat → Nat → Nat) (least : Nat) (G : Nat → Nat) (ps : List (Nat × Nat)) (row : Nat → Int32) : Prop :=
  ∀ m, least ≤ m → m < 60 → ∀ (t : Nat) (q : Nat × Nat), (ff_F r m ps)[t]? = some q → row (3 * (G m + t)) = nI q.1 ∧ row (3 * (G m + t) + 1) = nI q.2 ∧ row (3 * (G m + t) + 2) = nI m
theorem ff_rowsP_f {r : Nat → Nat → Nat} {least i j : Nat} {G : Nat → Nat} {ps : List (Nat × Nat)} {row : Nat → Int32} (h : ff_rowsP r least G ps row) (hl : ¬ least ≤ r i j) : ff_rowsP r least G (ps ++ [(i, j)]) row := by
  intro m hm hm2 t q hq
  rw [ff_F_f (by omega)] at hq
  exact h m hm hm2 t q hq
theorem ff_rowsP_t {r : Nat → Nat → Nat} {least i j : Nat} {row : Nat → Int32} {all ps rest : List (Nat × Nat)} (hall : all = (ps ++ [(i, j)]) ++ rest) (h : ff_rowsP r least (ff_G (ff_cn r least all)) ps row) (hl : least ≤ r i j) (h6 : r i j < 60) (k : Nat) (hk : k = ff_G (ff_cn r least all) (r i j) + (ff_F r (r i j) ps).length) :
    ff_rowsP r least (ff_G (ff_cn r least all)) (ps ++ [(i, j)]) (upd (upd (upd row (3 * k) (nI i)) (3 * k + 1) (nI j)) (3 * k + 2) (nI (r i j))) := by
  have len : ∀ m, least ≤ m → (ff_F r m (ps ++ [(i, j)])).length ≤ ff_cn r least all m := by
    intro m hm
    unfold ff_cn
    rw [if_pos hm, hall]
    unfold ff_F
    rw [List.filter_append (ps ++ [(i, j)]) rest, List.length_append]
    omega
  intro m hm hm2 t q hq
  have ht : t < (ff_F r m (ps ++ [(i, j)])).length := (List.getElem?_eq_some_iff.mp hq).1
  have htc := len m hm
  have hkc := len (r i j) hl
  rw [ff_F_t rfl] at hkc
  simp only [List.length_append, List.length_singleton] at hkc
  by_cases hmt : m = r i j ∧ t = (ff_F r (r i j) ps).length
  · obtain ⟨rfl, rfl⟩ := hmt
    rw [ff_F_t rfl, List.getElem?_append_right (Nat.le_refl _), Nat.sub_self] at hq
    cases hq
    rw [← hk]
    refine ⟨?_, ?_, ?_⟩
    · rw [pk_un (by omega), pk_un (by omega), pk_us]
    · rw [pk_un (by omega), pk_us]
    · rw [pk_us]
  · have hne : ff_G (ff_cn r least all) m + t ≠ k := by
      intro e
      rw [hk] at e
      obtain ⟨h1, h2⟩ := ff_G_inj (c := ff_cn r least all) (by omega) (by omega) (by omega) (by omega) e
      exact hmt ⟨h1, h2⟩
    have hq2 : (ff_F r m ps)[t]? = some q := by
      by_cases h1 : r i j = m
      · subst h1
        rw [ff_F_t rfl] at hq ht
        simp only [List.length_append, List.length_singleton] at ht
        rw [List.getElem?_append_left (by omega)] at hq
        exact hq
      · rw [ff_F_f h1] at hq
        exact hq
    obtain ⟨e1, e2, e3⟩ := h m hm hm2 t q hq2
    refine ⟨?_, ?_, ?_⟩
    · rw [pk_un (by omega), pk_un (by omega), pk_un (by omega)]; exact e1
    · rw [pk_un (by omega), pk_un (by omega), pk_un (by omega)]; exact e2
    · rw [pk_un (by omega), pk_un (by omega), pk_un (by omega)]; exact e3
/-- two rows that hold the same repeats are the same -/
theorem ff_rows_eq {r : Nat → Nat → Nat} {least : Nat} {all : List (Nat × Nat)} {a b : Nat → Int32} (ha : ff_rowsP r least (ff_G (ff_cn r least all)) all a) (hb : ff_rowsP r least (ff_G (ff_cn r least all)) all b) {k w : Nat} (hk : k < ff_G (ff_cn r least all) 0) (hw : w < 3) : a (3 * k + w) = b (3 * k + w) := by
  obtain ⟨m, h1, h2, h3, h4⟩ := ff_G_sur (c := ff_cn r least all) 59 k (by omega) hk
  have hl : least ≤ m := by
    apply Decidable.byContradiction
    intro h
    have : ff_cn r least all m = 0 := if_neg h
    omega
  have hc : ff_cn r least all m = (ff_F r m all).length := if_pos hl
  obtain ⟨t, ht⟩ : ∃ t, k = ff_G (ff_cn r least all) m + t := ⟨k - ff_G (ff_cn r least all) m, by omega⟩
  have htl : t < (ff_F r m all).length := by omega
  have hq := List.getElem?_eq_getElem htl
  obtain ⟨a1, a2, a3⟩ := ha m hl (by omega) t _ hq
  obtain ⟨b1, b2, b3⟩ := hb m hl (by omega) t _ hq
  subst ht
  rcases (show w = 0 ∨ w = 1 ∨ w = 2 by omega) with rfl | rfl | rfl
  · exact a1.trans b1.symm
  · exact a2.trans b2.symm
  · exact a3.trans b3.symm
/-! at most 900 -/
theorem ff_sm_add (f g : Nat → Nat) : ∀ k, ff_sm (fun t => f t + g t) k = ff_sm f k + ff_sm g k
  | 0 => rfl
  | k + 1 => by
    show ff_sm _ k + (f k + g k) = (ff_sm f k + f k) + (ff_sm g k + g k)
    rw [ff_sm_add f g k]; omega
theorem ff_sm_one (m : Nat) : ∀ k, k ≤ 59 → ff_sm (fun t => if m = 59 - t then 1 else 0) k ≤ (if 59 - k < m then 1 else 0)
  | 0, _ => Nat.zero_le _
  | k + 1, h => by
    have ih := ff_sm_one m k (by omega)
    show ff_sm _ k + (if m = 59 - k then 1 else 0) ≤ _
    split at ih <;> split <;> split <;> omega
theorem ff_sm_le {f g : Nat → Nat} (h : ∀ t, f t ≤ g t) : ∀ k, ff_sm f k ≤ ff_sm g k
  | 0 => Nat.le_refl _
  | k + 1 => Nat.add_le_add (ff_sm_le h k) (h k)
theorem ff_tot_le (r : Nat → Nat → Nat) : ∀ ps : List (Nat × Nat), ff_sm (fun t => (ff_F r (59 - t) ps).length) 59 ≤ (ps.filter (fun q => decide (0 < r q.1 q.2))).length
  | [] => by
    have : ∀ k, ff_sm (fun t => (ff_F r (59 - t) ([] : List (Nat × Nat))).length) k = 0 := by
      intro k
      induction k with
      | zero => rfl
      | succ k ih => show ff_sm _ k + 0 = 0; rw [ih]
    rw [this]
    exact Nat.zero_le _
  | q :: ps => by
    have ih := ff_tot_le r ps
    have e : (fun t => (ff_F r (59 - t) (q :: ps)).length) = (fun t => (ff_F r (59 - t) ps).length + (if r q.1 q.2 = 59 - t then 1 else 0)) := by
      funext t
      unfold ff_F
      rw [List.filter_cons]
      split
      · rename_i h; rw [if_pos (of_decide_eq_true h)]; rfl
      · rename_i h; rw [if_neg (fun q => h (decide_eq_true q))]; rfl
    rw [e, ff_sm_add]
    have h1 := ff_sm_one (r q.1 q.2) 59 (Nat.le_refl _)
    rw [List.filter_cons]
    by_cases h0 : 0 < r q.1 q.2
    · rw [if_pos (decide_eq_true h0), List.length_cons]
      split at h1 <;> omega
    · rw [if_neg (fun q => h0 (of_decide_eq_true q))]
      rw [if_neg (by omega)] at h1
      omega
theorem ff_row_ct (r : Nat → Nat → Nat) (i n : Nat) : ((ff_rw i n).filter (fun q => decide (0 < r q.1 q.2))).length = ff_ct (fun t => decide (0 < r i (i + 1 + t))) (n - (i + 1)) := by
  unfold ff_rw
  generalize n - (i + 1) = k
  induction k with
  | zero => rfl
  | succ k ih =>
    rw [List.range_succ, List.map_append, List.filter_append, List.length_append, ih]
    show _ = ff_ct _ k + _
    congr 1
    simp only [List.map_cons, List.map_nil, List.filter_cons, List.filter_nil]
    split <;> rfl
theorem ff_excl {p q : Nat → Bool} : ∀ k, (∀ t, t < k → ¬ (p t = true ∧ q t = true)) → ff_ct p k + ff_ct q k ≤ k
  | 0, _ => Nat.le_refl _
  | k + 1, h => by
    have ih := ff_excl k (fun t ht => h t (by omega))
    have h1 := h k (by omega)
    show (ff_ct p k + (if p k = true then 1 else 0)) + (ff_ct q k + (if q k = true then 1 else 0)) ≤ k + 1
    split <;> split <;> first | omega | (exfalso; exact h1 ⟨by assumption, by assumption⟩)
theorem ff_run_pos {f : Nat → Int32} {i j k : Nat} (h : 0 < ff_run f i j k) : f i = f j := by
  cases k with
  | zero => exact absurd h (Nat.lt_irrefl 0)
  | succ k =>
    unfold ff_run at h
    split at h
    · assumption
    · exact absurd h (Nat.lt_irrefl 0)
theorem ff_two (f : Nat → Int32) (n i : Nat) : ff_ct (fun t => decide (0 < ff_rl f n i (i + 1 + t))) (n - (i + 1)) + ff_ct (fun t => decide (0 < ff_rl f n (i + 1) (i + 1 + 1 + t))) (n - (i + 1 + 1)) ≤ n - (i + 1) := by
  by_cases hn : n - (i + 1) = 0
  · rw [hn, show n - (i + 1 + 1) = 0 by omega]
    exact Nat.le_refl _
  · obtain ⟨K, hK⟩ : ∃ K, n - (i + 1) = K + 1 := ⟨n - (i + 1) - 1, by omega⟩
    rw [hK, show n - (i + 1 + 1) = K by omega]
    have h1 := ff_excl (p := fun t => decide (0 < ff_rl f n i (i + 1 + t))) (q := fun t => decide (0 < ff_rl f n (i + 1) (i + 1 + 1 + t))) K (by
      rintro t ht ⟨ha, hb⟩
      have ha' := of_decide_eq_true ha
      have hb' := of_decide_eq_true hb
      have e : f i = f (i + 1 + t) := by
        unfold ff_rl at ha'
        split at ha'
        · exact absurd ha' (Nat.lt_irrefl 0)
        · exact ff_run_pos ha'
      unfold ff_rl at hb'
      rw [if_pos ⟨by omega, by rw [show i + 1 - 1 = i by omega, show i + 1 + 1 + t - 1 = i + 1 + t by omega]; exact e⟩] at hb'
      exact absurd hb' (Nat.lt_irrefl 0))
    have h2 : ff_ct (fun t => decide (0 < ff_rl f n i (i + 1 + t))) (K + 1) ≤ ff_ct (fun t => decide (0 < ff_rl f n i (i + 1 + t))) K + 1 := by
      show ff_ct _ K + _ ≤ _
      split <;> omega
    omega
def ff_B (n : Nat) : Nat → Nat
  | 0 => 0
  | b + 1 => ff_B n b + (n - (2 * b + 1))
theorem ff_T_le (f : Nat → Int32) (n : Nat) : ∀ b, ((ff_ar n (2 * b)).filter (fun q => decide (0 < ff_rl f n q.1 q.2))).length ≤ ff_B n b
  | 0 => Nat.le_refl _
  | b + 1 => by
    have ih := ff_T_le f n b
    have h2 := ff_two f n (2 * b)
    rw [show 2 * (b + 1) = 2 * b + 1 + 1 by omega]
    show (((ff_ar n (2 * b) ++ ff_rw (2 * b) n) ++ ff_rw (2 * b + 1) n).filter _).length ≤ ff_B n b + (n - (2 * b + 1))
    rw [List.filter_append, List.filter_append, List.length_append, List.length_append, ff_row_ct, ff_row_ct]
    omega
theorem ff_B_900 : ∀ n : Fin 61, ff_B n.val ((n.val + 1) / 2) ≤ 900 := by decide +kernel
theorem ff_all_900 (f : Nat → Int32) {n : Nat} (hn : n ≤ 60) : ((ff_ar n n).filter (fun q => decide (0 < ff_rl f n q.1 q.2))).length ≤ 900 := by
  have h1 := ff_T_le f n ((n + 1) / 2)
  have h2 := ff_B_900 ⟨n, by omega⟩
  obtain ⟨r, hr⟩ := ff_ar_pre n (show n ≤ 2 * ((n + 1) / 2) by omega)
  rw [hr, List.filter_append, List.length_append] at h1
  have h3 : ff_B n ((n + 1) / 2) ≤ 900 := h2
  omega
theorem ff_tot_900 (f : Nat → Int32) {n : Nat} (least : Nat) (hn : n ≤ 60) : ff_G (ff_cn (ff_rl f n) least (ff_ar n n)) 0 ≤ 900 := by
  refine Nat.le_trans ?_ (ff_all_900 f hn)
  refine Nat.le_trans ?_ (ff_tot_le (ff_rl f n) (ff_ar n n))
  refine ff_sm_le (fun t => ?_) 59
  unfold ff_cn
  split
  · exact Nat.le_refl _
  · exact Nat.zero_le _
theorem ff_rl_le (f : Nat → Int32) (n i j : Nat) : ff_rl f n i j ≤ n - j := by
  unfold ff_rl
  split
  · exact Nat.zero_le _
  · exact ff_run_le f _ _ _
