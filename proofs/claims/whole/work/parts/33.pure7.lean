theorem ff_go_le {n mn z : Nat} {P T : Nat → Int32} (h : ff_go n P T mn z = true) : z + mn ≤ n := by
  unfold ff_go at h
  rw [Bool.and_eq_true] at h
  exact of_decide_eq_true h.1
def ff_pm (n : Nat) (P L T L2 : Nat → Int32) (mn : Nat) (up dn : Int32) (z : Nat) : Bool := ff_go n P T mn z && ff_all (fun t => decide (L (z + t) * dn = L2 t * up)) mn
theorem ff_pm_t {n mn z t : Nat} {P L T L2 : Nat → Int32} {up dn : Int32} (ht : t = mn) (h : ff_go n P T mn z = true ∧ ff_all (fun t => decide (L (z + t) * dn = L2 t * up)) t = true) : ff_pm n P L T L2 mn up dn z = true := by
  subst ht
  unfold ff_pm
  rw [Bool.and_eq_true]
  exact h
theorem ff_pm_f {n mn z t : Nat} {P L T L2 : Nat → Int32} {up dn : Int32} (ht : t ≤ mn) (h : ¬ (ff_go n P T mn z = true ∧ ff_all (fun t => decide (L (z + t) * dn = L2 t * up)) t = true)) : ¬ ff_pm n P L T L2 mn up dn z = true := by
  unfold ff_pm
  rw [Bool.and_eq_true]
  exact fun q => h ⟨q.1, ff_all_mono ht q.2⟩
theorem ff_pm_s {n mn z t : Nat} {P L T L2 : Nat → Int32} {up dn : Int32} (h : ff_go n P T mn z = true ∧ ff_all (fun t => decide (L (z + t) * dn = L2 t * up)) t = true) (c : L (z + t) * dn = L2 t * up) : ff_go n P T mn z = true ∧ ff_all (fun t => decide (L (z + t) * dn = L2 t * up)) (t + 1) = true := by
  refine ⟨h.1, ?_⟩
  show (ff_all _ t && decide _) = true
  rw [h.2, decide_eq_true c]; rfl
theorem ff_pm_n {n mn z t : Nat} {P L T L2 : Nat → Int32} {up dn : Int32} (c : ¬ L (z + t) * dn = L2 t * up) : ¬ (ff_go n P T mn z = true ∧ ff_all (fun t => decide (L (z + t) * dn = L2 t * up)) (t + 1) = true) := by
  rintro ⟨-, h⟩
  exact c (of_decide_eq_true ((ff_all_iff _ _).mp h t (by omega)))
/-! repeats, the greatest first -/
def ff_R3 (row : Nat → Int32) (k : Nat) (e : Nat × Nat) (m : Nat) : Prop := row (3 * k) = nI e.1 ∧ row (3 * k + 1) = nI e.2 ∧ row (3 * k + 2) = nI m
def ff_rowsB (r : Nat → Nat → Nat) (least : Nat) (G : Nat → Nat) (all : List (Nat × Nat)) (q : Nat) (ps : List (Nat × Nat)) (row : Nat → Int32) : Prop :=
  (∀ m, least ≤ m → q < m → m < 60 → ∀ (t : Nat) (e : Nat × Nat), (ff_F r m all)[t]? = some e → ff_R3 row (G m + t) e m) ∧ ∀ (t : Nat) (e : Nat × Nat), (ff_F r q ps)[t]? = some e → ff_R3 row (G q + t) e q
theorem ff_R3_keep {row : Nat → Int32} {k k2 : Nat} {e : Nat × Nat} {m : Nat} {a b c : Int32} (h : ff_R3 row k2 e m) (hk : ¬ k2 = k) : ff_R3 (upd (upd (upd row (3 * k) a) (3 * k + 1) b) (3 * k + 2) c) k2 e m := by
  obtain ⟨h1, h2, h3⟩ := h
  refine ⟨?_, ?_, ?_⟩
  · rw [pk_un (by omega), pk_un (by omega), pk_un (by omega)]; exact h1
  · rw [pk_un (by omega), pk_un (by omega), pk_un (by omega)]; exact h2
  · rw [pk_un (by omega), pk_un (by omega), pk_un (by omega)]; exact h3
theorem ff_rowsB_f {r : Nat → Nat → Nat} {least q i j : Nat} {G : Nat → Nat} {all ps : List (Nat × Nat)} {row : Nat → Int32} (h : ff_rowsB r least G all q ps row) (hn : ¬ r i j = q) : ff_rowsB r least G all q (ps ++ [(i, j)]) row := by
  refine ⟨h.1, fun t e he => ?_⟩
  rw [ff_F_f hn] at he
  exact h.2 t e he
theorem ff_rowsB_t {r : Nat → Nat → Nat} {least q i j : Nat} {all ps rest : List (Nat × Nat)} {row : Nat → Int32} (hall : all = (ps ++ [(i, j)]) ++ rest) (h : ff_rowsB r least (ff_G (ff_cn r least all)) all q ps row) (hq : r i j = q) (hl : least ≤ q) (h6 : q ≤ 59) :
    ff_rowsB r least (ff_G (ff_cn r least all)) all q (ps ++ [(i, j)]) (upd (upd (upd row (3 * (ff_G (ff_cn r least all) q + (ff_F r q ps).length)) (nI i)) (3 * (ff_G (ff_cn r least all) q + (ff_F r q ps).length) + 1) (nI j)) (3 * (ff_G (ff_cn r least all) q + (ff_F r q ps).length) + 2) (nI q)) := by
  have hc : (ff_F r q (ps ++ [(i, j)])).length ≤ ff_cn r least all q := by
    unfold ff_cn
    rw [if_pos hl, hall]
    unfold ff_F
    rw [List.filter_append (ps ++ [(i, j)]) rest, List.length_append]
    omega
  have hc2 := hc
  rw [ff_F_t hq, List.length_append, List.length_singleton] at hc2
  refine ⟨fun m h1 h2 h3 t e he => ?_, fun t e he => ?_⟩
  · refine ff_R3_keep (h.1 m h1 h2 h3 t e he) (fun e9 => ?_)
    have ht : t < (ff_F r m all).length := (List.getElem?_eq_some_iff.mp he).1
    have htc : t < ff_cn r least all m := by unfold ff_cn; rw [if_pos h1]; exact ht
    have := (ff_G_inj (c := ff_cn r least all) (by omega) h6 htc (by omega) e9).1
    omega
  · rw [ff_F_t hq] at he
    by_cases ht : t < (ff_F r q ps).length
    · rw [List.getElem?_append_left ht] at he
      exact ff_R3_keep (h.2 t e he) (by omega)
    · have ht2 := (List.getElem?_eq_some_iff.mp he).1
      rw [List.length_append, List.length_singleton] at ht2
      have ht3 : t = (ff_F r q ps).length := by omega
      subst ht3
      rw [List.getElem?_append_right (Nat.le_refl _), Nat.sub_self] at he
      cases he
      refine ⟨?_, ?_, ?_⟩
      · rw [pk_un (by omega), pk_un (by omega), pk_us]
      · rw [pk_un (by omega), pk_us]
      · rw [pk_us]
theorem ff_rowsB_next {r : Nat → Nat → Nat} {least q : Nat} {G : Nat → Nat} {all : List (Nat × Nat)} {row : Nat → Int32} (h : ff_rowsB r least G all q all row) (hq : 1 ≤ q) : ff_rowsB r least G all (q - 1) [] row := by
  refine ⟨fun m h1 h2 h3 t e he => ?_, fun t e he => by simp [ff_F] at he⟩
  by_cases hm : m = q
  · subst hm; exact h.2 t e he
  · exact h.1 m h1 (by omega) h3 t e he
theorem ff_rowsB_0 {r : Nat → Nat → Nat} {least c : Nat} {G : Nat → Nat} {row : Nat → Int32} (hr : ∀ i j, r i j ≤ c - j) : ff_rowsB r least G (ff_ar c c) c [] row := by
  refine ⟨fun m h1 h2 h3 t e he => ?_, fun t e he => by simp [ff_F] at he⟩
  have hm := List.mem_of_getElem? he
  unfold ff_F at hm
  have h4 := of_decide_eq_true (List.mem_filter.mp hm).2
  have h5 := hr e.1 e.2
  omega
theorem ff_rowsB_end {r : Nat → Nat → Nat} {least q : Nat} {G : Nat → Nat} {all : List (Nat × Nat)} {row : Nat → Int32} (h : ff_rowsB r least G all q [] row) (hq : q < least) : ff_rowsP r least G all row := fun m h1 h2 t e he => h.1 m h1 (by omega) h2 t e he
theorem ff_cn_big {r : Nat → Nat → Nat} {least c m : Nat} (hr : ∀ i j, r i j ≤ c - j) (hm : c ≤ m) (h1 : 1 ≤ m) : ff_cn r least (ff_ar c c) m = 0 := by
  unfold ff_cn
  split
  · have : ff_F r m (ff_ar c c) = [] := by
      unfold ff_F
      rw [List.filter_eq_nil_iff]
      intro e he q
      have h4 := of_decide_eq_true q
      obtain ⟨h5, h6⟩ := ff_ar_in he
      have h7 := hr e.1 e.2
      omega
    rw [this]; rfl
  · rfl
theorem ff_sm_z {f : Nat → Nat} : ∀ {k : Nat}, (∀ t, t < k → f t = 0) → ff_sm f k = 0
  | 0, _ => rfl
  | k + 1, h => by
    show ff_sm f k + f k = 0
    rw [ff_sm_z (fun t ht => h t (by omega)), h k (by omega)]
theorem ff_G_z {c : Nat → Nat} {q : Nat} (h : ∀ m, q < m → m ≤ 59 → c m = 0) : ff_G c q = 0 := ff_sm_z (fun t ht => h _ (by omega) (by omega))
theorem ff_G_n {c : Nat → Nat} {q : Nat} (h1 : 1 ≤ q) (h2 : q ≤ 60) (h6 : c 60 = 0) : ff_G c q + c q = ff_G c (q - 1) := by
  by_cases hq : q = 60
  · subst hq; rw [h6]; rfl
  · exact (ff_G_s h1 (by omega)).symm
theorem ff_G_low {c : Nat → Nat} : ∀ {q : Nat}, q ≤ 59 → (∀ m, m ≤ q → c m = 0) → ff_G c 0 = ff_G c q
  | 0, _, _ => rfl
  | q + 1, hq, h => by
    rw [ff_G_low (q := q) (by omega) (fun m hm => h m (by omega))]
    have := ff_G_s (c := c) (q := q + 1) (by omega) hq
    rw [h (q + 1) (Nat.le_refl _)] at this
    exact this
theorem ff_rl_yes {f : Nat → Int32} {c i j q : Nat} (hb : i = 0 ∨ ¬ f (i - 1) = f (j - 1)) (h : ff_run f i j (c - j) = q) : ff_rl f c i j = q := by
  unfold ff_rl
  rw [if_neg (fun h9 => hb.elim (fun e => by have := h9.1; omega) (fun e => e h9.2))]
  exact h
theorem ff_rl_no {f : Nat → Int32} {c i j q : Nat} (hb : i = 0 ∨ ¬ f (i - 1) = f (j - 1)) (h : ¬ ff_run f i j (c - j) = q) : ¬ ff_rl f c i j = q := by
  rw [ff_rl_yes hb rfl]; exact h
theorem ff_rl_no2 {f : Nat → Int32} {c i j q : Nat} (hi : ¬ i = 0) (h : f (i - 1) = f (j - 1)) (hq : 1 ≤ q) : ¬ ff_rl f c i j = q := by
  unfold ff_rl
  rw [if_pos ⟨by omega, h⟩]
  omega
