/-! sections of least cost -/
def ff_mx (P : Nat → Int32) (s : Nat) : Nat → Int32
  | 0 => P s
  | t + 1 => if ff_mx P s t < P (s + t) then P (s + t) else ff_mx P s t
def ff_mn (P : Nat → Int32) (s : Nat) : Nat → Int32
  | 0 => P s
  | t + 1 => if P (s + t) < ff_mn P s t then P (s + t) else ff_mn P s t
def ff_C (base bw : Int32) (P lc : Nat → Int32) (s t : Nat) : Int32 := base + bw * (ff_mx P s t - ff_mn P s t) + lc (s + t)
def ff_W (fw : Nat → Int32) (s t : Nat) : Int32 := nI 1 + fw (s + t)
/-- the best first end among the first t -/
def ff_bs (C F : Nat → Int32) (s : Nat) : Nat → Int32 × Int32 × Nat
  | 0 => (0, 0, 0)
  | t + 1 => if t = 0 ∨ (C (t + 1) < (ff_bs C F s t).1 ∨ (C (t + 1) = (ff_bs C F s t).1 ∧ F (t + 1) < (ff_bs C F s t).2.1)) then (C (t + 1), F (t + 1), s + t + 1) else ff_bs C F s t
theorem ff_bs_t {C F : Nat → Int32} {s t : Nat} (h : t = 0 ∨ (C (t + 1) < (ff_bs C F s t).1 ∨ (C (t + 1) = (ff_bs C F s t).1 ∧ F (t + 1) < (ff_bs C F s t).2.1))) : ff_bs C F s (t + 1) = (C (t + 1), F (t + 1), s + t + 1) := if_pos h
theorem ff_bs_f {C F : Nat → Int32} {s t : Nat} (h : ¬ (t = 0 ∨ (C (t + 1) < (ff_bs C F s t).1 ∨ (C (t + 1) = (ff_bs C F s t).1 ∧ F (t + 1) < (ff_bs C F s t).2.1)))) : ff_bs C F s (t + 1) = ff_bs C F s t := if_neg h
theorem ff_bs_congr {C F C' F' : Nat → Int32} {s : Nat} : ∀ {t : Nat}, (∀ x, 1 ≤ x → x ≤ t → C x = C' x ∧ F x = F' x) → ff_bs C F s t = ff_bs C' F' s t
  | 0, _ => rfl
  | t + 1, h => by
    have ih := ff_bs_congr (s := s) (t := t) (fun x h1 h2 => h x h1 (by omega))
    obtain ⟨e1, e2⟩ := h (t + 1) (by omega) (by omega)
    unfold ff_bs
    rw [ih, e1, e2]
theorem ff_bs_is {C F : Nat → Int32} {s : Nat} : ∀ {t : Nat}, 1 ≤ t → ∃ x, 1 ≤ x ∧ x ≤ t ∧ ff_bs C F s t = (C x, F x, s + x)
  | 0, h => absurd h (by omega)
  | t + 1, _ => by
    unfold ff_bs
    split
    · exact ⟨t + 1, by omega, by omega, rfl⟩
    · rename_i h
      obtain ⟨x, h1, h2, h3⟩ := ff_bs_is (C := C) (F := F) (s := s) (t := t) (by
        apply Decidable.byContradiction
        intro q
        exact h (Or.inl (by omega)))
      exact ⟨x, h1, by omega, h3⟩
def ff_un (E : Nat → Nat) (k x : Nat) : Nat → Nat := fun i => if i = k then x else E i
/-- what is best from each of the last k notes on -/
def ff_D (P : Nat → Int32) (n : Nat) (base bw : Int32) : Nat → (Nat → Int32) × (Nat → Int32) × (Nat → Nat)
  | 0 => (fun _ => 0, fun _ => nI 0, fun _ => 0)
  | k + 1 => (upd (ff_D P n base bw k).1 (n - 1 - k) (ff_bs (ff_C base bw P (ff_D P n base bw k).1 (n - 1 - k)) (ff_W (ff_D P n base bw k).2.1 (n - 1 - k)) (n - 1 - k) (k + 1)).1,
      upd (ff_D P n base bw k).2.1 (n - 1 - k) (ff_bs (ff_C base bw P (ff_D P n base bw k).1 (n - 1 - k)) (ff_W (ff_D P n base bw k).2.1 (n - 1 - k)) (n - 1 - k) (k + 1)).2.1,
      ff_un (ff_D P n base bw k).2.2 (n - 1 - k) (ff_bs (ff_C base bw P (ff_D P n base bw k).1 (n - 1 - k)) (ff_W (ff_D P n base bw k).2.1 (n - 1 - k)) (n - 1 - k) (k + 1)).2.2)
/-- arrays that hold the best of the last k -/
def ff_Dok (P : Nat → Int32) (n : Nat) (base bw : Int32) (k : Nat) (lc fw fe : Nat → Int32) : Prop := ∀ i, n - k ≤ i → i ≤ n → lc i = (ff_D P n base bw k).1 i ∧ fw i = (ff_D P n base bw k).2.1 i ∧ (i < n → fe i = nI ((ff_D P n base bw k).2.2 i))
theorem ff_Dok_s {P : Nat → Int32} {n : Nat} {base bw : Int32} {k : Nat} {lc fw fe lc' fw' fe' : Nat → Int32} (hk : k + 1 ≤ n) (h : ff_Dok P n base bw k lc fw fe)
    (h1 : ∀ x, ¬ x = n - 1 - k → lc' x = lc x ∧ fw' x = fw x ∧ fe' x = fe x)
    (h2 : lc' (n - 1 - k) = (ff_bs (ff_C base bw P lc (n - 1 - k)) (ff_W fw (n - 1 - k)) (n - 1 - k) (k + 1)).1 ∧ fw' (n - 1 - k) = (ff_bs (ff_C base bw P lc (n - 1 - k)) (ff_W fw (n - 1 - k)) (n - 1 - k) (k + 1)).2.1 ∧ fe' (n - 1 - k) = nI (ff_bs (ff_C base bw P lc (n - 1 - k)) (ff_W fw (n - 1 - k)) (n - 1 - k) (k + 1)).2.2) : ff_Dok P n base bw (k + 1) lc' fw' fe' := by
  have e : ff_bs (ff_C base bw P lc (n - 1 - k)) (ff_W fw (n - 1 - k)) (n - 1 - k) (k + 1) = ff_bs (ff_C base bw P (ff_D P n base bw k).1 (n - 1 - k)) (ff_W (ff_D P n base bw k).2.1 (n - 1 - k)) (n - 1 - k) (k + 1) := by
    refine ff_bs_congr (fun x hx1 hx2 => ?_)
    obtain ⟨e1, e2, -⟩ := h (n - 1 - k + x) (by omega) (by omega)
    unfold ff_C ff_W
    rw [e1, e2]
    exact ⟨rfl, rfl⟩
  rw [e] at h2
  intro i hi1 hi2
  by_cases hi : i = n - 1 - k
  · subst hi
    obtain ⟨a, b, c⟩ := h2
    refine ⟨?_, ?_, fun _ => ?_⟩
    · rw [a]; exact pk_us.symm
    · rw [b]; exact pk_us.symm
    · rw [c]; congr 1; exact (if_pos rfl).symm
  · obtain ⟨a, b, c⟩ := h1 i hi
    obtain ⟨a2, b2, c2⟩ := h i (by omega) hi2
    refine ⟨?_, ?_, fun hn => ?_⟩
    · rw [a, a2]; exact (pk_un hi).symm
    · rw [b, b2]; exact (pk_un hi).symm
    · rw [c, c2 hn]; congr 1; exact (if_neg hi).symm
/-- the chain of ends -/
def ff_ch (E : Nat → Nat) : Nat → Nat → Nat
  | 0, s => s
  | k + 1, s => E (ff_ch E k s)
theorem ff_ch_f (E : Nat → Nat) : ∀ k s, ff_ch E k (E s) = ff_ch E (k + 1) s
  | 0, _ => rfl
  | k + 1, s => by
    show E (ff_ch E k (E s)) = E (ff_ch E (k + 1) s)
    rw [ff_ch_f E k s]
/-- each end lies behind, and the number counts them -/
theorem ff_D_e {P : Nat → Int32} {n : Nat} {base bw : Int32} : ∀ {k : Nat}, k ≤ n → ((ff_D P n base bw k).2.1 n = nI 0 ∧ ∀ i, n - k ≤ i → i < n → i < (ff_D P n base bw k).2.2 i ∧ (ff_D P n base bw k).2.2 i ≤ n ∧ (ff_D P n base bw k).2.1 i = nI 1 + (ff_D P n base bw k).2.1 ((ff_D P n base bw k).2.2 i))
  | 0, _ => ⟨rfl, fun i h1 h2 => absurd h1 (by omega)⟩
  | k + 1, hk => by
    obtain ⟨ih0, ih⟩ := ff_D_e (P := P) (n := n) (base := base) (bw := bw) (k := k) (by omega)
    constructor
    · show upd _ _ _ n = _
      rw [pk_un (by omega)]; exact ih0
    · intro i h1 h2
      show i < ff_un _ _ _ i ∧ ff_un _ _ _ i ≤ n ∧ upd _ _ _ i = nI 1 + upd _ _ _ (ff_un _ _ _ i)
      by_cases hi : i = n - 1 - k
      · obtain ⟨x, hx1, hx2, hx3⟩ := ff_bs_is (C := ff_C base bw P (ff_D P n base bw k).1 (n - 1 - k)) (F := ff_W (ff_D P n base bw k).2.1 (n - 1 - k)) (s := n - 1 - k) (t := k + 1) (by omega)
        rw [hx3]
        subst hi
        unfold ff_un
        rw [if_pos rfl, pk_us]
        refine ⟨by show _ < n - 1 - k + x; omega, by show n - 1 - k + x ≤ n; omega, ?_⟩
        show ff_W _ _ x = nI 1 + upd _ _ _ (n - 1 - k + x)
        rw [pk_un (by omega)]
        rfl
      · obtain ⟨a, b, c⟩ := ih i (by omega) h2
        unfold ff_un
        rw [if_neg hi, pk_un hi]
        refine ⟨a, b, ?_⟩
        rw [pk_un (by omega)]
        exact c
theorem ff_chain {E : Nat → Nat} {w : Nat → Int32} {n : Nat} (h0 : w n = nI 0) (h : ∀ i, i < n → i < E i ∧ E i ≤ n ∧ w i = nI 1 + w (E i)) : ∀ d i, i ≤ n → n - i ≤ d → ∃ z, z ≤ n - i ∧ w i = nI z ∧ ff_ch E z i = n ∧ ∀ t, t < z → ff_ch E t i < n
  | 0, i, hi, hd => ⟨0, Nat.zero_le _, by rw [show i = n by omega]; exact h0, by show i = n; omega, fun t ht => absurd ht (Nat.not_lt_zero _)⟩
  | d + 1, i, hi, hd => by
    by_cases hn : i = n
    · exact ⟨0, Nat.zero_le _, by rw [hn]; exact h0, hn, fun t ht => absurd ht (Nat.not_lt_zero _)⟩
    · obtain ⟨a, b, c⟩ := h i (by omega)
      obtain ⟨z, h1, h2, h3, h4⟩ := ff_chain h0 h d (E i) b (by omega)
      refine ⟨z + 1, by omega, ?_, ?_, ?_⟩
      · rw [c, h2, nI_add, Nat.add_comm]
      · rw [← ff_ch_f]; exact h3
      · intro t ht
        cases t with
        | zero => show i < n; omega
        | succ t => rw [← ff_ch_f]; exact h4 t (by omega)
def ff_sn (P : Nat → Int32) (n : Nat) (base bw : Int32) : Nat := ((ff_D P n base bw n).2.1 0).toNatClampNeg
theorem ff_sn_ok (P : Nat → Int32) {n : Nat} (base bw : Int32) (hn : n ≤ 60) : ff_sn P n base bw ≤ n ∧ (ff_D P n base bw n).2.1 0 = nI (ff_sn P n base bw) ∧ ff_ch (ff_D P n base bw n).2.2 (ff_sn P n base bw) 0 = n ∧ ∀ t, t < ff_sn P n base bw → ff_ch (ff_D P n base bw n).2.2 t 0 < n := by
  obtain ⟨h0, h⟩ := ff_D_e (P := P) (n := n) (base := base) (bw := bw) (k := n) (Nat.le_refl _)
  obtain ⟨z, h1, h2, h3, h4⟩ := ff_chain h0 (fun i hi => h i (by omega) hi) n 0 (Nat.zero_le _) (by omega)
  have hz : ff_sn P n base bw = z := by
    unfold ff_sn
    rw [h2, nI_clamp (by omega)]
  rw [hz]
  exact ⟨by omega, h2, h3, h4⟩
theorem ff_dm {d : Nat} (h : d ≤ 60) : nI d - nI 1 < 0 ↔ d = 0 := by
  have key : ∀ d : Fin 61, (nI d.val - nI 1 < 0) = (d.val = 0) := by
    intro d
    have : ∀ d : Fin 61, decide (nI d.val - nI 1 < 0) = decide (d.val = 0) := by decide +kernel
    have h1 := this d
    exact propext ⟨fun q => of_decide_eq_true (h1 ▸ decide_eq_true q), fun q => of_decide_eq_true (h1.symm ▸ decide_eq_true q)⟩
  have := key ⟨d, by omega⟩
  rw [this]
theorem ff_Dok_0 {P : Nat → Int32} {n : Nat} {base bw : Int32} (lc fw fe : Nat → Int32) : ff_Dok P n base bw (n - n) (upd lc n (nI 0)) (upd fw n (nI 0)) fe := by
  intro i h1 h2
  have hi : i = n := by omega
  subst hi
  rw [Nat.sub_self, pk_us, pk_us]
  exact ⟨rfl, rfl, fun h => absurd h (Nat.lt_irrefl _)⟩
theorem ff_w1 {s : Nat} {lc fw fe LC FW FE : Nat → Int32} {a b c : Int32} (h : ∀ x, ¬ x = s → LC x = lc x ∧ FW x = fw x ∧ FE x = fe x) : ∀ x, ¬ x = s → upd LC s a x = lc x ∧ upd FW s b x = fw x ∧ upd FE s c x = fe x := by
  intro x hx
  rw [pk_un hx, pk_un hx, pk_un hx]
  exact h x hx
theorem ff_w2 {C F LC FW FE : Nat → Int32} {s t : Nat} (h : t = 0 ∨ (C (t + 1) < (ff_bs C F s t).1 ∨ (C (t + 1) = (ff_bs C F s t).1 ∧ F (t + 1) < (ff_bs C F s t).2.1))) : upd LC s (C (t + 1)) s = (ff_bs C F s (t + 1)).1 ∧ upd FW s (F (t + 1)) s = (ff_bs C F s (t + 1)).2.1 ∧ upd FE s (nI (s + 1 + t)) s = nI (ff_bs C F s (t + 1)).2.2 := by
  rw [ff_bs_t h, pk_us, pk_us, pk_us, show s + 1 + t = s + t + 1 by omega]
  exact ⟨rfl, rfl, rfl⟩
theorem ff_w3 {x y A B : Int32} {b : Int32 × Int32 × Nat} {E : Int32} (h : A = b.1 ∧ B = b.2.1 ∧ E = nI b.2.2) (c : x < A ∨ (x = A ∧ y < B)) : x < b.1 ∨ (x = b.1 ∧ y < b.2.1) := by
  rw [← h.1, ← h.2.1]; exact c
theorem ff_w4 {C F LC FW FE : Nat → Int32} {s t : Nat} (h : LC s = (ff_bs C F s t).1 ∧ FW s = (ff_bs C F s t).2.1 ∧ FE s = nI (ff_bs C F s t).2.2) (ht : ¬ t = 0) (c : ¬ (C (t + 1) < LC s ∨ (C (t + 1) = LC s ∧ F (t + 1) < FW s))) : LC s = (ff_bs C F s (t + 1)).1 ∧ FW s = (ff_bs C F s (t + 1)).2.1 ∧ FE s = nI (ff_bs C F s (t + 1)).2.2 := by
  rw [ff_bs_f (fun q => q.elim ht (fun q => c (by rw [h.1, h.2.1]; exact q)))]
  exact h
theorem ff_Dok_d {P : Nat → Int32} {n : Nat} {base bw : Int32} {d : Nat} {lc fw fe lc' fw' fe' : Nat → Int32} (hd : d + 1 ≤ n) (h : ff_Dok P n base bw (n - (d + 1)) lc fw fe)
    (h2 : (∀ x, ¬ x = d → lc' x = lc x ∧ fw' x = fw x ∧ fe' x = fe x) ∧ lc' d = (ff_bs (ff_C base bw P lc d) (ff_W fw d) d (n - d)).1 ∧ fw' d = (ff_bs (ff_C base bw P lc d) (ff_W fw d) d (n - d)).2.1 ∧ fe' d = nI (ff_bs (ff_C base bw P lc d) (ff_W fw d) d (n - d)).2.2) : ff_Dok P n base bw (n - d) lc' fw' fe' := by
  have e1 : n - 1 - (n - (d + 1)) = d := by omega
  have e2 : n - d = n - (d + 1) + 1 := by omega
  rw [e2] at h2 ⊢
  refine ff_Dok_s (k := n - (d + 1)) (by omega) h ?_ ?_
  · rw [e1]; exact h2.1
  · rw [e1]; exact h2.2
