/-! both sides agree -/
abbrev RN (nn : Nat) (NP NL : Nat → Int32) (n : Nat) (KP KL : Nat → Int32) : Prop := nn ≤ 60 ∧ n = nn ∧ ∀ t, t < nn → KP t = NP t ∧ KL t = NL t ∧ 0 ≤ (NP t).toInt ∧ (NP t).toInt ≤ 127
abbrev RT (tn : Nat) (TP TL : Nat → Int32) (mn : Nat) (KM KN : Nat → Int32) : Prop := tn ≤ 12 ∧ mn = tn ∧ ∀ t, t < tn → KM t = TP t ∧ KN t = TL t ∧ 0 ≤ (TP t).toInt ∧ (TP t).toInt ≤ 127
abbrev RG (gn : Nat) (GP : Nat → Int32) (rn : Nat) (KR : Nat → Int32) : Prop := gn ≤ 900 ∧ rn = gn ∧ ∀ k w, k < gn → w < 3 → KR (3 * k + w) = GP (3 * k + w)
abbrev RP (pn : Nat) (PS : Nat → Int32) (pm : Nat) (KS : Nat → Int32) : Prop := pn ≤ 60 ∧ pm = pn ∧ ∀ k, k < pn → KS k = PS k
abbrev RQ (qn : Nat) (qc : Int32) (QS : Nat → Int32) (sm : Nat) (co : Int32) (KB : Nat → Int32) : Prop := qn ≤ 60 ∧ sm = qn ∧ co = qc ∧ ∀ k, k < qn → KB k = QS k
def ff_Rel (u v : ff_S) : Prop := RN (u.1 0) (u.2.2 0) (u.2.2 1) (v.1 0) (v.2.2 0) (v.2.2 1) ∧ RT (u.1 1) (u.2.2 2) (u.2.2 3) (v.1 2) (v.2.2 3) (v.2.2 4) ∧ RG (u.1 3) (u.2.2 7) (v.1 1) (v.2.2 2) ∧ RP (u.1 4) (u.2.2 9) (v.1 3) (v.2.2 5) ∧ RQ (u.1 5) (u.2.1 1) (u.2.2 10) (v.1 4) (v.2.1 1) (v.2.2 6)
/-- what the law asks behind a call: the numbers of the throws agree, and the answers -/
def ff_fin (k : Int32) (u : ff_S × (Nat → Int64)) (r : Int32) (v : ff_S) : Prop := v.2.1 0 = k ∧ (k = nI 0 → u.2 0 = r.toInt64) ∧ ff_Rel u.1 v
theorem ff_all_congr {p q : Nat → Bool} : ∀ {n : Nat}, (∀ t, t < n → p t = q t) → ff_all p n = ff_all q n
  | 0, _ => rfl
  | n + 1, h => by
    show (ff_all p n && p n) = (ff_all q n && q n)
    rw [ff_all_congr (fun t ht => h t (by omega)), h n (by omega)]
theorem ff_all_and {p q : Nat → Bool} : ∀ n : Nat, ff_all (fun t => p t && q t) n = (ff_all p n && ff_all q n)
  | 0 => rfl
  | n + 1 => by
    show (ff_all (fun t => p t && q t) n && (p n && q n)) = ((ff_all p n && p n) && (ff_all q n && q n))
    rw [ff_all_and n]
    cases ff_all p n <;> cases ff_all q n <;> cases p n <;> cases q n <;> rfl
/-- hits of the class's search are the hits of the check's -/
theorem ff_hits_to {p q : Nat → Bool} {N n : Nat} (hN : N ≤ n) (h1 : ∀ z, z < N → p z = q z) (h2 : ∀ z, N ≤ z → z < n → q z = false) : ff_ct q n = ff_ct p N ∧ ∀ w, ff_hits q n w → ff_hits p N w := by
  refine ⟨?_, fun w hw z hz hp => ?_⟩
  · rw [ff_ct_zero hN h2]
    exact (ff_ct_ext h1).symm
  · have e : ff_ct p z = ff_ct q z := ff_ct_ext (fun t ht => h1 t (by omega))
    rw [e]
    exact hw z (by omega) (by rw [← h1 z hz]; exact hp)
theorem ff_at_eq {nn tn z : Nat} {NP NL SP SL KP KL T L2 : Nat → Int32} {up dn : Int32} (hz : z + tn ≤ nn) (hP : ∀ t, t < nn → KP t = NP t ∧ KL t = NL t) (hT : ∀ t, t < tn → T t = SP t ∧ L2 t = SL t) : ff_at NP NL SP SL tn up dn z = ff_pm nn KP KL T L2 tn up dn z := by
  unfold ff_at ff_pm ff_go
  rw [ff_all_and, decide_eq_true hz, Bool.true_and]
  congr 1
  · refine ff_all_congr (fun t ht => ?_)
    by_cases h0 : t = 0
    · rw [decide_eq_true h0, Bool.true_or, Bool.true_or]
    · rw [(hP (z + t) (by omega)).1, (hP (z + t - 1) (by omega)).1, (hT t ht).1, (hT (t - 1) (by omega)).1]
  · refine ff_all_congr (fun t ht => ?_)
    rw [(hP (z + t) (by omega)).2, (hT t ht).2]
theorem ff_pm_out {nn tn z : Nat} {KP KL T L2 : Nat → Int32} {up dn : Int32} (hz : ¬ z + tn ≤ nn) : ff_pm nn KP KL T L2 tn up dn z = false := by
  unfold ff_pm ff_go
  rw [decide_eq_false hz, Bool.false_and, Bool.false_and]
theorem ff_go_pm {nn tn z : Nat} {KP T : Nat → Int32} (KL L2 : Nat → Int32) : ff_go nn KP T tn z = ff_pm nn KP KL T L2 tn (nI 0) (nI 0) z := by
  unfold ff_pm
  have : ff_all (fun t => decide (KL (z + t) * nI 0 = L2 t * nI 0)) tn = true := by
    rw [ff_all_iff]
    intro t _
    rw [show nI 0 = 0 from nI_0, Int32.mul_zero, Int32.mul_zero]
    exact decide_eq_true rfl
  rw [this, Bool.and_true]
set_option maxHeartbeats 4000000 in
theorem rl_note {u0 v0 : ff_S} (hR : ff_Rel u0 v0) (x y : Int32) (k : Int32) (uu : ff_S × (Nat → Int64)) (rm : Int32) (vv : ff_S) (h1 : wP (fun r u => okNo x y ∧ (u0.1 0) < 60 ∧ r = nI (u0.1 0) ∧ u = (ff_N ((u0.1 0) + 1) ((u0.1 1)) ((u0.1 2)) ((u0.1 3)) ((u0.1 4)) ((u0.1 5)), ff_Z ((u0.2.1 0)) ((u0.2.1 1)), ff_A14 (upd (u0.2.2 0) (u0.1 0) x) (upd (u0.2.2 1) (u0.1 0) y) ((u0.2.2 2)) ((u0.2.2 3)) ((u0.2.2 4)) ((u0.2.2 5)) ((u0.2.2 6)) ((u0.2.2 7)) ((u0.2.2 8)) ((u0.2.2 9)) ((u0.2.2 10)) ((u0.2.2 11)) ((u0.2.2 12)) ((u0.2.2 13)))) (fun E => (E = xIA ∧ ¬ okNo x y) ∨ (E = xIS ∧ okNo x y ∧ (u0.1 0) = 60)) (ff_N ((u0.1 0)) ((u0.1 1)) ((u0.1 2)) ((u0.1 3)) ((u0.1 4)) ((u0.1 5)), ff_Z ((u0.2.1 0)) ((u0.2.1 1)), ff_A14 ((u0.2.2 0)) ((u0.2.2 1)) ((u0.2.2 2)) ((u0.2.2 3)) ((u0.2.2 4)) ((u0.2.2 5)) ((u0.2.2 6)) ((u0.2.2 7)) ((u0.2.2 8)) ((u0.2.2 9)) ((u0.2.2 10)) ((u0.2.2 11)) ((u0.2.2 12)) ((u0.2.2 13))) k uu) (h2 : (fun (r : Int32) (u : ff_S) => (¬ okNo x y ∧ r = nI 0 ∧ u = (ff_N ((v0.1 0)) ((v0.1 1)) ((v0.1 2)) ((v0.1 3)) ((v0.1 4)) 0, ff_Z ((nI 1)) ((v0.2.1 1)), ff_A14 ((v0.2.2 0)) ((v0.2.2 1)) ((v0.2.2 2)) ((v0.2.2 3)) ((v0.2.2 4)) ((v0.2.2 5)) ((v0.2.2 6)) ((v0.2.2 7)) ((v0.2.2 8)) ((v0.2.2 9)) ((v0.2.2 10)) ((v0.2.2 10)) ((v0.2.2 10)) ((v0.2.2 10)))) ∨ (okNo x y ∧ (v0.1 0) = 60 ∧ r = nI 0 ∧ u = (ff_N ((v0.1 0)) ((v0.1 1)) ((v0.1 2)) ((v0.1 3)) ((v0.1 4)) 0, ff_Z ((nI 2)) ((v0.2.1 1)), ff_A14 ((v0.2.2 0)) ((v0.2.2 1)) ((v0.2.2 2)) ((v0.2.2 3)) ((v0.2.2 4)) ((v0.2.2 5)) ((v0.2.2 6)) ((v0.2.2 7)) ((v0.2.2 8)) ((v0.2.2 9)) ((v0.2.2 10)) ((v0.2.2 10)) ((v0.2.2 10)) ((v0.2.2 10)))) ∨ (okNo x y ∧ (v0.1 0) < 60 ∧ r = nI (v0.1 0) ∧ u = (ff_N ((v0.1 0) + 1) ((v0.1 1)) ((v0.1 2)) ((v0.1 3)) ((v0.1 4)) 0, ff_Z ((nI 0)) ((v0.2.1 1)), ff_A14 (upd (v0.2.2 0) (v0.1 0) x) (upd (v0.2.2 1) (v0.1 0) y) ((v0.2.2 2)) ((v0.2.2 3)) ((v0.2.2 4)) ((v0.2.2 5)) ((v0.2.2 6)) ((v0.2.2 7)) ((v0.2.2 8)) ((v0.2.2 9)) ((v0.2.2 10)) ((v0.2.2 10)) ((v0.2.2 10)) ((v0.2.2 10))))) rm vv) : ff_fin k uu rm vv := by
  try dsimp only at h2
  obtain ⟨⟨hn, en, hN2⟩, ⟨ht, et, hT2⟩, ⟨hg1, eg, hG2⟩, ⟨hp1, ep, hP2⟩, ⟨hq1, eq1, ec, hQ2⟩⟩ := id hR
  simp only [en, et, eg, ep, eq1] at h2
  unfold wP at h1
  have hN0 : RN (u0.1 0) (u0.2.2 0) (u0.2.2 1) (u0.1 0) (v0.2.2 0) (v0.2.2 1) := ⟨hn, rfl, hN2⟩
  have hT0 : RT (u0.1 1) (u0.2.2 2) (u0.2.2 3) (u0.1 1) (v0.2.2 3) (v0.2.2 4) := ⟨ht, rfl, hT2⟩
  have hG0 : RG (u0.1 3) (u0.2.2 7) (u0.1 3) (v0.2.2 2) := ⟨hg1, rfl, hG2⟩
  have hP0 : RP (u0.1 4) (u0.2.2 9) (u0.1 4) (v0.2.2 5) := ⟨hp1, rfl, hP2⟩
  have hQ0 : RQ (u0.1 5) (u0.2.1 1) (u0.2.2 10) (u0.1 5) (v0.2.1 1) (v0.2.2 6) := ⟨hq1, rfl, ec, hQ2⟩
  rcases h1 with ⟨rfl, x9, hp9, hg9⟩ | ⟨rfl, hb9, hu9⟩ | ⟨rfl, hb9, hu9⟩
  · rcases h2 with ⟨hno, -⟩ | ⟨hok2, h2c, -⟩ | h2
    · exact absurd hp9.1 hno
    · exact absurd h2c (by have := hp9.2.1; omega)
    · obtain ⟨hok, hlt, rfl, hu⟩ := hp9
      obtain ⟨-, -, rfl, rfl⟩ := h2
      refine ⟨rfl, fun _ => hg9, ?_⟩
      rw [hu]
      refine ⟨(?_ : RN (u0.1 0 + 1) (upd (u0.2.2 0) (u0.1 0) x) (upd (u0.2.2 1) (u0.1 0) y) (u0.1 0 + 1) (upd (v0.2.2 0) (u0.1 0) x) (upd (v0.2.2 1) (u0.1 0) y)), hT0, hG0, hP0, hQ0⟩
      refine ⟨by omega, rfl, fun t ht9 => ?_⟩
      by_cases h : t = u0.1 0
      · subst h
        rw [pk_us, pk_us, pk_us, pk_us]
        obtain ⟨⟨j, hj, e9⟩⟩ : Nonempty (∃ j, j ≤ 127 ∧ x = nI j) := ⟨ff_of (by decide) hok.1⟩
        rw [e9, nI_toInt (by omega)]
        exact ⟨rfl, rfl, by omega, by omega⟩
      · rw [pk_un h, pk_un h, pk_un h, pk_un h]
        exact hN2 t (by omega)
  · have hb8 := hb9.resolve_right (fun h => absurd h.1 (by decide))
    rcases h2 with ⟨hno, rfl, rfl⟩ | ⟨hok2, -⟩ | ⟨hok2, -⟩
    · refine ⟨rfl, fun h => absurd h (by decide), ?_⟩
      rw [hu9]
      exact ⟨hN0, hT0, hG0, hP0, hQ0⟩
    · exact absurd hok2 hb8.2
    · exact absurd hok2 hb8.2
  · have hb8 := (hb9.elim (fun h => h.elim (fun h => absurd h.1 (by decide)) (fun h => h.2)) (fun h => h.elim (fun h => absurd h.1 (by decide)) (fun h => absurd h.1 (by decide))))
    rcases h2 with ⟨hno, -⟩ | ⟨hok2, h2c, rfl, rfl⟩ | ⟨hok2, h2c, -⟩
    · exact absurd hb8.1 hno
    · refine ⟨rfl, fun h => absurd h (by decide), ?_⟩
      rw [hu9]
      exact ⟨hN0, hT0, hG0, hP0, hQ0⟩
    · exact absurd h2c (by have := hb8.2; omega)

set_option maxHeartbeats 4000000 in
theorem rl_drop {u0 v0 : ff_S} (hR : ff_Rel u0 v0) (x : Int32) (k : Int32) (uu : ff_S × (Nat → Int64)) (rm : Int32) (vv : ff_S) (h1 : wP (fun r u => okDr (u0.1 0) x ∧ r = nI ((u0.1 0) - cl x) ∧ u = (ff_N ((u0.1 0) - cl x) ((u0.1 1)) ((u0.1 2)) ((u0.1 3)) ((u0.1 4)) ((u0.1 5)), ff_Z ((u0.2.1 0)) ((u0.2.1 1)), ff_A14 ((u0.2.2 0)) ((u0.2.2 1)) ((u0.2.2 2)) ((u0.2.2 3)) ((u0.2.2 4)) ((u0.2.2 5)) ((u0.2.2 6)) ((u0.2.2 7)) ((u0.2.2 8)) ((u0.2.2 9)) ((u0.2.2 10)) ((u0.2.2 11)) ((u0.2.2 12)) ((u0.2.2 13)))) (fun E => E = xIA ∧ ¬ okDr (u0.1 0) x) (ff_N ((u0.1 0)) ((u0.1 1)) ((u0.1 2)) ((u0.1 3)) ((u0.1 4)) ((u0.1 5)), ff_Z ((u0.2.1 0)) ((u0.2.1 1)), ff_A14 ((u0.2.2 0)) ((u0.2.2 1)) ((u0.2.2 2)) ((u0.2.2 3)) ((u0.2.2 4)) ((u0.2.2 5)) ((u0.2.2 6)) ((u0.2.2 7)) ((u0.2.2 8)) ((u0.2.2 9)) ((u0.2.2 10)) ((u0.2.2 11)) ((u0.2.2 12)) ((u0.2.2 13))) k uu) (h2 : (fun (r : Int32) (u : ff_S) => (¬ okDr (v0.1 0) x ∧ r = nI 0 ∧ u = (ff_N ((v0.1 0)) ((v0.1 1)) ((v0.1 2)) ((v0.1 3)) ((v0.1 4)) 0, ff_Z ((nI 1)) ((v0.2.1 1)), ff_A14 ((v0.2.2 0)) ((v0.2.2 1)) ((v0.2.2 2)) ((v0.2.2 3)) ((v0.2.2 4)) ((v0.2.2 5)) ((v0.2.2 6)) ((v0.2.2 7)) ((v0.2.2 8)) ((v0.2.2 9)) ((v0.2.2 10)) ((v0.2.2 10)) ((v0.2.2 10)) ((v0.2.2 10)))) ∨ (okDr (v0.1 0) x ∧ r = nI ((v0.1 0) - cl x) ∧ u = (ff_N ((v0.1 0) - cl x) ((v0.1 1)) ((v0.1 2)) ((v0.1 3)) ((v0.1 4)) 0, ff_Z ((nI 0)) ((v0.2.1 1)), ff_A14 ((v0.2.2 0)) ((v0.2.2 1)) ((v0.2.2 2)) ((v0.2.2 3)) ((v0.2.2 4)) ((v0.2.2 5)) ((v0.2.2 6)) ((v0.2.2 7)) ((v0.2.2 8)) ((v0.2.2 9)) ((v0.2.2 10)) ((v0.2.2 10)) ((v0.2.2 10)) ((v0.2.2 10))))) rm vv) : ff_fin k uu rm vv := by
  try dsimp only at h2
  obtain ⟨⟨hn, en, hN2⟩, ⟨ht, et, hT2⟩, ⟨hg1, eg, hG2⟩, ⟨hp1, ep, hP2⟩, ⟨hq1, eq1, ec, hQ2⟩⟩ := id hR
  simp only [en, et, eg, ep, eq1] at h2
  unfold wP at h1
  have hN0 : RN (u0.1 0) (u0.2.2 0) (u0.2.2 1) (u0.1 0) (v0.2.2 0) (v0.2.2 1) := ⟨hn, rfl, hN2⟩
  have hT0 : RT (u0.1 1) (u0.2.2 2) (u0.2.2 3) (u0.1 1) (v0.2.2 3) (v0.2.2 4) := ⟨ht, rfl, hT2⟩
  have hG0 : RG (u0.1 3) (u0.2.2 7) (u0.1 3) (v0.2.2 2) := ⟨hg1, rfl, hG2⟩
  have hP0 : RP (u0.1 4) (u0.2.2 9) (u0.1 4) (v0.2.2 5) := ⟨hp1, rfl, hP2⟩
  have hQ0 : RQ (u0.1 5) (u0.2.1 1) (u0.2.2 10) (u0.1 5) (v0.2.1 1) (v0.2.2 6) := ⟨hq1, rfl, ec, hQ2⟩
  rcases h1 with ⟨rfl, x9, hp9, hg9⟩ | ⟨rfl, hb9, hu9⟩ | ⟨rfl, hb9, hu9⟩
  · rcases h2 with ⟨hno, -⟩ | h2
    · exact absurd hp9.1 hno
    · obtain ⟨hok, rfl, hu⟩ := hp9
      obtain ⟨-, rfl, rfl⟩ := h2
      refine ⟨rfl, fun _ => hg9, ?_⟩
      rw [hu]
      exact ⟨(⟨by omega, rfl, fun t h9 => hN2 t (by omega)⟩ : RN (u0.1 0 - cl x) (u0.2.2 0) (u0.2.2 1) (u0.1 0 - cl x) (v0.2.2 0) (v0.2.2 1)), hT0, hG0, hP0, hQ0⟩
  · rcases h2 with ⟨hno, rfl, rfl⟩ | h2
    · refine ⟨rfl, fun h => absurd h (by decide), ?_⟩
      rw [hu9]
      exact ⟨hN0, hT0, hG0, hP0, hQ0⟩
    · exact absurd h2.1 hb9.2
  · exact (hb9.elim (fun h => absurd h.1 (by decide)) (fun h => absurd h.1 (by decide)))

set_option maxHeartbeats 4000000 in
theorem rl_items {u0 v0 : ff_S} (hR : ff_Rel u0 v0) (vw : Int32) (k : Int32) (uu : ff_S × (Nat → Int64)) (rm : Int32) (vv : ff_S) (h1 : wP (fun r u => okV vw ∧ r = nI (ff_cnt (cl vw) (u0.1 0)) ∧ u = (ff_N ((u0.1 0)) ((u0.1 1)) ((u0.1 2)) ((u0.1 3)) ((u0.1 4)) ((u0.1 5)), ff_Z ((u0.2.1 0)) ((u0.2.1 1)), ff_A14 ((u0.2.2 0)) ((u0.2.2 1)) ((u0.2.2 2)) ((u0.2.2 3)) ((u0.2.2 4)) ((u0.2.2 5)) ((u0.2.2 6)) ((u0.2.2 7)) ((u0.2.2 8)) ((u0.2.2 9)) ((u0.2.2 10)) ((u0.2.2 11)) ((u0.2.2 12)) ((u0.2.2 13)))) (fun E => E = xIA ∧ ¬ okV vw) (ff_N ((u0.1 0)) ((u0.1 1)) ((u0.1 2)) ((u0.1 3)) ((u0.1 4)) ((u0.1 5)), ff_Z ((u0.2.1 0)) ((u0.2.1 1)), ff_A14 ((u0.2.2 0)) ((u0.2.2 1)) ((u0.2.2 2)) ((u0.2.2 3)) ((u0.2.2 4)) ((u0.2.2 5)) ((u0.2.2 6)) ((u0.2.2 7)) ((u0.2.2 8)) ((u0.2.2 9)) ((u0.2.2 10)) ((u0.2.2 11)) ((u0.2.2 12)) ((u0.2.2 13))) k uu) (h2 : (fun (r : Int32) (u : ff_S) => (¬ okV vw ∧ r = nI 0 ∧ u = (ff_N ((v0.1 0)) ((v0.1 1)) ((v0.1 2)) ((v0.1 3)) ((v0.1 4)) 0, ff_Z ((nI 1)) ((v0.2.1 1)), ff_A14 ((v0.2.2 0)) ((v0.2.2 1)) ((v0.2.2 2)) ((v0.2.2 3)) ((v0.2.2 4)) ((v0.2.2 5)) ((v0.2.2 6)) ((v0.2.2 7)) ((v0.2.2 8)) ((v0.2.2 9)) ((v0.2.2 10)) ((v0.2.2 10)) ((v0.2.2 10)) ((v0.2.2 10)))) ∨ (okV vw ∧ r = nI (ff_cnt (cl vw) (v0.1 0)) ∧ u = (ff_N ((v0.1 0)) ((v0.1 1)) ((v0.1 2)) ((v0.1 3)) ((v0.1 4)) 0, ff_Z ((nI 0)) ((v0.2.1 1)), ff_A14 ((v0.2.2 0)) ((v0.2.2 1)) ((v0.2.2 2)) ((v0.2.2 3)) ((v0.2.2 4)) ((v0.2.2 5)) ((v0.2.2 6)) ((v0.2.2 7)) ((v0.2.2 8)) ((v0.2.2 9)) ((v0.2.2 10)) ((v0.2.2 10)) ((v0.2.2 10)) ((v0.2.2 10))))) rm vv) : ff_fin k uu rm vv := by
  try dsimp only at h2
  obtain ⟨⟨hn, en, hN2⟩, ⟨ht, et, hT2⟩, ⟨hg1, eg, hG2⟩, ⟨hp1, ep, hP2⟩, ⟨hq1, eq1, ec, hQ2⟩⟩ := id hR
  simp only [en, et, eg, ep, eq1] at h2
  unfold wP at h1
  have hN0 : RN (u0.1 0) (u0.2.2 0) (u0.2.2 1) (u0.1 0) (v0.2.2 0) (v0.2.2 1) := ⟨hn, rfl, hN2⟩
  have hT0 : RT (u0.1 1) (u0.2.2 2) (u0.2.2 3) (u0.1 1) (v0.2.2 3) (v0.2.2 4) := ⟨ht, rfl, hT2⟩
  have hG0 : RG (u0.1 3) (u0.2.2 7) (u0.1 3) (v0.2.2 2) := ⟨hg1, rfl, hG2⟩
  have hP0 : RP (u0.1 4) (u0.2.2 9) (u0.1 4) (v0.2.2 5) := ⟨hp1, rfl, hP2⟩
  have hQ0 : RQ (u0.1 5) (u0.2.1 1) (u0.2.2 10) (u0.1 5) (v0.2.1 1) (v0.2.2 6) := ⟨hq1, rfl, ec, hQ2⟩
  rcases h1 with ⟨rfl, x9, hp9, hg9⟩ | ⟨rfl, hb9, hu9⟩ | ⟨rfl, hb9, hu9⟩
  · rcases h2 with ⟨hno, -⟩ | h2
    · exact absurd hp9.1 hno
    · obtain ⟨hok, rfl, hu⟩ := hp9
      obtain ⟨-, rfl, rfl⟩ := h2
      refine ⟨rfl, fun _ => ?_, ?_⟩
      · rw [hg9]
      · rw [hu]
        exact ⟨hN0, hT0, hG0, hP0, hQ0⟩
  · rcases h2 with ⟨hno, rfl, rfl⟩ | h2
    · refine ⟨rfl, fun h => absurd h (by decide), ?_⟩
      rw [hu9]
      exact ⟨hN0, hT0, hG0, hP0, hQ0⟩
    · exact absurd h2.1 hb9.2
  · exact (hb9.elim (fun h => absurd h.1 (by decide)) (fun h => absurd h.1 (by decide)))

set_option maxHeartbeats 4000000 in
theorem rl_item {u0 v0 : ff_S} (hR : ff_Rel u0 v0) (vw i : Int32) (k : Int32) (uu : ff_S × (Nat → Int64)) (rm : Int32) (vv : ff_S) (h1 : wP (fun r u => okVI (u0.1 0) vw i ∧ r = ff_it (u0.2.2 0) (u0.2.2 1) (cl vw) (cl i) ∧ u = (ff_N ((u0.1 0)) ((u0.1 1)) ((u0.1 2)) ((u0.1 3)) ((u0.1 4)) ((u0.1 5)), ff_Z ((u0.2.1 0)) ((u0.2.1 1)), ff_A14 ((u0.2.2 0)) ((u0.2.2 1)) ((u0.2.2 2)) ((u0.2.2 3)) ((u0.2.2 4)) ((u0.2.2 5)) ((u0.2.2 6)) ((u0.2.2 7)) ((u0.2.2 8)) ((u0.2.2 9)) ((u0.2.2 10)) ((u0.2.2 11)) ((u0.2.2 12)) ((u0.2.2 13)))) (fun E => E = xIA ∧ ¬ okVI (u0.1 0) vw i) (ff_N ((u0.1 0)) ((u0.1 1)) ((u0.1 2)) ((u0.1 3)) ((u0.1 4)) ((u0.1 5)), ff_Z ((u0.2.1 0)) ((u0.2.1 1)), ff_A14 ((u0.2.2 0)) ((u0.2.2 1)) ((u0.2.2 2)) ((u0.2.2 3)) ((u0.2.2 4)) ((u0.2.2 5)) ((u0.2.2 6)) ((u0.2.2 7)) ((u0.2.2 8)) ((u0.2.2 9)) ((u0.2.2 10)) ((u0.2.2 11)) ((u0.2.2 12)) ((u0.2.2 13))) k uu) (h2 : (fun (r : Int32) (u : ff_S) => (¬ okVI (v0.1 0) vw i ∧ r = nI 0 ∧ u = (ff_N ((v0.1 0)) ((v0.1 1)) ((v0.1 2)) ((v0.1 3)) ((v0.1 4)) 0, ff_Z ((nI 1)) ((v0.2.1 1)), ff_A14 ((v0.2.2 0)) ((v0.2.2 1)) ((v0.2.2 2)) ((v0.2.2 3)) ((v0.2.2 4)) ((v0.2.2 5)) ((v0.2.2 6)) ((v0.2.2 7)) ((v0.2.2 8)) ((v0.2.2 9)) ((v0.2.2 10)) ((v0.2.2 10)) ((v0.2.2 10)) ((v0.2.2 10)))) ∨ (okVI (v0.1 0) vw i ∧ r = ff_it (v0.2.2 0) (v0.2.2 1) (cl vw) (cl i) ∧ u = (ff_N ((v0.1 0)) ((v0.1 1)) ((v0.1 2)) ((v0.1 3)) ((v0.1 4)) 0, ff_Z ((nI 0)) ((v0.2.1 1)), ff_A14 ((v0.2.2 0)) ((v0.2.2 1)) ((v0.2.2 2)) ((v0.2.2 3)) ((v0.2.2 4)) ((v0.2.2 5)) ((v0.2.2 6)) ((v0.2.2 7)) ((v0.2.2 8)) ((v0.2.2 9)) ((v0.2.2 10)) ((v0.2.2 10)) ((v0.2.2 10)) ((v0.2.2 10))))) rm vv) : ff_fin k uu rm vv := by
  try dsimp only at h2
  obtain ⟨⟨hn, en, hN2⟩, ⟨ht, et, hT2⟩, ⟨hg1, eg, hG2⟩, ⟨hp1, ep, hP2⟩, ⟨hq1, eq1, ec, hQ2⟩⟩ := id hR
  simp only [en, et, eg, ep, eq1] at h2
  unfold wP at h1
  have hN0 : RN (u0.1 0) (u0.2.2 0) (u0.2.2 1) (u0.1 0) (v0.2.2 0) (v0.2.2 1) := ⟨hn, rfl, hN2⟩
  have hT0 : RT (u0.1 1) (u0.2.2 2) (u0.2.2 3) (u0.1 1) (v0.2.2 3) (v0.2.2 4) := ⟨ht, rfl, hT2⟩
  have hG0 : RG (u0.1 3) (u0.2.2 7) (u0.1 3) (v0.2.2 2) := ⟨hg1, rfl, hG2⟩
  have hP0 : RP (u0.1 4) (u0.2.2 9) (u0.1 4) (v0.2.2 5) := ⟨hp1, rfl, hP2⟩
  have hQ0 : RQ (u0.1 5) (u0.2.1 1) (u0.2.2 10) (u0.1 5) (v0.2.1 1) (v0.2.2 6) := ⟨hq1, rfl, ec, hQ2⟩
  rcases h1 with ⟨rfl, x9, hp9, hg9⟩ | ⟨rfl, hb9, hu9⟩ | ⟨rfl, hb9, hu9⟩
  · rcases h2 with ⟨hno, -⟩ | h2
    · exact absurd hp9.1 hno
    · obtain ⟨hok, rfl, hu⟩ := hp9
      obtain ⟨-, rfl, rfl⟩ := h2
      refine ⟨rfl, fun _ => ?_, ?_⟩
      · rw [hg9]
        refine congrArg Int32.toInt64 ?_
        obtain ⟨v, hv, rfl, j, hj, rfl⟩ := hok
        have hcn := ff_cnt_le v (u0.1 0)
        rw [cl_n (by omega), cl_n (by omega)]
        exact ff_it_congr (fun t h => (hN2 t h).1.symm) (fun t h => (hN2 t h).2.1.symm) hj hv
      · rw [hu]
        exact ⟨hN0, hT0, hG0, hP0, hQ0⟩
  · rcases h2 with ⟨hno, rfl, rfl⟩ | h2
    · refine ⟨rfl, fun h => absurd h (by decide), ?_⟩
      rw [hu9]
      exact ⟨hN0, hT0, hG0, hP0, hQ0⟩
    · exact absurd h2.1 hb9.2
  · exact (hb9.elim (fun h => absurd h.1 (by decide)) (fun h => absurd h.1 (by decide)))

set_option maxHeartbeats 4000000 in
theorem rl_repeats {u0 v0 : ff_S} (hR : ff_Rel u0 v0) (vw q : Int32) (k : Int32) (uu : ff_S × (Nat → Int64)) (rm : Int32) (vv : ff_S) (h1 : wP (fun r u => okVM vw q ∧ ∃ g9 s9 : Nat → Int32, ff_rowsP (ff_rl (ff_fill (ff_it (u0.2.2 0) (u0.2.2 1) (cl vw)) (u0.2.2 6) (ff_cnt (cl vw) (u0.1 0))) (ff_cnt (cl vw) (u0.1 0))) (cl q) (ff_G (ff_cn (ff_rl (ff_fill (ff_it (u0.2.2 0) (u0.2.2 1) (cl vw)) (u0.2.2 6) (ff_cnt (cl vw) (u0.1 0))) (ff_cnt (cl vw) (u0.1 0))) (cl q) (ff_ar (ff_cnt (cl vw) (u0.1 0)) (ff_cnt (cl vw) (u0.1 0))))) (ff_ar (ff_cnt (cl vw) (u0.1 0)) (ff_cnt (cl vw) (u0.1 0))) g9 ∧ r = nI (ff_G (ff_cn (ff_rl (ff_fill (ff_it (u0.2.2 0) (u0.2.2 1) (cl vw)) (u0.2.2 6) (ff_cnt (cl vw) (u0.1 0))) (ff_cnt (cl vw) (u0.1 0))) (cl q) (ff_ar (ff_cnt (cl vw) (u0.1 0)) (ff_cnt (cl vw) (u0.1 0)))) 0) ∧ u = (ff_N ((u0.1 0)) ((u0.1 1)) ((u0.1 2)) ((ff_G (ff_cn (ff_rl (ff_fill (ff_it (u0.2.2 0) (u0.2.2 1) (cl vw)) (u0.2.2 6) (ff_cnt (cl vw) (u0.1 0))) (ff_cnt (cl vw) (u0.1 0))) (cl q) (ff_ar (ff_cnt (cl vw) (u0.1 0)) (ff_cnt (cl vw) (u0.1 0)))) 0)) ((u0.1 4)) ((u0.1 5)), ff_Z (nI (ff_cnt (cl vw) (u0.1 0))) ((u0.2.1 1)), ff_A14 ((u0.2.2 0)) ((u0.2.2 1)) ((u0.2.2 2)) ((u0.2.2 3)) ((u0.2.2 4)) ((u0.2.2 5)) (ff_fill (ff_it (u0.2.2 0) (u0.2.2 1) (cl vw)) (u0.2.2 6) (ff_cnt (cl vw) (u0.1 0))) (g9) (s9) ((u0.2.2 9)) ((u0.2.2 10)) ((u0.2.2 11)) ((u0.2.2 12)) ((u0.2.2 13)))) (fun E => E = xIA ∧ ¬ okVM vw q) (ff_N ((u0.1 0)) ((u0.1 1)) ((u0.1 2)) ((u0.1 3)) ((u0.1 4)) ((u0.1 5)), ff_Z ((u0.2.1 0)) ((u0.2.1 1)), ff_A14 ((u0.2.2 0)) ((u0.2.2 1)) ((u0.2.2 2)) ((u0.2.2 3)) ((u0.2.2 4)) ((u0.2.2 5)) ((u0.2.2 6)) ((u0.2.2 7)) ((u0.2.2 8)) ((u0.2.2 9)) ((u0.2.2 10)) ((u0.2.2 11)) ((u0.2.2 12)) ((u0.2.2 13))) k uu) (h2 : (fun (r : Int32) (u : ff_S) => (¬ okVM vw q ∧ r = nI 0 ∧ u = (ff_N ((v0.1 0)) ((v0.1 1)) ((v0.1 2)) ((v0.1 3)) ((v0.1 4)) 0, ff_Z ((nI 1)) ((v0.2.1 1)), ff_A14 ((v0.2.2 0)) ((v0.2.2 1)) ((v0.2.2 2)) ((v0.2.2 3)) ((v0.2.2 4)) ((v0.2.2 5)) ((v0.2.2 6)) ((v0.2.2 7)) ((v0.2.2 8)) ((v0.2.2 9)) ((v0.2.2 10)) ((v0.2.2 10)) ((v0.2.2 10)) ((v0.2.2 10)))) ∨ (okVM vw q ∧ ∃ g9 : Nat → Int32, ff_rowsP (ff_rl (ff_it (v0.2.2 0) (v0.2.2 1) (cl vw)) (ff_cnt (cl vw) (v0.1 0))) (cl q) (ff_G (ff_cn (ff_rl (ff_it (v0.2.2 0) (v0.2.2 1) (cl vw)) (ff_cnt (cl vw) (v0.1 0))) (cl q) (ff_ar (ff_cnt (cl vw) (v0.1 0)) (ff_cnt (cl vw) (v0.1 0))))) (ff_ar (ff_cnt (cl vw) (v0.1 0)) (ff_cnt (cl vw) (v0.1 0))) g9 ∧ r = nI ((ff_G (ff_cn (ff_rl (ff_it (v0.2.2 0) (v0.2.2 1) (cl vw)) (ff_cnt (cl vw) (v0.1 0))) (cl q) (ff_ar (ff_cnt (cl vw) (v0.1 0)) (ff_cnt (cl vw) (v0.1 0))))) 0) ∧ u = (ff_N ((v0.1 0)) ((ff_G (ff_cn (ff_rl (ff_it (v0.2.2 0) (v0.2.2 1) (cl vw)) (ff_cnt (cl vw) (v0.1 0))) (cl q) (ff_ar (ff_cnt (cl vw) (v0.1 0)) (ff_cnt (cl vw) (v0.1 0))))) 0) ((v0.1 2)) ((v0.1 3)) ((v0.1 4)) 0, ff_Z ((nI 0)) ((v0.2.1 1)), ff_A14 ((v0.2.2 0)) ((v0.2.2 1)) (g9) ((v0.2.2 3)) ((v0.2.2 4)) ((v0.2.2 5)) ((v0.2.2 6)) ((v0.2.2 7)) ((v0.2.2 8)) ((v0.2.2 9)) ((v0.2.2 10)) ((v0.2.2 10)) ((v0.2.2 10)) ((v0.2.2 10))))) rm vv) : ff_fin k uu rm vv := by
  try dsimp only at h2
  obtain ⟨⟨hn, en, hN2⟩, ⟨ht, et, hT2⟩, ⟨hg1, eg, hG2⟩, ⟨hp1, ep, hP2⟩, ⟨hq1, eq1, ec, hQ2⟩⟩ := id hR
  simp only [en, et, eg, ep, eq1] at h2
  unfold wP at h1
  have hN0 : RN (u0.1 0) (u0.2.2 0) (u0.2.2 1) (u0.1 0) (v0.2.2 0) (v0.2.2 1) := ⟨hn, rfl, hN2⟩
  have hT0 : RT (u0.1 1) (u0.2.2 2) (u0.2.2 3) (u0.1 1) (v0.2.2 3) (v0.2.2 4) := ⟨ht, rfl, hT2⟩
  have hG0 : RG (u0.1 3) (u0.2.2 7) (u0.1 3) (v0.2.2 2) := ⟨hg1, rfl, hG2⟩
  have hP0 : RP (u0.1 4) (u0.2.2 9) (u0.1 4) (v0.2.2 5) := ⟨hp1, rfl, hP2⟩
  have hQ0 : RQ (u0.1 5) (u0.2.1 1) (u0.2.2 10) (u0.1 5) (v0.2.1 1) (v0.2.2 6) := ⟨hq1, rfl, ec, hQ2⟩
  rcases h1 with ⟨rfl, x9, hp9, hg9⟩ | ⟨rfl, hb9, hu9⟩ | ⟨rfl, hb9, hu9⟩
  · rcases h2 with ⟨hno, -⟩ | h2
    · exact absurd hp9.1 hno
    · obtain ⟨hok, g9, s9, hr1, rfl, hu⟩ := hp9
      obtain ⟨-, g8, hr2, rfl, rfl⟩ := h2
      obtain ⟨v, hv, rfl, w9, hw1, hw2, rfl⟩ := hok
      have hcn := ff_cnt_le v (u0.1 0)
      rw [cl_n (n := v) (by omega), cl_n (n := w9) (by omega)] at hr1 hr2 hu hg9 ⊢
      have hfc : ∀ t, t < ff_cnt v (u0.1 0) → ff_fill (ff_it (u0.2.2 0) (u0.2.2 1) v) (u0.2.2 6) (ff_cnt v (u0.1 0)) t = ff_it (v0.2.2 0) (v0.2.2 1) v t := fun t h => by rw [ff_fill_in h]; exact ff_it_congr (fun t h => (hN2 t h).1.symm) (fun t h => (hN2 t h).2.1.symm) h hv
      have hrl : ∀ a b, a < b → b < ff_cnt v (u0.1 0) → ff_rl (ff_fill (ff_it (u0.2.2 0) (u0.2.2 1) v) (u0.2.2 6) (ff_cnt v (u0.1 0))) (ff_cnt v (u0.1 0)) a b = ff_rl (ff_it (v0.2.2 0) (v0.2.2 1) v) (ff_cnt v (u0.1 0)) a b := fun a b h3 h4 => ff_rl_congr hfc h3 h4
      have hcn2 := ff_cn_congr (least := w9) hrl
      have hr3 := ff_rowsP_congr hrl hr1
      have h900 := ff_tot_900 (ff_it (v0.2.2 0) (v0.2.2 1) v) (n := ff_cnt v (u0.1 0)) w9 (by omega)
      rw [hcn2] at hr3 hu hg9
      refine ⟨rfl, fun _ => hg9, ?_⟩
      rw [hu]
      exact ⟨hN0, hT0, (⟨h900, rfl, fun k w h5 h6 => ff_rows_eq hr2 hr3 h5 h6⟩ : RG (ff_G (ff_cn (ff_rl (ff_it (v0.2.2 0) (v0.2.2 1) v) (ff_cnt v (u0.1 0))) w9 (ff_ar (ff_cnt v (u0.1 0)) (ff_cnt v (u0.1 0)))) 0) g9 (ff_G (ff_cn (ff_rl (ff_it (v0.2.2 0) (v0.2.2 1) v) (ff_cnt v (u0.1 0))) w9 (ff_ar (ff_cnt v (u0.1 0)) (ff_cnt v (u0.1 0)))) 0) g8), hP0, hQ0⟩
  · rcases h2 with ⟨hno, rfl, rfl⟩ | h2
    · refine ⟨rfl, fun h => absurd h (by decide), ?_⟩
      rw [hu9]
      exact ⟨hN0, hT0, hG0, hP0, hQ0⟩
    · exact absurd h2.1 hb9.2
  · exact (hb9.elim (fun h => absurd h.1 (by decide)) (fun h => absurd h.1 (by decide)))

set_option maxHeartbeats 4000000 in
theorem rl_repeat {u0 v0 : ff_S} (hR : ff_Rel u0 v0) (q w : Int32) (k : Int32) (uu : ff_S × (Nat → Int64)) (rm : Int32) (vv : ff_S) (h1 : wP (fun r u => okRe (u0.1 3) q w ∧ r = (u0.2.2 7) (3 * cl q + cl w) ∧ u = (ff_N ((u0.1 0)) ((u0.1 1)) ((u0.1 2)) ((u0.1 3)) ((u0.1 4)) ((u0.1 5)), ff_Z ((u0.2.1 0)) ((u0.2.1 1)), ff_A14 ((u0.2.2 0)) ((u0.2.2 1)) ((u0.2.2 2)) ((u0.2.2 3)) ((u0.2.2 4)) ((u0.2.2 5)) ((u0.2.2 6)) ((u0.2.2 7)) ((u0.2.2 8)) ((u0.2.2 9)) ((u0.2.2 10)) ((u0.2.2 11)) ((u0.2.2 12)) ((u0.2.2 13)))) (fun E => E = xIA ∧ ¬ okRe (u0.1 3) q w) (ff_N ((u0.1 0)) ((u0.1 1)) ((u0.1 2)) ((u0.1 3)) ((u0.1 4)) ((u0.1 5)), ff_Z ((u0.2.1 0)) ((u0.2.1 1)), ff_A14 ((u0.2.2 0)) ((u0.2.2 1)) ((u0.2.2 2)) ((u0.2.2 3)) ((u0.2.2 4)) ((u0.2.2 5)) ((u0.2.2 6)) ((u0.2.2 7)) ((u0.2.2 8)) ((u0.2.2 9)) ((u0.2.2 10)) ((u0.2.2 11)) ((u0.2.2 12)) ((u0.2.2 13))) k uu) (h2 : (fun (r : Int32) (u : ff_S) => (¬ okRe (v0.1 1) q w ∧ r = nI 0 ∧ u = (ff_N ((v0.1 0)) ((v0.1 1)) ((v0.1 2)) ((v0.1 3)) ((v0.1 4)) 0, ff_Z ((nI 1)) ((v0.2.1 1)), ff_A14 ((v0.2.2 0)) ((v0.2.2 1)) ((v0.2.2 2)) ((v0.2.2 3)) ((v0.2.2 4)) ((v0.2.2 5)) ((v0.2.2 6)) ((v0.2.2 7)) ((v0.2.2 8)) ((v0.2.2 9)) ((v0.2.2 10)) ((v0.2.2 10)) ((v0.2.2 10)) ((v0.2.2 10)))) ∨ (okRe (v0.1 1) q w ∧ r = (v0.2.2 2) (3 * cl q + cl w) ∧ u = (ff_N ((v0.1 0)) ((v0.1 1)) ((v0.1 2)) ((v0.1 3)) ((v0.1 4)) 0, ff_Z ((nI 0)) ((v0.2.1 1)), ff_A14 ((v0.2.2 0)) ((v0.2.2 1)) ((v0.2.2 2)) ((v0.2.2 3)) ((v0.2.2 4)) ((v0.2.2 5)) ((v0.2.2 6)) ((v0.2.2 7)) ((v0.2.2 8)) ((v0.2.2 9)) ((v0.2.2 10)) ((v0.2.2 10)) ((v0.2.2 10)) ((v0.2.2 10))))) rm vv) : ff_fin k uu rm vv := by
  try dsimp only at h2
  obtain ⟨⟨hn, en, hN2⟩, ⟨ht, et, hT2⟩, ⟨hg1, eg, hG2⟩, ⟨hp1, ep, hP2⟩, ⟨hq1, eq1, ec, hQ2⟩⟩ := id hR
  simp only [en, et, eg, ep, eq1] at h2
  unfold wP at h1
  have hN0 : RN (u0.1 0) (u0.2.2 0) (u0.2.2 1) (u0.1 0) (v0.2.2 0) (v0.2.2 1) := ⟨hn, rfl, hN2⟩
  have hT0 : RT (u0.1 1) (u0.2.2 2) (u0.2.2 3) (u0.1 1) (v0.2.2 3) (v0.2.2 4) := ⟨ht, rfl, hT2⟩
  have hG0 : RG (u0.1 3) (u0.2.2 7) (u0.1 3) (v0.2.2 2) := ⟨hg1, rfl, hG2⟩
  have hP0 : RP (u0.1 4) (u0.2.2 9) (u0.1 4) (v0.2.2 5) := ⟨hp1, rfl, hP2⟩
  have hQ0 : RQ (u0.1 5) (u0.2.1 1) (u0.2.2 10) (u0.1 5) (v0.2.1 1) (v0.2.2 6) := ⟨hq1, rfl, ec, hQ2⟩
  rcases h1 with ⟨rfl, x9, hp9, hg9⟩ | ⟨rfl, hb9, hu9⟩ | ⟨rfl, hb9, hu9⟩
  · rcases h2 with ⟨hno, -⟩ | h2
    · exact absurd hp9.1 hno
    · obtain ⟨hok, rfl, hu⟩ := hp9
      obtain ⟨-, rfl, rfl⟩ := h2
      refine ⟨rfl, fun _ => ?_, ?_⟩
      · rw [hg9]
        refine congrArg Int32.toInt64 ?_
        obtain ⟨a, x, ha, rfl, hx, rfl⟩ := hok
        rw [cl_n (by omega), cl_n (by omega)]
        exact (hG2 a x ha (by omega)).symm
      · rw [hu]
        exact ⟨hN0, hT0, hG0, hP0, hQ0⟩
  · rcases h2 with ⟨hno, rfl, rfl⟩ | h2
    · refine ⟨rfl, fun h => absurd h (by decide), ?_⟩
      rw [hu9]
      exact ⟨hN0, hT0, hG0, hP0, hQ0⟩
    · exact absurd h2.1 hb9.2
  · exact (hb9.elim (fun h => absurd h.1 (by decide)) (fun h => absurd h.1 (by decide)))

set_option maxHeartbeats 4000000 in
theorem rl_passages {u0 v0 : ff_S} (hR : ff_Rel u0 v0) (vw q : Int32) (k : Int32) (uu : ff_S × (Nat → Int64)) (rm : Int32) (vv : ff_S) (h1 : wP (fun r u => okVM vw q ∧ r = nI (ff_pas (ff_fill (ff_it (u0.2.2 0) (u0.2.2 1) (cl vw)) (u0.2.2 6) (ff_cnt (cl vw) (u0.1 0))) (ff_cnt (cl vw) (u0.1 0)) (cl q)) ∧ u = (ff_N ((u0.1 0)) ((u0.1 1)) ((u0.1 2)) ((u0.1 3)) ((u0.1 4)) ((u0.1 5)), ff_Z (nI (ff_cnt (cl vw) (u0.1 0))) ((u0.2.1 1)), ff_A14 ((u0.2.2 0)) ((u0.2.2 1)) ((u0.2.2 2)) ((u0.2.2 3)) ((u0.2.2 4)) ((u0.2.2 5)) (ff_fill (ff_it (u0.2.2 0) (u0.2.2 1) (cl vw)) (u0.2.2 6) (ff_cnt (cl vw) (u0.1 0))) ((u0.2.2 7)) ((u0.2.2 8)) ((u0.2.2 9)) ((u0.2.2 10)) ((u0.2.2 11)) ((u0.2.2 12)) ((u0.2.2 13)))) (fun E => E = xIA ∧ ¬ okVM vw q) (ff_N ((u0.1 0)) ((u0.1 1)) ((u0.1 2)) ((u0.1 3)) ((u0.1 4)) ((u0.1 5)), ff_Z ((u0.2.1 0)) ((u0.2.1 1)), ff_A14 ((u0.2.2 0)) ((u0.2.2 1)) ((u0.2.2 2)) ((u0.2.2 3)) ((u0.2.2 4)) ((u0.2.2 5)) ((u0.2.2 6)) ((u0.2.2 7)) ((u0.2.2 8)) ((u0.2.2 9)) ((u0.2.2 10)) ((u0.2.2 11)) ((u0.2.2 12)) ((u0.2.2 13))) k uu) (h2 : (fun (r : Int32) (u : ff_S) => (¬ okVM vw q ∧ r = nI 0 ∧ u = (ff_N ((v0.1 0)) ((v0.1 1)) ((v0.1 2)) ((v0.1 3)) ((v0.1 4)) 0, ff_Z ((nI 1)) ((v0.2.1 1)), ff_A14 ((v0.2.2 0)) ((v0.2.2 1)) ((v0.2.2 2)) ((v0.2.2 3)) ((v0.2.2 4)) ((v0.2.2 5)) ((v0.2.2 6)) ((v0.2.2 7)) ((v0.2.2 8)) ((v0.2.2 9)) ((v0.2.2 10)) ((v0.2.2 10)) ((v0.2.2 10)) ((v0.2.2 10)))) ∨ (okVM vw q ∧ r = nI (ff_pas (ff_it (v0.2.2 0) (v0.2.2 1) (cl vw)) (ff_cnt (cl vw) (v0.1 0)) (cl q)) ∧ u = (ff_N ((v0.1 0)) ((v0.1 1)) ((v0.1 2)) ((v0.1 3)) ((v0.1 4)) 0, ff_Z ((nI 0)) ((v0.2.1 1)), ff_A14 ((v0.2.2 0)) ((v0.2.2 1)) ((v0.2.2 2)) ((v0.2.2 3)) ((v0.2.2 4)) ((v0.2.2 5)) ((v0.2.2 6)) ((v0.2.2 7)) ((v0.2.2 8)) ((v0.2.2 9)) ((v0.2.2 10)) ((v0.2.2 10)) ((v0.2.2 10)) ((v0.2.2 10))))) rm vv) : ff_fin k uu rm vv := by
  try dsimp only at h2
  obtain ⟨⟨hn, en, hN2⟩, ⟨ht, et, hT2⟩, ⟨hg1, eg, hG2⟩, ⟨hp1, ep, hP2⟩, ⟨hq1, eq1, ec, hQ2⟩⟩ := id hR
  simp only [en, et, eg, ep, eq1] at h2
  unfold wP at h1
  have hN0 : RN (u0.1 0) (u0.2.2 0) (u0.2.2 1) (u0.1 0) (v0.2.2 0) (v0.2.2 1) := ⟨hn, rfl, hN2⟩
  have hT0 : RT (u0.1 1) (u0.2.2 2) (u0.2.2 3) (u0.1 1) (v0.2.2 3) (v0.2.2 4) := ⟨ht, rfl, hT2⟩
  have hG0 : RG (u0.1 3) (u0.2.2 7) (u0.1 3) (v0.2.2 2) := ⟨hg1, rfl, hG2⟩
  have hP0 : RP (u0.1 4) (u0.2.2 9) (u0.1 4) (v0.2.2 5) := ⟨hp1, rfl, hP2⟩
  have hQ0 : RQ (u0.1 5) (u0.2.1 1) (u0.2.2 10) (u0.1 5) (v0.2.1 1) (v0.2.2 6) := ⟨hq1, rfl, ec, hQ2⟩
  rcases h1 with ⟨rfl, x9, hp9, hg9⟩ | ⟨rfl, hb9, hu9⟩ | ⟨rfl, hb9, hu9⟩
  · rcases h2 with ⟨hno, -⟩ | h2
    · exact absurd hp9.1 hno
    · obtain ⟨hok, rfl, hu⟩ := hp9
      obtain ⟨-, rfl, rfl⟩ := h2
      refine ⟨rfl, fun _ => ?_, ?_⟩
      · rw [hg9]
        refine congrArg Int32.toInt64 ?_
        obtain ⟨v, hv, rfl, w9, hw1, hw2, rfl⟩ := hok
        rw [cl_n (n := v) (by omega), cl_n (n := w9) (by omega)]
        have hfc : ∀ t, t < ff_cnt v (u0.1 0) → ff_fill (ff_it (u0.2.2 0) (u0.2.2 1) v) (u0.2.2 6) (ff_cnt v (u0.1 0)) t = ff_it (v0.2.2 0) (v0.2.2 1) v t := fun t h => by rw [ff_fill_in h]; exact ff_it_congr (fun t h => (hN2 t h).1.symm) (fun t h => (hN2 t h).2.1.symm) h hv
        rw [ff_pas_congr hfc hw1]
      · rw [hu]
        exact ⟨hN0, hT0, hG0, hP0, hQ0⟩
  · rcases h2 with ⟨hno, rfl, rfl⟩ | h2
    · refine ⟨rfl, fun h => absurd h (by decide), ?_⟩
      rw [hu9]
      exact ⟨hN0, hT0, hG0, hP0, hQ0⟩
    · exact absurd h2.1 hb9.2
  · exact (hb9.elim (fun h => absurd h.1 (by decide)) (fun h => absurd h.1 (by decide)))

set_option maxHeartbeats 4000000 in
theorem rl_period {u0 v0 : ff_S} (hR : ff_Rel u0 v0) (vw : Int32) (k : Int32) (uu : ff_S × (Nat → Int64)) (rm : Int32) (vv : ff_S) (h1 : wP (fun r u => okV vw ∧ r = nI (ff_per (ff_fill (ff_it (u0.2.2 0) (u0.2.2 1) (cl vw)) (u0.2.2 6) (ff_cnt (cl vw) (u0.1 0))) (ff_cnt (cl vw) (u0.1 0))) ∧ u = (ff_N ((u0.1 0)) ((u0.1 1)) ((u0.1 2)) ((u0.1 3)) ((u0.1 4)) ((u0.1 5)), ff_Z (nI (ff_cnt (cl vw) (u0.1 0))) ((u0.2.1 1)), ff_A14 ((u0.2.2 0)) ((u0.2.2 1)) ((u0.2.2 2)) ((u0.2.2 3)) ((u0.2.2 4)) ((u0.2.2 5)) (ff_fill (ff_it (u0.2.2 0) (u0.2.2 1) (cl vw)) (u0.2.2 6) (ff_cnt (cl vw) (u0.1 0))) ((u0.2.2 7)) ((u0.2.2 8)) ((u0.2.2 9)) ((u0.2.2 10)) ((u0.2.2 11)) ((u0.2.2 12)) ((u0.2.2 13)))) (fun E => E = xIA ∧ ¬ okV vw) (ff_N ((u0.1 0)) ((u0.1 1)) ((u0.1 2)) ((u0.1 3)) ((u0.1 4)) ((u0.1 5)), ff_Z ((u0.2.1 0)) ((u0.2.1 1)), ff_A14 ((u0.2.2 0)) ((u0.2.2 1)) ((u0.2.2 2)) ((u0.2.2 3)) ((u0.2.2 4)) ((u0.2.2 5)) ((u0.2.2 6)) ((u0.2.2 7)) ((u0.2.2 8)) ((u0.2.2 9)) ((u0.2.2 10)) ((u0.2.2 11)) ((u0.2.2 12)) ((u0.2.2 13))) k uu) (h2 : (fun (r : Int32) (u : ff_S) => (¬ okV vw ∧ r = nI 0 ∧ u = (ff_N ((v0.1 0)) ((v0.1 1)) ((v0.1 2)) ((v0.1 3)) ((v0.1 4)) 0, ff_Z ((nI 1)) ((v0.2.1 1)), ff_A14 ((v0.2.2 0)) ((v0.2.2 1)) ((v0.2.2 2)) ((v0.2.2 3)) ((v0.2.2 4)) ((v0.2.2 5)) ((v0.2.2 6)) ((v0.2.2 7)) ((v0.2.2 8)) ((v0.2.2 9)) ((v0.2.2 10)) ((v0.2.2 10)) ((v0.2.2 10)) ((v0.2.2 10)))) ∨ (okV vw ∧ r = nI (ff_per (ff_it (v0.2.2 0) (v0.2.2 1) (cl vw)) (ff_cnt (cl vw) (v0.1 0))) ∧ u = (ff_N ((v0.1 0)) ((v0.1 1)) ((v0.1 2)) ((v0.1 3)) ((v0.1 4)) 0, ff_Z ((nI 0)) ((v0.2.1 1)), ff_A14 ((v0.2.2 0)) ((v0.2.2 1)) ((v0.2.2 2)) ((v0.2.2 3)) ((v0.2.2 4)) ((v0.2.2 5)) ((v0.2.2 6)) ((v0.2.2 7)) ((v0.2.2 8)) ((v0.2.2 9)) ((v0.2.2 10)) ((v0.2.2 10)) ((v0.2.2 10)) ((v0.2.2 10))))) rm vv) : ff_fin k uu rm vv := by
  try dsimp only at h2
  obtain ⟨⟨hn, en, hN2⟩, ⟨ht, et, hT2⟩, ⟨hg1, eg, hG2⟩, ⟨hp1, ep, hP2⟩, ⟨hq1, eq1, ec, hQ2⟩⟩ := id hR
  simp only [en, et, eg, ep, eq1] at h2
  unfold wP at h1
  have hN0 : RN (u0.1 0) (u0.2.2 0) (u0.2.2 1) (u0.1 0) (v0.2.2 0) (v0.2.2 1) := ⟨hn, rfl, hN2⟩
  have hT0 : RT (u0.1 1) (u0.2.2 2) (u0.2.2 3) (u0.1 1) (v0.2.2 3) (v0.2.2 4) := ⟨ht, rfl, hT2⟩
  have hG0 : RG (u0.1 3) (u0.2.2 7) (u0.1 3) (v0.2.2 2) := ⟨hg1, rfl, hG2⟩
  have hP0 : RP (u0.1 4) (u0.2.2 9) (u0.1 4) (v0.2.2 5) := ⟨hp1, rfl, hP2⟩
  have hQ0 : RQ (u0.1 5) (u0.2.1 1) (u0.2.2 10) (u0.1 5) (v0.2.1 1) (v0.2.2 6) := ⟨hq1, rfl, ec, hQ2⟩
  rcases h1 with ⟨rfl, x9, hp9, hg9⟩ | ⟨rfl, hb9, hu9⟩ | ⟨rfl, hb9, hu9⟩
  · rcases h2 with ⟨hno, -⟩ | h2
    · exact absurd hp9.1 hno
    · obtain ⟨hok, rfl, hu⟩ := hp9
      obtain ⟨-, rfl, rfl⟩ := h2
      refine ⟨rfl, fun _ => ?_, ?_⟩
      · rw [hg9]
        refine congrArg Int32.toInt64 ?_
        obtain ⟨v, hv, rfl⟩ := hok
        rw [cl_n (n := v) (by omega)]
        have hfc : ∀ t, t < ff_cnt v (u0.1 0) → ff_fill (ff_it (u0.2.2 0) (u0.2.2 1) v) (u0.2.2 6) (ff_cnt v (u0.1 0)) t = ff_it (v0.2.2 0) (v0.2.2 1) v t := fun t h => by rw [ff_fill_in h]; exact ff_it_congr (fun t h => (hN2 t h).1.symm) (fun t h => (hN2 t h).2.1.symm) h hv
        rw [ff_per_congr hfc]
      · rw [hu]
        exact ⟨hN0, hT0, hG0, hP0, hQ0⟩
  · rcases h2 with ⟨hno, rfl, rfl⟩ | h2
    · refine ⟨rfl, fun h => absurd h (by decide), ?_⟩
      rw [hu9]
      exact ⟨hN0, hT0, hG0, hP0, hQ0⟩
    · exact absurd h2.1 hb9.2
  · exact (hb9.elim (fun h => absurd h.1 (by decide)) (fun h => absurd h.1 (by decide)))

set_option maxHeartbeats 4000000 in
theorem rl_alike {u0 v0 : ff_S} (hR : ff_Rel u0 v0) (vw i j q : Int32) (k : Int32) (uu : ff_S × (Nat → Int64)) (rm : Int32) (vv : ff_S) (h1 : wP (fun r u => okAl (u0.1 0) vw i j q ∧ ¬ q = 0 ∧ r = nI (100 * ff_same (ff_fill (ff_it (u0.2.2 0) (u0.2.2 1) (cl vw)) (u0.2.2 6) (ff_cnt (cl vw) (u0.1 0))) (cl i) (cl j) (cl q)) / q ∧ u = (ff_N ((u0.1 0)) ((u0.1 1)) ((u0.1 2)) ((u0.1 3)) ((u0.1 4)) ((u0.1 5)), ff_Z (nI (ff_cnt (cl vw) (u0.1 0))) ((u0.2.1 1)), ff_A14 ((u0.2.2 0)) ((u0.2.2 1)) ((u0.2.2 2)) ((u0.2.2 3)) ((u0.2.2 4)) ((u0.2.2 5)) (ff_fill (ff_it (u0.2.2 0) (u0.2.2 1) (cl vw)) (u0.2.2 6) (ff_cnt (cl vw) (u0.1 0))) ((u0.2.2 7)) ((u0.2.2 8)) ((u0.2.2 9)) ((u0.2.2 10)) ((u0.2.2 11)) ((u0.2.2 12)) ((u0.2.2 13)))) (fun E => (E = xIA ∧ ¬ okAl (u0.1 0) vw i j q) ∨ (E = xAR ∧ okAl (u0.1 0) vw i j q ∧ q = 0)) (ff_N ((u0.1 0)) ((u0.1 1)) ((u0.1 2)) ((u0.1 3)) ((u0.1 4)) ((u0.1 5)), ff_Z ((u0.2.1 0)) ((u0.2.1 1)), ff_A14 ((u0.2.2 0)) ((u0.2.2 1)) ((u0.2.2 2)) ((u0.2.2 3)) ((u0.2.2 4)) ((u0.2.2 5)) ((u0.2.2 6)) ((u0.2.2 7)) ((u0.2.2 8)) ((u0.2.2 9)) ((u0.2.2 10)) ((u0.2.2 11)) ((u0.2.2 12)) ((u0.2.2 13))) k uu) (h2 : (fun (r : Int32) (u : ff_S) => (¬ okAl (v0.1 0) vw i j q ∧ r = nI 0 ∧ u = (ff_N ((v0.1 0)) ((v0.1 1)) ((v0.1 2)) ((v0.1 3)) ((v0.1 4)) 0, ff_Z ((nI 1)) ((v0.2.1 1)), ff_A14 ((v0.2.2 0)) ((v0.2.2 1)) ((v0.2.2 2)) ((v0.2.2 3)) ((v0.2.2 4)) ((v0.2.2 5)) ((v0.2.2 6)) ((v0.2.2 7)) ((v0.2.2 8)) ((v0.2.2 9)) ((v0.2.2 10)) ((v0.2.2 10)) ((v0.2.2 10)) ((v0.2.2 10)))) ∨ (okAl (v0.1 0) vw i j q ∧ q = 0 ∧ r = nI 0 ∧ u = (ff_N ((v0.1 0)) ((v0.1 1)) ((v0.1 2)) ((v0.1 3)) ((v0.1 4)) 0, ff_Z ((nI 2)) ((v0.2.1 1)), ff_A14 ((v0.2.2 0)) ((v0.2.2 1)) ((v0.2.2 2)) ((v0.2.2 3)) ((v0.2.2 4)) ((v0.2.2 5)) ((v0.2.2 6)) ((v0.2.2 7)) ((v0.2.2 8)) ((v0.2.2 9)) ((v0.2.2 10)) ((v0.2.2 10)) ((v0.2.2 10)) ((v0.2.2 10)))) ∨ (okAl (v0.1 0) vw i j q ∧ ¬ q = 0 ∧ r = nI (100 * ff_same (ff_it (v0.2.2 0) (v0.2.2 1) (cl vw)) (cl i) (cl j) (cl q)) / q ∧ u = (ff_N ((v0.1 0)) ((v0.1 1)) ((v0.1 2)) ((v0.1 3)) ((v0.1 4)) 0, ff_Z ((nI 0)) ((v0.2.1 1)), ff_A14 ((v0.2.2 0)) ((v0.2.2 1)) ((v0.2.2 2)) ((v0.2.2 3)) ((v0.2.2 4)) ((v0.2.2 5)) ((v0.2.2 6)) ((v0.2.2 7)) ((v0.2.2 8)) ((v0.2.2 9)) ((v0.2.2 10)) ((v0.2.2 10)) ((v0.2.2 10)) ((v0.2.2 10))))) rm vv) : ff_fin k uu rm vv := by
  try dsimp only at h2
  obtain ⟨⟨hn, en, hN2⟩, ⟨ht, et, hT2⟩, ⟨hg1, eg, hG2⟩, ⟨hp1, ep, hP2⟩, ⟨hq1, eq1, ec, hQ2⟩⟩ := id hR
  simp only [en, et, eg, ep, eq1] at h2
  unfold wP at h1
  have hN0 : RN (u0.1 0) (u0.2.2 0) (u0.2.2 1) (u0.1 0) (v0.2.2 0) (v0.2.2 1) := ⟨hn, rfl, hN2⟩
  have hT0 : RT (u0.1 1) (u0.2.2 2) (u0.2.2 3) (u0.1 1) (v0.2.2 3) (v0.2.2 4) := ⟨ht, rfl, hT2⟩
  have hG0 : RG (u0.1 3) (u0.2.2 7) (u0.1 3) (v0.2.2 2) := ⟨hg1, rfl, hG2⟩
  have hP0 : RP (u0.1 4) (u0.2.2 9) (u0.1 4) (v0.2.2 5) := ⟨hp1, rfl, hP2⟩
  have hQ0 : RQ (u0.1 5) (u0.2.1 1) (u0.2.2 10) (u0.1 5) (v0.2.1 1) (v0.2.2 6) := ⟨hq1, rfl, ec, hQ2⟩
  rcases h1 with ⟨rfl, x9, hp9, hg9⟩ | ⟨rfl, hb9, hu9⟩ | ⟨rfl, hb9, hu9⟩
  · rcases h2 with ⟨hno, -⟩ | ⟨hok2, h2c, -⟩ | h2
    · exact absurd hp9.1 hno
    · exact absurd h2c hp9.2.1
    · obtain ⟨hok, hq0, rfl, hu⟩ := hp9
      obtain ⟨-, -, rfl, rfl⟩ := h2
      refine ⟨rfl, fun _ => ?_, ?_⟩
      · rw [hg9]
        obtain ⟨v, hv, rfl, a, b, m9, rfl, rfl, rfl, h3, h4⟩ := hok
        have hcn := ff_cnt_le v (u0.1 0)
        rw [cl_n (n := v) (by omega), cl_n (n := a) (by omega), cl_n (n := b) (by omega), cl_n (n := m9) (by omega)]
        have hfc : ∀ t, t < ff_cnt v (u0.1 0) → ff_fill (ff_it (u0.2.2 0) (u0.2.2 1) v) (u0.2.2 6) (ff_cnt v (u0.1 0)) t = ff_it (v0.2.2 0) (v0.2.2 1) v t := fun t h => by rw [ff_fill_in h]; exact ff_it_congr (fun t h => (hN2 t h).1.symm) (fun t h => (hN2 t h).2.1.symm) h hv
        rw [ff_same_congr hfc h3 h4]
      · rw [hu]
        exact ⟨hN0, hT0, hG0, hP0, hQ0⟩
  · have hb8 := hb9.resolve_right (fun h => absurd h.1 (by decide))
    rcases h2 with ⟨hno, rfl, rfl⟩ | ⟨hok2, -⟩ | ⟨hok2, -⟩
    · refine ⟨rfl, fun h => absurd h (by decide), ?_⟩
      rw [hu9]
      exact ⟨hN0, hT0, hG0, hP0, hQ0⟩
    · exact absurd hok2 hb8.2
    · exact absurd hok2 hb8.2
  · have hb8 := (hb9.elim (fun h => h.elim (fun h => absurd h.1 (by decide)) (fun h => absurd h.1 (by decide))) (fun h => h.elim (fun h => absurd h.1 (by decide)) (fun h => h.2)))
    rcases h2 with ⟨hno, -⟩ | ⟨hok2, h2c, rfl, rfl⟩ | ⟨hok2, h2c, -⟩
    · exact absurd hb8.1 hno
    · refine ⟨rfl, fun h => absurd h (by decide), ?_⟩
      rw [hu9]
      exact ⟨hN0, hT0, hG0, hP0, hQ0⟩
    · exact absurd hb8.2 h2c

set_option maxHeartbeats 4000000 in
theorem rl_motive {u0 v0 : ff_S} (hR : ff_Rel u0 v0) (fr q : Int32) (k : Int32) (uu : ff_S × (Nat → Int64)) (rm : Int32) (vv : ff_S) (h1 : wP (fun r u => okMo (u0.1 0) fr q ∧ r = (u0.2.2 0) (cl fr) ∧ u = (ff_N ((u0.1 0)) (cl q) ((u0.1 2)) ((u0.1 3)) ((u0.1 4)) ((u0.1 5)), ff_Z ((u0.2.1 0)) ((u0.2.1 1)), ff_A14 ((u0.2.2 0)) ((u0.2.2 1)) (ff_fill (fun i => (u0.2.2 0) (cl fr + i)) (u0.2.2 2) (cl q)) (ff_fill (fun i => (u0.2.2 1) (cl fr + i)) (u0.2.2 3) (cl q)) ((u0.2.2 4)) ((u0.2.2 5)) ((u0.2.2 6)) ((u0.2.2 7)) ((u0.2.2 8)) ((u0.2.2 9)) ((u0.2.2 10)) ((u0.2.2 11)) ((u0.2.2 12)) ((u0.2.2 13)))) (fun E => E = xIA ∧ ¬ okMo (u0.1 0) fr q) (ff_N ((u0.1 0)) ((u0.1 1)) ((u0.1 2)) ((u0.1 3)) ((u0.1 4)) ((u0.1 5)), ff_Z ((u0.2.1 0)) ((u0.2.1 1)), ff_A14 ((u0.2.2 0)) ((u0.2.2 1)) ((u0.2.2 2)) ((u0.2.2 3)) ((u0.2.2 4)) ((u0.2.2 5)) ((u0.2.2 6)) ((u0.2.2 7)) ((u0.2.2 8)) ((u0.2.2 9)) ((u0.2.2 10)) ((u0.2.2 11)) ((u0.2.2 12)) ((u0.2.2 13))) k uu) (h2 : (fun (r : Int32) (u : ff_S) => (¬ okMo (v0.1 0) fr q ∧ r = nI 0 ∧ u = (ff_N ((v0.1 0)) ((v0.1 1)) ((v0.1 2)) ((v0.1 3)) ((v0.1 4)) 0, ff_Z ((nI 1)) ((v0.2.1 1)), ff_A14 ((v0.2.2 0)) ((v0.2.2 1)) ((v0.2.2 2)) ((v0.2.2 3)) ((v0.2.2 4)) ((v0.2.2 5)) ((v0.2.2 6)) ((v0.2.2 7)) ((v0.2.2 8)) ((v0.2.2 9)) ((v0.2.2 10)) ((v0.2.2 10)) ((v0.2.2 10)) ((v0.2.2 10)))) ∨ (okMo (v0.1 0) fr q ∧ r = (v0.2.2 0) (cl fr) ∧ u = (ff_N ((v0.1 0)) ((v0.1 1)) (cl q) ((v0.1 3)) ((v0.1 4)) 0, ff_Z ((nI 0)) ((v0.2.1 1)), ff_A14 ((v0.2.2 0)) ((v0.2.2 1)) ((v0.2.2 2)) (ff_fill (fun i => (v0.2.2 0) (cl fr + i)) (v0.2.2 3) (cl q)) (ff_fill (fun i => (v0.2.2 1) (cl fr + i)) (v0.2.2 4) (cl q)) ((v0.2.2 5)) ((v0.2.2 6)) ((v0.2.2 7)) ((v0.2.2 8)) ((v0.2.2 9)) ((v0.2.2 10)) ((v0.2.2 10)) ((v0.2.2 10)) ((v0.2.2 10))))) rm vv) : ff_fin k uu rm vv := by
  try dsimp only at h2
  obtain ⟨⟨hn, en, hN2⟩, ⟨ht, et, hT2⟩, ⟨hg1, eg, hG2⟩, ⟨hp1, ep, hP2⟩, ⟨hq1, eq1, ec, hQ2⟩⟩ := id hR
  simp only [en, et, eg, ep, eq1] at h2
  unfold wP at h1
  have hN0 : RN (u0.1 0) (u0.2.2 0) (u0.2.2 1) (u0.1 0) (v0.2.2 0) (v0.2.2 1) := ⟨hn, rfl, hN2⟩
  have hT0 : RT (u0.1 1) (u0.2.2 2) (u0.2.2 3) (u0.1 1) (v0.2.2 3) (v0.2.2 4) := ⟨ht, rfl, hT2⟩
  have hG0 : RG (u0.1 3) (u0.2.2 7) (u0.1 3) (v0.2.2 2) := ⟨hg1, rfl, hG2⟩
  have hP0 : RP (u0.1 4) (u0.2.2 9) (u0.1 4) (v0.2.2 5) := ⟨hp1, rfl, hP2⟩
  have hQ0 : RQ (u0.1 5) (u0.2.1 1) (u0.2.2 10) (u0.1 5) (v0.2.1 1) (v0.2.2 6) := ⟨hq1, rfl, ec, hQ2⟩
  rcases h1 with ⟨rfl, x9, hp9, hg9⟩ | ⟨rfl, hb9, hu9⟩ | ⟨rfl, hb9, hu9⟩
  · rcases h2 with ⟨hno, -⟩ | h2
    · exact absurd hp9.1 hno
    · obtain ⟨hok, rfl, hu⟩ := hp9
      obtain ⟨-, rfl, rfl⟩ := h2
      obtain ⟨a, m9, h3, h4, rfl, rfl, h5⟩ := hok
      rw [cl_n (n := a) (by omega), cl_n (n := m9) (by omega)] at hu
      rw [cl_n (n := a) (by omega)] at hg9
      refine ⟨rfl, fun _ => ?_, ?_⟩
      · rw [hg9, cl_n (n := a) (by omega), (hN2 a (by omega)).1]
      · rw [hu, cl_n (n := a) (by omega), cl_n (n := m9) (by omega)]
        refine ⟨hN0, (⟨h4, rfl, fun t h9 => ?_⟩ : RT m9 (ff_fill (fun i => u0.2.2 0 (a + i)) (u0.2.2 2) m9) (ff_fill (fun i => u0.2.2 1 (a + i)) (u0.2.2 3) m9) m9 (ff_fill (fun i => v0.2.2 0 (a + i)) (v0.2.2 3) m9) (ff_fill (fun i => v0.2.2 1 (a + i)) (v0.2.2 4) m9)), hG0, hP0, hQ0⟩
        rw [ff_fill_in h9, ff_fill_in h9, ff_fill_in h9, ff_fill_in h9]
        exact hN2 (a + t) (by omega)
  · rcases h2 with ⟨hno, rfl, rfl⟩ | h2
    · refine ⟨rfl, fun h => absurd h (by decide), ?_⟩
      rw [hu9]
      exact ⟨hN0, hT0, hG0, hP0, hQ0⟩
    · exact absurd h2.1 hb9.2
  · exact (hb9.elim (fun h => absurd h.1 (by decide)) (fun h => absurd h.1 (by decide)))

set_option maxHeartbeats 4000000 in
theorem rl_form {u0 v0 : ff_S} (hR : ff_Rel u0 v0) (fo i w : Int32) (k : Int32) (uu : ff_S × (Nat → Int64)) (rm : Int32) (vv : ff_S) (h1 : wP (fun r u => okFo (u0.1 1) fo i w ∧ r = (if w = 0 then ff_fp (u0.2.2 2) (cl fo) (u0.1 1) (cl i) else ff_fl (u0.2.2 3) (cl fo) (u0.1 1) (cl i)) ∧ u = (ff_N ((u0.1 0)) ((u0.1 1)) ((u0.1 2)) ((u0.1 3)) ((u0.1 4)) ((u0.1 5)), ff_Z ((u0.2.1 0)) ((u0.2.1 1)), ff_A14 ((u0.2.2 0)) ((u0.2.2 1)) ((u0.2.2 2)) ((u0.2.2 3)) ((u0.2.2 4)) ((u0.2.2 5)) ((u0.2.2 6)) ((u0.2.2 7)) ((u0.2.2 8)) ((u0.2.2 9)) ((u0.2.2 10)) ((u0.2.2 11)) ((u0.2.2 12)) ((u0.2.2 13)))) (fun E => E = xIA ∧ ¬ okFo (u0.1 1) fo i w) (ff_N ((u0.1 0)) ((u0.1 1)) ((u0.1 2)) ((u0.1 3)) ((u0.1 4)) ((u0.1 5)), ff_Z ((u0.2.1 0)) ((u0.2.1 1)), ff_A14 ((u0.2.2 0)) ((u0.2.2 1)) ((u0.2.2 2)) ((u0.2.2 3)) ((u0.2.2 4)) ((u0.2.2 5)) ((u0.2.2 6)) ((u0.2.2 7)) ((u0.2.2 8)) ((u0.2.2 9)) ((u0.2.2 10)) ((u0.2.2 11)) ((u0.2.2 12)) ((u0.2.2 13))) k uu) (h2 : (fun (r : Int32) (u : ff_S) => (¬ okFo (v0.1 2) fo i w ∧ r = nI 0 ∧ u = (ff_N ((v0.1 0)) ((v0.1 1)) ((v0.1 2)) ((v0.1 3)) ((v0.1 4)) 0, ff_Z ((nI 1)) ((v0.2.1 1)), ff_A14 ((v0.2.2 0)) ((v0.2.2 1)) ((v0.2.2 2)) ((v0.2.2 3)) ((v0.2.2 4)) ((v0.2.2 5)) ((v0.2.2 6)) ((v0.2.2 7)) ((v0.2.2 8)) ((v0.2.2 9)) ((v0.2.2 10)) ((v0.2.2 10)) ((v0.2.2 10)) ((v0.2.2 10)))) ∨ (okFo (v0.1 2) fo i w ∧ r = (if w = 0 then ff_fp (v0.2.2 3) (cl fo) (v0.1 2) (cl i) else ff_fl (v0.2.2 4) (cl fo) (v0.1 2) (cl i)) ∧ u = (ff_N ((v0.1 0)) ((v0.1 1)) ((v0.1 2)) ((v0.1 3)) ((v0.1 4)) 0, ff_Z ((nI 0)) ((v0.2.1 1)), ff_A14 ((v0.2.2 0)) ((v0.2.2 1)) ((v0.2.2 2)) ((v0.2.2 3)) ((v0.2.2 4)) ((v0.2.2 5)) ((v0.2.2 6)) ((v0.2.2 7)) ((v0.2.2 8)) ((v0.2.2 9)) ((v0.2.2 10)) ((v0.2.2 10)) ((v0.2.2 10)) ((v0.2.2 10))))) rm vv) : ff_fin k uu rm vv := by
  try dsimp only at h2
  obtain ⟨⟨hn, en, hN2⟩, ⟨ht, et, hT2⟩, ⟨hg1, eg, hG2⟩, ⟨hp1, ep, hP2⟩, ⟨hq1, eq1, ec, hQ2⟩⟩ := id hR
  simp only [en, et, eg, ep, eq1] at h2
  unfold wP at h1
  have hN0 : RN (u0.1 0) (u0.2.2 0) (u0.2.2 1) (u0.1 0) (v0.2.2 0) (v0.2.2 1) := ⟨hn, rfl, hN2⟩
  have hT0 : RT (u0.1 1) (u0.2.2 2) (u0.2.2 3) (u0.1 1) (v0.2.2 3) (v0.2.2 4) := ⟨ht, rfl, hT2⟩
  have hG0 : RG (u0.1 3) (u0.2.2 7) (u0.1 3) (v0.2.2 2) := ⟨hg1, rfl, hG2⟩
  have hP0 : RP (u0.1 4) (u0.2.2 9) (u0.1 4) (v0.2.2 5) := ⟨hp1, rfl, hP2⟩
  have hQ0 : RQ (u0.1 5) (u0.2.1 1) (u0.2.2 10) (u0.1 5) (v0.2.1 1) (v0.2.2 6) := ⟨hq1, rfl, ec, hQ2⟩
  rcases h1 with ⟨rfl, x9, hp9, hg9⟩ | ⟨rfl, hb9, hu9⟩ | ⟨rfl, hb9, hu9⟩
  · rcases h2 with ⟨hno, -⟩ | h2
    · exact absurd hp9.1 hno
    · obtain ⟨hok, rfl, hu⟩ := hp9
      obtain ⟨-, rfl, rfl⟩ := h2
      refine ⟨rfl, fun _ => ?_, ?_⟩
      · rw [hg9]
        refine congrArg Int32.toInt64 ?_
        obtain ⟨f9, j, x, h3, rfl, h4, rfl, h5, rfl⟩ := hok
        rw [cl_n (n := f9) (by omega), cl_n (n := j) (by omega)]
        have hfp : ∀ t, t < u0.1 1 → ff_fp (u0.2.2 2) f9 (u0.1 1) t = ff_fp (v0.2.2 3) f9 (u0.1 1) t ∧ ff_fl (u0.2.2 3) f9 (u0.1 1) t = ff_fl (v0.2.2 4) f9 (u0.1 1) t := fun t h => by
          have s1 := ff_src_lt (fo := f9) h
          have s2 := ff_src_lt (fo := f9) (tn := u0.1 1) (i := 0) (by omega)
          unfold ff_fp ff_fl
          rw [(hT2 _ s1).1, (hT2 _ s1).2.1, (hT2 _ s2).1]
          exact ⟨rfl, rfl⟩
        rw [(hfp j h4).1, (hfp j h4).2]
      · rw [hu]
        exact ⟨hN0, hT0, hG0, hP0, hQ0⟩
  · rcases h2 with ⟨hno, rfl, rfl⟩ | h2
    · refine ⟨rfl, fun h => absurd h (by decide), ?_⟩
      rw [hu9]
      exact ⟨hN0, hT0, hG0, hP0, hQ0⟩
    · exact absurd h2.1 hb9.2
  · exact (hb9.elim (fun h => absurd h.1 (by decide)) (fun h => absurd h.1 (by decide)))

set_option maxHeartbeats 4000000 in
theorem rl_answer {u0 v0 : ff_S} (hR : ff_Rel u0 v0) (ky hd i : Int32) (k : Int32) (uu : ff_S × (Nat → Int64)) (rm : Int32) (vv : ff_S) (h1 : wP (fun r u => okAn (u0.1 1) ky hd i ∧ r = ff_ap (u0.2.2 2) (cl ky) (cl hd) (cl i) ∧ u = (ff_N ((u0.1 0)) ((u0.1 1)) ((u0.1 2)) ((u0.1 3)) ((u0.1 4)) ((u0.1 5)), ff_Z ((u0.2.1 0)) ((u0.2.1 1)), ff_A14 ((u0.2.2 0)) ((u0.2.2 1)) ((u0.2.2 2)) ((u0.2.2 3)) ((u0.2.2 4)) ((u0.2.2 5)) ((u0.2.2 6)) ((u0.2.2 7)) ((u0.2.2 8)) ((u0.2.2 9)) ((u0.2.2 10)) ((u0.2.2 11)) ((u0.2.2 12)) ((u0.2.2 13)))) (fun E => E = xIA ∧ ¬ okAn (u0.1 1) ky hd i) (ff_N ((u0.1 0)) ((u0.1 1)) ((u0.1 2)) ((u0.1 3)) ((u0.1 4)) ((u0.1 5)), ff_Z ((u0.2.1 0)) ((u0.2.1 1)), ff_A14 ((u0.2.2 0)) ((u0.2.2 1)) ((u0.2.2 2)) ((u0.2.2 3)) ((u0.2.2 4)) ((u0.2.2 5)) ((u0.2.2 6)) ((u0.2.2 7)) ((u0.2.2 8)) ((u0.2.2 9)) ((u0.2.2 10)) ((u0.2.2 11)) ((u0.2.2 12)) ((u0.2.2 13))) k uu) (h2 : (fun (r : Int32) (u : ff_S) => (¬ okAn (v0.1 2) ky hd i ∧ r = nI 0 ∧ u = (ff_N ((v0.1 0)) ((v0.1 1)) ((v0.1 2)) ((v0.1 3)) ((v0.1 4)) 0, ff_Z ((nI 1)) ((v0.2.1 1)), ff_A14 ((v0.2.2 0)) ((v0.2.2 1)) ((v0.2.2 2)) ((v0.2.2 3)) ((v0.2.2 4)) ((v0.2.2 5)) ((v0.2.2 6)) ((v0.2.2 7)) ((v0.2.2 8)) ((v0.2.2 9)) ((v0.2.2 10)) ((v0.2.2 10)) ((v0.2.2 10)) ((v0.2.2 10)))) ∨ (okAn (v0.1 2) ky hd i ∧ r = ff_ap (v0.2.2 3) (cl ky) (cl hd) (cl i) ∧ u = (ff_N ((v0.1 0)) ((v0.1 1)) ((v0.1 2)) ((v0.1 3)) ((v0.1 4)) 0, ff_Z ((nI 0)) ((v0.2.1 1)), ff_A14 ((v0.2.2 0)) ((v0.2.2 1)) ((v0.2.2 2)) ((v0.2.2 3)) ((v0.2.2 4)) ((v0.2.2 5)) ((v0.2.2 6)) ((v0.2.2 7)) ((v0.2.2 8)) ((v0.2.2 9)) ((v0.2.2 10)) ((v0.2.2 10)) ((v0.2.2 10)) ((v0.2.2 10))))) rm vv) : ff_fin k uu rm vv := by
  try dsimp only at h2
  obtain ⟨⟨hn, en, hN2⟩, ⟨ht, et, hT2⟩, ⟨hg1, eg, hG2⟩, ⟨hp1, ep, hP2⟩, ⟨hq1, eq1, ec, hQ2⟩⟩ := id hR
  simp only [en, et, eg, ep, eq1] at h2
  unfold wP at h1
  have hN0 : RN (u0.1 0) (u0.2.2 0) (u0.2.2 1) (u0.1 0) (v0.2.2 0) (v0.2.2 1) := ⟨hn, rfl, hN2⟩
  have hT0 : RT (u0.1 1) (u0.2.2 2) (u0.2.2 3) (u0.1 1) (v0.2.2 3) (v0.2.2 4) := ⟨ht, rfl, hT2⟩
  have hG0 : RG (u0.1 3) (u0.2.2 7) (u0.1 3) (v0.2.2 2) := ⟨hg1, rfl, hG2⟩
  have hP0 : RP (u0.1 4) (u0.2.2 9) (u0.1 4) (v0.2.2 5) := ⟨hp1, rfl, hP2⟩
  have hQ0 : RQ (u0.1 5) (u0.2.1 1) (u0.2.2 10) (u0.1 5) (v0.2.1 1) (v0.2.2 6) := ⟨hq1, rfl, ec, hQ2⟩
  rcases h1 with ⟨rfl, x9, hp9, hg9⟩ | ⟨rfl, hb9, hu9⟩ | ⟨rfl, hb9, hu9⟩
  · rcases h2 with ⟨hno, -⟩ | h2
    · exact absurd hp9.1 hno
    · obtain ⟨hok, rfl, hu⟩ := hp9
      obtain ⟨-, rfl, rfl⟩ := h2
      refine ⟨rfl, fun _ => ?_, ?_⟩
      · rw [hg9]
        refine congrArg Int32.toInt64 ?_
        obtain ⟨ky9, hd9, j, h3, rfl, h4, rfl, h5, rfl⟩ := hok
        rw [cl_n (n := ky9) (by omega), cl_n (n := hd9) (by omega), cl_n (n := j) (by omega)]
        have hap : ∀ t, t < u0.1 1 → ff_ap (u0.2.2 2) ky9 hd9 t = ff_ap (v0.2.2 3) ky9 hd9 t := fun t h => by
          unfold ff_ap
          rw [(hT2 t h).1]
        exact hap j h5
      · rw [hu]
        exact ⟨hN0, hT0, hG0, hP0, hQ0⟩
  · rcases h2 with ⟨hno, rfl, rfl⟩ | h2
    · refine ⟨rfl, fun h => absurd h (by decide), ?_⟩
      rw [hu9]
      exact ⟨hN0, hT0, hG0, hP0, hQ0⟩
    · exact absurd h2.1 hb9.2
  · exact (hb9.elim (fun h => absurd h.1 (by decide)) (fun h => absurd h.1 (by decide)))

set_option maxHeartbeats 4000000 in
theorem rl_find {u0 v0 : ff_S} (hR : ff_Rel u0 v0) (fo up dn : Int32) (k : Int32) (uu : ff_S × (Nat → Int64)) (rm : Int32) (vv : ff_S) (h1 : wP (fun r u => okFi fo up dn ∧ 0 < (u0.1 1) ∧ ∃ ul : Nat → Int32, ff_hits (ff_at (u0.2.2 0) (u0.2.2 1) (ff_fill (ff_fp (u0.2.2 2) (cl fo) (u0.1 1)) (u0.2.2 4) (u0.1 1)) (ff_fill (ff_fl (u0.2.2 3) (cl fo) (u0.1 1)) (u0.2.2 5) (u0.1 1)) (u0.1 1) up dn) ((u0.1 0) + 1 - (u0.1 1)) ul ∧ r = nI (ff_ct (ff_at (u0.2.2 0) (u0.2.2 1) (ff_fill (ff_fp (u0.2.2 2) (cl fo) (u0.1 1)) (u0.2.2 4) (u0.1 1)) (ff_fill (ff_fl (u0.2.2 3) (cl fo) (u0.1 1)) (u0.2.2 5) (u0.1 1)) (u0.1 1) up dn) ((u0.1 0) + 1 - (u0.1 1))) ∧ u = (ff_N ((u0.1 0)) ((u0.1 1)) ((u0.1 1)) ((u0.1 3)) (ff_ct (ff_at (u0.2.2 0) (u0.2.2 1) (ff_fill (ff_fp (u0.2.2 2) (cl fo) (u0.1 1)) (u0.2.2 4) (u0.1 1)) (ff_fill (ff_fl (u0.2.2 3) (cl fo) (u0.1 1)) (u0.2.2 5) (u0.1 1)) (u0.1 1) up dn) ((u0.1 0) + 1 - (u0.1 1))) ((u0.1 5)), ff_Z ((u0.2.1 0)) ((u0.2.1 1)), ff_A14 ((u0.2.2 0)) ((u0.2.2 1)) ((u0.2.2 2)) ((u0.2.2 3)) (ff_fill (ff_fp (u0.2.2 2) (cl fo) (u0.1 1)) (u0.2.2 4) (u0.1 1)) (ff_fill (ff_fl (u0.2.2 3) (cl fo) (u0.1 1)) (u0.2.2 5) (u0.1 1)) ((u0.2.2 6)) ((u0.2.2 7)) ((u0.2.2 8)) (ul) ((u0.2.2 10)) ((u0.2.2 11)) ((u0.2.2 12)) ((u0.2.2 13)))) (fun E => (E = xIA ∧ ¬ okFi fo up dn) ∨ (E = xIS ∧ okFi fo up dn ∧ (u0.1 1) = 0)) (ff_N ((u0.1 0)) ((u0.1 1)) ((u0.1 2)) ((u0.1 3)) ((u0.1 4)) ((u0.1 5)), ff_Z ((u0.2.1 0)) ((u0.2.1 1)), ff_A14 ((u0.2.2 0)) ((u0.2.2 1)) ((u0.2.2 2)) ((u0.2.2 3)) ((u0.2.2 4)) ((u0.2.2 5)) ((u0.2.2 6)) ((u0.2.2 7)) ((u0.2.2 8)) ((u0.2.2 9)) ((u0.2.2 10)) ((u0.2.2 11)) ((u0.2.2 12)) ((u0.2.2 13))) k uu) (h2 : (fun (r : Int32) (u : ff_S) => (¬ okFi fo up dn ∧ r = nI 0 ∧ u = (ff_N ((v0.1 0)) ((v0.1 1)) ((v0.1 2)) ((v0.1 3)) ((v0.1 4)) 0, ff_Z ((nI 1)) ((v0.2.1 1)), ff_A14 ((v0.2.2 0)) ((v0.2.2 1)) ((v0.2.2 2)) ((v0.2.2 3)) ((v0.2.2 4)) ((v0.2.2 5)) ((v0.2.2 6)) ((v0.2.2 7)) ((v0.2.2 8)) ((v0.2.2 9)) ((v0.2.2 10)) ((v0.2.2 10)) ((v0.2.2 10)) ((v0.2.2 10)))) ∨ (okFi fo up dn ∧ (v0.1 2) = 0 ∧ r = nI 0 ∧ u = (ff_N ((v0.1 0)) ((v0.1 1)) ((v0.1 2)) ((v0.1 3)) ((v0.1 4)) 0, ff_Z ((nI 2)) ((v0.2.1 1)), ff_A14 ((v0.2.2 0)) ((v0.2.2 1)) ((v0.2.2 2)) ((v0.2.2 3)) ((v0.2.2 4)) ((v0.2.2 5)) ((v0.2.2 6)) ((v0.2.2 7)) ((v0.2.2 8)) ((v0.2.2 9)) ((v0.2.2 10)) ((v0.2.2 10)) ((v0.2.2 10)) ((v0.2.2 10)))) ∨ (okFi fo up dn ∧ 0 < (v0.1 2) ∧ ∃ ul : Nat → Int32, ff_hits (ff_pm (v0.1 0) (v0.2.2 0) (v0.2.2 1) (ff_fill (ff_fp (v0.2.2 3) (cl fo) (v0.1 2)) (v0.2.2 7) (v0.1 2)) (ff_fl (v0.2.2 4) (cl fo) (v0.1 2)) (v0.1 2) up dn) (v0.1 0) ul ∧ r = nI (ff_ct (ff_pm (v0.1 0) (v0.2.2 0) (v0.2.2 1) (ff_fill (ff_fp (v0.2.2 3) (cl fo) (v0.1 2)) (v0.2.2 7) (v0.1 2)) (ff_fl (v0.2.2 4) (cl fo) (v0.1 2)) (v0.1 2) up dn) (v0.1 0)) ∧ u = (ff_N ((v0.1 0)) ((v0.1 1)) ((v0.1 2)) (ff_ct (ff_pm (v0.1 0) (v0.2.2 0) (v0.2.2 1) (ff_fill (ff_fp (v0.2.2 3) (cl fo) (v0.1 2)) (v0.2.2 7) (v0.1 2)) (ff_fl (v0.2.2 4) (cl fo) (v0.1 2)) (v0.1 2) up dn) (v0.1 0)) ((v0.1 4)) 0, ff_Z ((nI 0)) ((v0.2.1 1)), ff_A14 ((v0.2.2 0)) ((v0.2.2 1)) ((v0.2.2 2)) ((v0.2.2 3)) ((v0.2.2 4)) (ul) ((v0.2.2 6)) (ff_fill (ff_fp (v0.2.2 3) (cl fo) (v0.1 2)) (v0.2.2 7) (v0.1 2)) ((v0.2.2 8)) ((v0.2.2 9)) ((v0.2.2 10)) ((v0.2.2 10)) ((v0.2.2 10)) ((v0.2.2 10))))) rm vv) : ff_fin k uu rm vv := by
  try dsimp only at h2
  obtain ⟨⟨hn, en, hN2⟩, ⟨ht, et, hT2⟩, ⟨hg1, eg, hG2⟩, ⟨hp1, ep, hP2⟩, ⟨hq1, eq1, ec, hQ2⟩⟩ := id hR
  simp only [en, et, eg, ep, eq1] at h2
  unfold wP at h1
  have hN0 : RN (u0.1 0) (u0.2.2 0) (u0.2.2 1) (u0.1 0) (v0.2.2 0) (v0.2.2 1) := ⟨hn, rfl, hN2⟩
  have hT0 : RT (u0.1 1) (u0.2.2 2) (u0.2.2 3) (u0.1 1) (v0.2.2 3) (v0.2.2 4) := ⟨ht, rfl, hT2⟩
  have hG0 : RG (u0.1 3) (u0.2.2 7) (u0.1 3) (v0.2.2 2) := ⟨hg1, rfl, hG2⟩
  have hP0 : RP (u0.1 4) (u0.2.2 9) (u0.1 4) (v0.2.2 5) := ⟨hp1, rfl, hP2⟩
  have hQ0 : RQ (u0.1 5) (u0.2.1 1) (u0.2.2 10) (u0.1 5) (v0.2.1 1) (v0.2.2 6) := ⟨hq1, rfl, ec, hQ2⟩
  rcases h1 with ⟨rfl, x9, hp9, hg9⟩ | ⟨rfl, hb9, hu9⟩ | ⟨rfl, hb9, hu9⟩
  · rcases h2 with ⟨hno, -⟩ | ⟨hok2, h2c, -⟩ | h2
    · exact absurd hp9.1 hno
    · exact absurd h2c (by have := hp9.2.1; omega)
    · obtain ⟨hok, h0t, ul, hh1, rfl, hu⟩ := hp9
      obtain ⟨-, -, um, hh2, rfl, rfl⟩ := h2
      obtain ⟨⟨f9, hf9, rfl⟩, hsc⟩ := hok
      rw [cl_n (n := f9) (by omega)] at hh1 hh2 hu hg9 ⊢
      have hfp : ∀ t, t < u0.1 1 → ff_fp (u0.2.2 2) f9 (u0.1 1) t = ff_fp (v0.2.2 3) f9 (u0.1 1) t ∧ ff_fl (u0.2.2 3) f9 (u0.1 1) t = ff_fl (v0.2.2 4) f9 (u0.1 1) t := fun t h => by
        have s1 := ff_src_lt (fo := f9) h
        have s2 := ff_src_lt (fo := f9) (tn := u0.1 1) (i := 0) (by omega)
        unfold ff_fp ff_fl
        rw [(hT2 _ s1).1, (hT2 _ s1).2.1, (hT2 _ s2).1]
        exact ⟨rfl, rfl⟩
      have hto := ff_hits_to (p := ff_at (u0.2.2 0) (u0.2.2 1) (ff_fill (ff_fp (u0.2.2 2) f9 (u0.1 1)) (u0.2.2 4) (u0.1 1)) (ff_fill (ff_fl (u0.2.2 3) f9 (u0.1 1)) (u0.2.2 5) (u0.1 1)) (u0.1 1) up dn) (q := ff_pm (u0.1 0) (v0.2.2 0) (v0.2.2 1) (ff_fill (ff_fp (v0.2.2 3) f9 (u0.1 1)) (v0.2.2 7) (u0.1 1)) (ff_fl (v0.2.2 4) f9 (u0.1 1)) (u0.1 1) up dn) (N := u0.1 0 + 1 - u0.1 1) (n := u0.1 0) (by omega) (fun z hz => ff_at_eq (by omega) (fun t h => ⟨(hN2 t h).1, (hN2 t h).2.1⟩) (fun t h => ⟨by rw [ff_fill_in h, ff_fill_in h, (hfp t h).1], by rw [ff_fill_in h, (hfp t h).2]⟩)) (fun z h3 h4 => ff_pm_out (by omega))
      have hh3 := hto.2 um hh2
      have hle9 := ff_ct_le (ff_at (u0.2.2 0) (u0.2.2 1) (ff_fill (ff_fp (u0.2.2 2) f9 (u0.1 1)) (u0.2.2 4) (u0.1 1)) (ff_fill (ff_fl (u0.2.2 3) f9 (u0.1 1)) (u0.2.2 5) (u0.1 1)) (u0.1 1) up dn) (u0.1 0 + 1 - u0.1 1)
      rw [hto.1]
      refine ⟨rfl, fun _ => hg9, ?_⟩
      rw [hu]
      exact ⟨hN0, hT0, hG0, (⟨by omega, rfl, fun k h5 => ff_hits_eq hh3 hh1 h5⟩ : RP (ff_ct (ff_at (u0.2.2 0) (u0.2.2 1) (ff_fill (ff_fp (u0.2.2 2) f9 (u0.1 1)) (u0.2.2 4) (u0.1 1)) (ff_fill (ff_fl (u0.2.2 3) f9 (u0.1 1)) (u0.2.2 5) (u0.1 1)) (u0.1 1) up dn) (u0.1 0 + 1 - u0.1 1)) ul (ff_ct (ff_at (u0.2.2 0) (u0.2.2 1) (ff_fill (ff_fp (u0.2.2 2) f9 (u0.1 1)) (u0.2.2 4) (u0.1 1)) (ff_fill (ff_fl (u0.2.2 3) f9 (u0.1 1)) (u0.2.2 5) (u0.1 1)) (u0.1 1) up dn) (u0.1 0 + 1 - u0.1 1)) um), hQ0⟩
  · have hb8 := hb9.resolve_right (fun h => absurd h.1 (by decide))
    rcases h2 with ⟨hno, rfl, rfl⟩ | ⟨hok2, -⟩ | ⟨hok2, -⟩
    · refine ⟨rfl, fun h => absurd h (by decide), ?_⟩
      rw [hu9]
      exact ⟨hN0, hT0, hG0, hP0, hQ0⟩
    · exact absurd hok2 hb8.2
    · exact absurd hok2 hb8.2
  · have hb8 := (hb9.elim (fun h => h.elim (fun h => absurd h.1 (by decide)) (fun h => h.2)) (fun h => h.elim (fun h => absurd h.1 (by decide)) (fun h => absurd h.1 (by decide))))
    rcases h2 with ⟨hno, -⟩ | ⟨hok2, h2c, rfl, rfl⟩ | ⟨hok2, h2c, -⟩
    · exact absurd hb8.1 hno
    · refine ⟨rfl, fun h => absurd h (by decide), ?_⟩
      rw [hu9]
      exact ⟨hN0, hT0, hG0, hP0, hQ0⟩
    · exact absurd hb8.2 (by omega)

set_option maxHeartbeats 4000000 in
theorem rl_entries {u0 v0 : ff_S} (hR : ff_Rel u0 v0) (ky hd : Int32) (k : Int32) (uu : ff_S × (Nat → Int64)) (rm : Int32) (vv : ff_S) (h1 : wP (fun r u => okKH ky hd ∧ 0 < (u0.1 1) ∧ ∃ ul : Nat → Int32, ff_hits (ff_at (u0.2.2 0) (u0.2.2 1) (ff_fill (ff_ap (u0.2.2 2) (cl ky) (cl hd)) (u0.2.2 4) (u0.1 1)) (ff_fill (u0.2.2 3) (u0.2.2 5) (u0.1 1)) (u0.1 1) (nI 0) (nI 0)) ((u0.1 0) + 1 - (u0.1 1)) ul ∧ r = nI (ff_ct (ff_at (u0.2.2 0) (u0.2.2 1) (ff_fill (ff_ap (u0.2.2 2) (cl ky) (cl hd)) (u0.2.2 4) (u0.1 1)) (ff_fill (u0.2.2 3) (u0.2.2 5) (u0.1 1)) (u0.1 1) (nI 0) (nI 0)) ((u0.1 0) + 1 - (u0.1 1))) ∧ u = (ff_N ((u0.1 0)) ((u0.1 1)) ((u0.1 1)) ((u0.1 3)) (ff_ct (ff_at (u0.2.2 0) (u0.2.2 1) (ff_fill (ff_ap (u0.2.2 2) (cl ky) (cl hd)) (u0.2.2 4) (u0.1 1)) (ff_fill (u0.2.2 3) (u0.2.2 5) (u0.1 1)) (u0.1 1) (nI 0) (nI 0)) ((u0.1 0) + 1 - (u0.1 1))) ((u0.1 5)), ff_Z ((u0.2.1 0)) ((u0.2.1 1)), ff_A14 ((u0.2.2 0)) ((u0.2.2 1)) ((u0.2.2 2)) ((u0.2.2 3)) (ff_fill (ff_ap (u0.2.2 2) (cl ky) (cl hd)) (u0.2.2 4) (u0.1 1)) (ff_fill (u0.2.2 3) (u0.2.2 5) (u0.1 1)) ((u0.2.2 6)) ((u0.2.2 7)) ((u0.2.2 8)) (ul) ((u0.2.2 10)) ((u0.2.2 11)) ((u0.2.2 12)) ((u0.2.2 13)))) (fun E => (E = xIA ∧ ¬ okKH ky hd) ∨ (E = xIS ∧ okKH ky hd ∧ (u0.1 1) = 0)) (ff_N ((u0.1 0)) ((u0.1 1)) ((u0.1 2)) ((u0.1 3)) ((u0.1 4)) ((u0.1 5)), ff_Z ((u0.2.1 0)) ((u0.2.1 1)), ff_A14 ((u0.2.2 0)) ((u0.2.2 1)) ((u0.2.2 2)) ((u0.2.2 3)) ((u0.2.2 4)) ((u0.2.2 5)) ((u0.2.2 6)) ((u0.2.2 7)) ((u0.2.2 8)) ((u0.2.2 9)) ((u0.2.2 10)) ((u0.2.2 11)) ((u0.2.2 12)) ((u0.2.2 13))) k uu) (h2 : (fun (r : Int32) (u : ff_S) => (¬ okKH ky hd ∧ r = nI 0 ∧ u = (ff_N ((v0.1 0)) ((v0.1 1)) ((v0.1 2)) ((v0.1 3)) ((v0.1 4)) 0, ff_Z ((nI 1)) ((v0.2.1 1)), ff_A14 ((v0.2.2 0)) ((v0.2.2 1)) ((v0.2.2 2)) ((v0.2.2 3)) ((v0.2.2 4)) ((v0.2.2 5)) ((v0.2.2 6)) ((v0.2.2 7)) ((v0.2.2 8)) ((v0.2.2 9)) ((v0.2.2 10)) ((v0.2.2 10)) ((v0.2.2 10)) ((v0.2.2 10)))) ∨ (okKH ky hd ∧ (v0.1 2) = 0 ∧ r = nI 0 ∧ u = (ff_N ((v0.1 0)) ((v0.1 1)) ((v0.1 2)) ((v0.1 3)) ((v0.1 4)) 0, ff_Z ((nI 2)) ((v0.2.1 1)), ff_A14 ((v0.2.2 0)) ((v0.2.2 1)) ((v0.2.2 2)) ((v0.2.2 3)) ((v0.2.2 4)) ((v0.2.2 5)) ((v0.2.2 6)) ((v0.2.2 7)) ((v0.2.2 8)) ((v0.2.2 9)) ((v0.2.2 10)) ((v0.2.2 10)) ((v0.2.2 10)) ((v0.2.2 10)))) ∨ (okKH ky hd ∧ 0 < (v0.1 2) ∧ ∃ ul : Nat → Int32, ff_hits (ff_go (v0.1 0) (v0.2.2 0) (ff_fill (ff_ap (v0.2.2 3) (cl ky) (cl hd)) (v0.2.2 7) (v0.1 2)) (v0.1 2)) (v0.1 0) ul ∧ r = nI (ff_ct (ff_go (v0.1 0) (v0.2.2 0) (ff_fill (ff_ap (v0.2.2 3) (cl ky) (cl hd)) (v0.2.2 7) (v0.1 2)) (v0.1 2)) (v0.1 0)) ∧ u = (ff_N ((v0.1 0)) ((v0.1 1)) ((v0.1 2)) (ff_ct (ff_go (v0.1 0) (v0.2.2 0) (ff_fill (ff_ap (v0.2.2 3) (cl ky) (cl hd)) (v0.2.2 7) (v0.1 2)) (v0.1 2)) (v0.1 0)) ((v0.1 4)) 0, ff_Z ((nI 0)) ((v0.2.1 1)), ff_A14 ((v0.2.2 0)) ((v0.2.2 1)) ((v0.2.2 2)) ((v0.2.2 3)) ((v0.2.2 4)) (ul) ((v0.2.2 6)) (ff_fill (ff_ap (v0.2.2 3) (cl ky) (cl hd)) (v0.2.2 7) (v0.1 2)) ((v0.2.2 8)) ((v0.2.2 9)) ((v0.2.2 10)) ((v0.2.2 10)) ((v0.2.2 10)) ((v0.2.2 10))))) rm vv) : ff_fin k uu rm vv := by
  try dsimp only at h2
  obtain ⟨⟨hn, en, hN2⟩, ⟨ht, et, hT2⟩, ⟨hg1, eg, hG2⟩, ⟨hp1, ep, hP2⟩, ⟨hq1, eq1, ec, hQ2⟩⟩ := id hR
  simp only [en, et, eg, ep, eq1] at h2
  unfold wP at h1
  have hN0 : RN (u0.1 0) (u0.2.2 0) (u0.2.2 1) (u0.1 0) (v0.2.2 0) (v0.2.2 1) := ⟨hn, rfl, hN2⟩
  have hT0 : RT (u0.1 1) (u0.2.2 2) (u0.2.2 3) (u0.1 1) (v0.2.2 3) (v0.2.2 4) := ⟨ht, rfl, hT2⟩
  have hG0 : RG (u0.1 3) (u0.2.2 7) (u0.1 3) (v0.2.2 2) := ⟨hg1, rfl, hG2⟩
  have hP0 : RP (u0.1 4) (u0.2.2 9) (u0.1 4) (v0.2.2 5) := ⟨hp1, rfl, hP2⟩
  have hQ0 : RQ (u0.1 5) (u0.2.1 1) (u0.2.2 10) (u0.1 5) (v0.2.1 1) (v0.2.2 6) := ⟨hq1, rfl, ec, hQ2⟩
  rcases h1 with ⟨rfl, x9, hp9, hg9⟩ | ⟨rfl, hb9, hu9⟩ | ⟨rfl, hb9, hu9⟩
  · rcases h2 with ⟨hno, -⟩ | ⟨hok2, h2c, -⟩ | h2
    · exact absurd hp9.1 hno
    · exact absurd h2c (by have := hp9.2.1; omega)
    · obtain ⟨hok, h0t, ul, hh1, rfl, hu⟩ := hp9
      obtain ⟨-, -, um, hh2, rfl, rfl⟩ := h2
      obtain ⟨ky9, hd9, h8, rfl, h7, rfl⟩ := hok
      rw [cl_n (n := ky9) (by omega), cl_n (n := hd9) (by omega)] at hh1 hh2 hu hg9 ⊢
      have hap : ∀ t, t < u0.1 1 → ff_ap (u0.2.2 2) ky9 hd9 t = ff_ap (v0.2.2 3) ky9 hd9 t := fun t h => by
        unfold ff_ap
        rw [(hT2 t h).1]
      have hto := ff_hits_to (p := ff_at (u0.2.2 0) (u0.2.2 1) (ff_fill (ff_ap (u0.2.2 2) ky9 hd9) (u0.2.2 4) (u0.1 1)) (ff_fill (u0.2.2 3) (u0.2.2 5) (u0.1 1)) (u0.1 1) (nI 0) (nI 0)) (q := ff_go (u0.1 0) (v0.2.2 0) (ff_fill (ff_ap (v0.2.2 3) ky9 hd9) (v0.2.2 7) (u0.1 1)) (u0.1 1)) (N := u0.1 0 + 1 - u0.1 1) (n := u0.1 0) (by omega) (fun z hz => by rw [ff_go_pm (v0.2.2 1) (ff_fill (u0.2.2 3) (u0.2.2 5) (u0.1 1))]; exact ff_at_eq (by omega) (fun t h => ⟨(hN2 t h).1, (hN2 t h).2.1⟩) (fun t h => ⟨by rw [ff_fill_in h, ff_fill_in h, hap t h], rfl⟩)) (fun z h3 h4 => by rw [ff_go_pm (v0.2.2 1) (v0.2.2 1)]; exact ff_pm_out (by omega))
      have hh3 := hto.2 um hh2
      have hle9 := ff_ct_le (ff_at (u0.2.2 0) (u0.2.2 1) (ff_fill (ff_ap (u0.2.2 2) ky9 hd9) (u0.2.2 4) (u0.1 1)) (ff_fill (u0.2.2 3) (u0.2.2 5) (u0.1 1)) (u0.1 1) (nI 0) (nI 0)) (u0.1 0 + 1 - u0.1 1)
      rw [hto.1]
      refine ⟨rfl, fun _ => hg9, ?_⟩
      rw [hu]
      exact ⟨hN0, hT0, hG0, (⟨by omega, rfl, fun k h5 => ff_hits_eq hh3 hh1 h5⟩ : RP (ff_ct (ff_at (u0.2.2 0) (u0.2.2 1) (ff_fill (ff_ap (u0.2.2 2) ky9 hd9) (u0.2.2 4) (u0.1 1)) (ff_fill (u0.2.2 3) (u0.2.2 5) (u0.1 1)) (u0.1 1) (nI 0) (nI 0)) (u0.1 0 + 1 - u0.1 1)) ul (ff_ct (ff_at (u0.2.2 0) (u0.2.2 1) (ff_fill (ff_ap (u0.2.2 2) ky9 hd9) (u0.2.2 4) (u0.1 1)) (ff_fill (u0.2.2 3) (u0.2.2 5) (u0.1 1)) (u0.1 1) (nI 0) (nI 0)) (u0.1 0 + 1 - u0.1 1)) um), hQ0⟩
  · have hb8 := hb9.resolve_right (fun h => absurd h.1 (by decide))
    rcases h2 with ⟨hno, rfl, rfl⟩ | ⟨hok2, -⟩ | ⟨hok2, -⟩
    · refine ⟨rfl, fun h => absurd h (by decide), ?_⟩
      rw [hu9]
      exact ⟨hN0, hT0, hG0, hP0, hQ0⟩
    · exact absurd hok2 hb8.2
    · exact absurd hok2 hb8.2
  · have hb8 := (hb9.elim (fun h => h.elim (fun h => absurd h.1 (by decide)) (fun h => h.2)) (fun h => h.elim (fun h => absurd h.1 (by decide)) (fun h => absurd h.1 (by decide))))
    rcases h2 with ⟨hno, -⟩ | ⟨hok2, h2c, rfl, rfl⟩ | ⟨hok2, h2c, -⟩
    · exact absurd hb8.1 hno
    · refine ⟨rfl, fun h => absurd h (by decide), ?_⟩
      rw [hu9]
      exact ⟨hN0, hT0, hG0, hP0, hQ0⟩
    · exact absurd hb8.2 (by omega)

set_option maxHeartbeats 4000000 in
theorem rl_found {u0 v0 : ff_S} (hR : ff_Rel u0 v0) (q : Int32) (k : Int32) (uu : ff_S × (Nat → Int64)) (rm : Int32) (vv : ff_S) (h1 : wP (fun r u => 0 ≤ q ∧ r = (if cl q < (u0.1 4) then (u0.2.2 9) (cl q) else (-1)) ∧ u = (ff_N ((u0.1 0)) ((u0.1 1)) ((u0.1 2)) ((u0.1 3)) ((u0.1 4)) ((u0.1 5)), ff_Z ((u0.2.1 0)) ((u0.2.1 1)), ff_A14 ((u0.2.2 0)) ((u0.2.2 1)) ((u0.2.2 2)) ((u0.2.2 3)) ((u0.2.2 4)) ((u0.2.2 5)) ((u0.2.2 6)) ((u0.2.2 7)) ((u0.2.2 8)) ((u0.2.2 9)) ((u0.2.2 10)) ((u0.2.2 11)) ((u0.2.2 12)) ((u0.2.2 13)))) (fun E => E = xIA ∧ ¬ 0 ≤ q) (ff_N ((u0.1 0)) ((u0.1 1)) ((u0.1 2)) ((u0.1 3)) ((u0.1 4)) ((u0.1 5)), ff_Z ((u0.2.1 0)) ((u0.2.1 1)), ff_A14 ((u0.2.2 0)) ((u0.2.2 1)) ((u0.2.2 2)) ((u0.2.2 3)) ((u0.2.2 4)) ((u0.2.2 5)) ((u0.2.2 6)) ((u0.2.2 7)) ((u0.2.2 8)) ((u0.2.2 9)) ((u0.2.2 10)) ((u0.2.2 11)) ((u0.2.2 12)) ((u0.2.2 13))) k uu) (h2 : (fun (r : Int32) (u : ff_S) => (¬ 0 ≤ q ∧ r = nI 0 ∧ u = (ff_N ((v0.1 0)) ((v0.1 1)) ((v0.1 2)) ((v0.1 3)) ((v0.1 4)) 0, ff_Z ((nI 1)) ((v0.2.1 1)), ff_A14 ((v0.2.2 0)) ((v0.2.2 1)) ((v0.2.2 2)) ((v0.2.2 3)) ((v0.2.2 4)) ((v0.2.2 5)) ((v0.2.2 6)) ((v0.2.2 7)) ((v0.2.2 8)) ((v0.2.2 9)) ((v0.2.2 10)) ((v0.2.2 10)) ((v0.2.2 10)) ((v0.2.2 10)))) ∨ (0 ≤ q ∧ r = (if cl q < (v0.1 3) then (v0.2.2 5) (cl q) else (-1)) ∧ u = (ff_N ((v0.1 0)) ((v0.1 1)) ((v0.1 2)) ((v0.1 3)) ((v0.1 4)) 0, ff_Z ((nI 0)) ((v0.2.1 1)), ff_A14 ((v0.2.2 0)) ((v0.2.2 1)) ((v0.2.2 2)) ((v0.2.2 3)) ((v0.2.2 4)) ((v0.2.2 5)) ((v0.2.2 6)) ((v0.2.2 7)) ((v0.2.2 8)) ((v0.2.2 9)) ((v0.2.2 10)) ((v0.2.2 10)) ((v0.2.2 10)) ((v0.2.2 10))))) rm vv) : ff_fin k uu rm vv := by
  try dsimp only at h2
  obtain ⟨⟨hn, en, hN2⟩, ⟨ht, et, hT2⟩, ⟨hg1, eg, hG2⟩, ⟨hp1, ep, hP2⟩, ⟨hq1, eq1, ec, hQ2⟩⟩ := id hR
  simp only [en, et, eg, ep, eq1] at h2
  unfold wP at h1
  have hN0 : RN (u0.1 0) (u0.2.2 0) (u0.2.2 1) (u0.1 0) (v0.2.2 0) (v0.2.2 1) := ⟨hn, rfl, hN2⟩
  have hT0 : RT (u0.1 1) (u0.2.2 2) (u0.2.2 3) (u0.1 1) (v0.2.2 3) (v0.2.2 4) := ⟨ht, rfl, hT2⟩
  have hG0 : RG (u0.1 3) (u0.2.2 7) (u0.1 3) (v0.2.2 2) := ⟨hg1, rfl, hG2⟩
  have hP0 : RP (u0.1 4) (u0.2.2 9) (u0.1 4) (v0.2.2 5) := ⟨hp1, rfl, hP2⟩
  have hQ0 : RQ (u0.1 5) (u0.2.1 1) (u0.2.2 10) (u0.1 5) (v0.2.1 1) (v0.2.2 6) := ⟨hq1, rfl, ec, hQ2⟩
  rcases h1 with ⟨rfl, x9, hp9, hg9⟩ | ⟨rfl, hb9, hu9⟩ | ⟨rfl, hb9, hu9⟩
  · rcases h2 with ⟨hno, -⟩ | h2
    · exact absurd hp9.1 hno
    · obtain ⟨hok, rfl, hu⟩ := hp9
      obtain ⟨-, rfl, rfl⟩ := h2
      refine ⟨rfl, fun _ => ?_, ?_⟩
      · rw [hg9]
        refine congrArg Int32.toInt64 ?_
        by_cases h : cl q < (u0.1 4)
        · rw [if_pos h, if_pos h, hP2 _ h]
        · rw [if_neg h, if_neg h]
      · rw [hu]
        exact ⟨hN0, hT0, hG0, hP0, hQ0⟩
  · rcases h2 with ⟨hno, rfl, rfl⟩ | h2
    · refine ⟨rfl, fun h => absurd h (by decide), ?_⟩
      rw [hu9]
      exact ⟨hN0, hT0, hG0, hP0, hQ0⟩
    · exact absurd h2.1 hb9.2
  · exact (hb9.elim (fun h => absurd h.1 (by decide)) (fun h => absurd h.1 (by decide)))

set_option maxHeartbeats 4000000 in
theorem rl_section {u0 v0 : ff_S} (hR : ff_Rel u0 v0) (q : Int32) (k : Int32) (uu : ff_S × (Nat → Int64)) (rm : Int32) (vv : ff_S) (h1 : wP (fun r u => 0 ≤ q ∧ r = (if cl q < (u0.1 5) then (u0.2.2 10) (cl q) else (-1)) ∧ u = (ff_N ((u0.1 0)) ((u0.1 1)) ((u0.1 2)) ((u0.1 3)) ((u0.1 4)) ((u0.1 5)), ff_Z ((u0.2.1 0)) ((u0.2.1 1)), ff_A14 ((u0.2.2 0)) ((u0.2.2 1)) ((u0.2.2 2)) ((u0.2.2 3)) ((u0.2.2 4)) ((u0.2.2 5)) ((u0.2.2 6)) ((u0.2.2 7)) ((u0.2.2 8)) ((u0.2.2 9)) ((u0.2.2 10)) ((u0.2.2 11)) ((u0.2.2 12)) ((u0.2.2 13)))) (fun E => E = xIA ∧ ¬ 0 ≤ q) (ff_N ((u0.1 0)) ((u0.1 1)) ((u0.1 2)) ((u0.1 3)) ((u0.1 4)) ((u0.1 5)), ff_Z ((u0.2.1 0)) ((u0.2.1 1)), ff_A14 ((u0.2.2 0)) ((u0.2.2 1)) ((u0.2.2 2)) ((u0.2.2 3)) ((u0.2.2 4)) ((u0.2.2 5)) ((u0.2.2 6)) ((u0.2.2 7)) ((u0.2.2 8)) ((u0.2.2 9)) ((u0.2.2 10)) ((u0.2.2 11)) ((u0.2.2 12)) ((u0.2.2 13))) k uu) (h2 : (fun (r : Int32) (u : ff_S) => (¬ 0 ≤ q ∧ r = nI 0 ∧ u = (ff_N ((v0.1 0)) ((v0.1 1)) ((v0.1 2)) ((v0.1 3)) ((v0.1 4)) 0, ff_Z ((nI 1)) ((v0.2.1 1)), ff_A14 ((v0.2.2 0)) ((v0.2.2 1)) ((v0.2.2 2)) ((v0.2.2 3)) ((v0.2.2 4)) ((v0.2.2 5)) ((v0.2.2 6)) ((v0.2.2 7)) ((v0.2.2 8)) ((v0.2.2 9)) ((v0.2.2 10)) ((v0.2.2 10)) ((v0.2.2 10)) ((v0.2.2 10)))) ∨ (0 ≤ q ∧ r = (if cl q < (v0.1 4) then (v0.2.2 6) (cl q) else (-1)) ∧ u = (ff_N ((v0.1 0)) ((v0.1 1)) ((v0.1 2)) ((v0.1 3)) ((v0.1 4)) 0, ff_Z ((nI 0)) ((v0.2.1 1)), ff_A14 ((v0.2.2 0)) ((v0.2.2 1)) ((v0.2.2 2)) ((v0.2.2 3)) ((v0.2.2 4)) ((v0.2.2 5)) ((v0.2.2 6)) ((v0.2.2 7)) ((v0.2.2 8)) ((v0.2.2 9)) ((v0.2.2 10)) ((v0.2.2 10)) ((v0.2.2 10)) ((v0.2.2 10))))) rm vv) : ff_fin k uu rm vv := by
  try dsimp only at h2
  obtain ⟨⟨hn, en, hN2⟩, ⟨ht, et, hT2⟩, ⟨hg1, eg, hG2⟩, ⟨hp1, ep, hP2⟩, ⟨hq1, eq1, ec, hQ2⟩⟩ := id hR
  simp only [en, et, eg, ep, eq1] at h2
  unfold wP at h1
  have hN0 : RN (u0.1 0) (u0.2.2 0) (u0.2.2 1) (u0.1 0) (v0.2.2 0) (v0.2.2 1) := ⟨hn, rfl, hN2⟩
  have hT0 : RT (u0.1 1) (u0.2.2 2) (u0.2.2 3) (u0.1 1) (v0.2.2 3) (v0.2.2 4) := ⟨ht, rfl, hT2⟩
  have hG0 : RG (u0.1 3) (u0.2.2 7) (u0.1 3) (v0.2.2 2) := ⟨hg1, rfl, hG2⟩
  have hP0 : RP (u0.1 4) (u0.2.2 9) (u0.1 4) (v0.2.2 5) := ⟨hp1, rfl, hP2⟩
  have hQ0 : RQ (u0.1 5) (u0.2.1 1) (u0.2.2 10) (u0.1 5) (v0.2.1 1) (v0.2.2 6) := ⟨hq1, rfl, ec, hQ2⟩
  rcases h1 with ⟨rfl, x9, hp9, hg9⟩ | ⟨rfl, hb9, hu9⟩ | ⟨rfl, hb9, hu9⟩
  · rcases h2 with ⟨hno, -⟩ | h2
    · exact absurd hp9.1 hno
    · obtain ⟨hok, rfl, hu⟩ := hp9
      obtain ⟨-, rfl, rfl⟩ := h2
      refine ⟨rfl, fun _ => ?_, ?_⟩
      · rw [hg9]
        refine congrArg Int32.toInt64 ?_
        by_cases h : cl q < (u0.1 5)
        · rw [if_pos h, if_pos h, hQ2 _ h]
        · rw [if_neg h, if_neg h]
      · rw [hu]
        exact ⟨hN0, hT0, hG0, hP0, hQ0⟩
  · rcases h2 with ⟨hno, rfl, rfl⟩ | h2
    · refine ⟨rfl, fun h => absurd h (by decide), ?_⟩
      rw [hu9]
      exact ⟨hN0, hT0, hG0, hP0, hQ0⟩
    · exact absurd h2.1 hb9.2
  · exact (hb9.elim (fun h => absurd h.1 (by decide)) (fun h => absurd h.1 (by decide)))

set_option maxHeartbeats 4000000 in
theorem rl_sections {u0 v0 : ff_S} (hR : ff_Rel u0 v0) (base bw : Int32) (k : Int32) (uu : ff_S × (Nat → Int64)) (rm : Int32) (vv : ff_S) (h1 : wP (fun r u => okSe base bw ∧ r = nI (ff_sn (u0.2.2 0) (u0.1 0) base bw) ∧ ∃ u1 u2 u3 u4 : Nat → Int32, (∀ t, t < ff_sn (u0.2.2 0) (u0.1 0) base bw → u1 t = nI (ff_ch (ff_D (u0.2.2 0) (u0.1 0) base bw (u0.1 0)).2.2 t 0)) ∧ u = (ff_N ((u0.1 0)) ((u0.1 1)) ((u0.1 2)) ((u0.1 3)) ((u0.1 4)) (ff_sn (u0.2.2 0) (u0.1 0) base bw), ff_Z ((u0.2.1 0)) (((ff_D (u0.2.2 0) (u0.1 0) base bw (u0.1 0)).1 0)), ff_A14 ((u0.2.2 0)) ((u0.2.2 1)) ((u0.2.2 2)) ((u0.2.2 3)) ((u0.2.2 4)) ((u0.2.2 5)) ((u0.2.2 6)) ((u0.2.2 7)) ((u0.2.2 8)) ((u0.2.2 9)) (u1) (u2) (u3) (u4))) (fun E => E = xIA ∧ ¬ okSe base bw) (ff_N ((u0.1 0)) ((u0.1 1)) ((u0.1 2)) ((u0.1 3)) ((u0.1 4)) ((u0.1 5)), ff_Z ((u0.2.1 0)) ((u0.2.1 1)), ff_A14 ((u0.2.2 0)) ((u0.2.2 1)) ((u0.2.2 2)) ((u0.2.2 3)) ((u0.2.2 4)) ((u0.2.2 5)) ((u0.2.2 6)) ((u0.2.2 7)) ((u0.2.2 8)) ((u0.2.2 9)) ((u0.2.2 10)) ((u0.2.2 11)) ((u0.2.2 12)) ((u0.2.2 13))) k uu) (h2 : (fun (r : Int32) (u : ff_S) => (¬ okSe base bw ∧ r = nI 0 ∧ u = (ff_N ((v0.1 0)) ((v0.1 1)) ((v0.1 2)) ((v0.1 3)) ((v0.1 4)) 0, ff_Z ((nI 1)) ((v0.2.1 1)), ff_A14 ((v0.2.2 0)) ((v0.2.2 1)) ((v0.2.2 2)) ((v0.2.2 3)) ((v0.2.2 4)) ((v0.2.2 5)) ((v0.2.2 6)) ((v0.2.2 7)) ((v0.2.2 8)) ((v0.2.2 9)) ((v0.2.2 10)) ((v0.2.2 10)) ((v0.2.2 10)) ((v0.2.2 10)))) ∨ (okSe base bw ∧ r = nI (ff_sn (v0.2.2 0) (v0.1 0) base bw) ∧ ∃ u1 u2 u3 u4 : Nat → Int32, (∀ t, t < ff_sn (v0.2.2 0) (v0.1 0) base bw → u1 t = nI (ff_ch (ff_D (v0.2.2 0) (v0.1 0) base bw (v0.1 0)).2.2 t 0)) ∧ u = (ff_N ((v0.1 0)) ((v0.1 1)) ((v0.1 2)) ((v0.1 3)) (ff_sn (v0.2.2 0) (v0.1 0) base bw) 0, ff_Z ((nI 0)) (((ff_D (v0.2.2 0) (v0.1 0) base bw (v0.1 0)).1 0)), ff_A14 ((v0.2.2 0)) ((v0.2.2 1)) ((v0.2.2 2)) ((v0.2.2 3)) ((v0.2.2 4)) ((v0.2.2 5)) (u1) ((v0.2.2 7)) (u2) (u3) (u4) (u4) (u4) (u4)))) rm vv) : ff_fin k uu rm vv := by
  try dsimp only at h2
  obtain ⟨⟨hn, en, hN2⟩, ⟨ht, et, hT2⟩, ⟨hg1, eg, hG2⟩, ⟨hp1, ep, hP2⟩, ⟨hq1, eq1, ec, hQ2⟩⟩ := id hR
  simp only [en, et, eg, ep, eq1] at h2
  unfold wP at h1
  have hN0 : RN (u0.1 0) (u0.2.2 0) (u0.2.2 1) (u0.1 0) (v0.2.2 0) (v0.2.2 1) := ⟨hn, rfl, hN2⟩
  have hT0 : RT (u0.1 1) (u0.2.2 2) (u0.2.2 3) (u0.1 1) (v0.2.2 3) (v0.2.2 4) := ⟨ht, rfl, hT2⟩
  have hG0 : RG (u0.1 3) (u0.2.2 7) (u0.1 3) (v0.2.2 2) := ⟨hg1, rfl, hG2⟩
  have hP0 : RP (u0.1 4) (u0.2.2 9) (u0.1 4) (v0.2.2 5) := ⟨hp1, rfl, hP2⟩
  have hQ0 : RQ (u0.1 5) (u0.2.1 1) (u0.2.2 10) (u0.1 5) (v0.2.1 1) (v0.2.2 6) := ⟨hq1, rfl, ec, hQ2⟩
  rcases h1 with ⟨rfl, x9, hp9, hg9⟩ | ⟨rfl, hb9, hu9⟩ | ⟨rfl, hb9, hu9⟩
  · rcases h2 with ⟨hno, -⟩ | h2
    · exact absurd hp9.1 hno
    · obtain ⟨hok, rfl, a1, a2, a3, a4, ha, hu⟩ := hp9
      obtain ⟨-, rfl, b1, b2, b3, b4, hb, rfl⟩ := h2
      have hD9 : ff_D (v0.2.2 0) (u0.1 0) base bw (u0.1 0) = ff_D (u0.2.2 0) (u0.1 0) base bw (u0.1 0) := ff_D_congr (fun t h => (hN2 t h).1) _ (Nat.le_refl _)
      have hS9 : ff_sn (v0.2.2 0) (u0.1 0) base bw = ff_sn (u0.2.2 0) (u0.1 0) base bw := by unfold ff_sn; rw [hD9]
      have hz := (ff_sn_ok (u0.2.2 0) base bw hn).1
      rw [hD9, hS9] at hb
      rw [hD9, hS9]
      refine ⟨rfl, fun _ => hg9, ?_⟩
      rw [hu]
      exact ⟨hN0, hT0, hG0, hP0, (⟨by omega, rfl, rfl, fun k h => by rw [hb k h, ha k h]⟩ : RQ (ff_sn (u0.2.2 0) (u0.1 0) base bw) ((ff_D (u0.2.2 0) (u0.1 0) base bw (u0.1 0)).1 0) a1 (ff_sn (u0.2.2 0) (u0.1 0) base bw) ((ff_D (u0.2.2 0) (u0.1 0) base bw (u0.1 0)).1 0) b1)⟩
  · rcases h2 with ⟨hno, rfl, rfl⟩ | h2
    · refine ⟨rfl, fun h => absurd h (by decide), ?_⟩
      rw [hu9]
      exact ⟨hN0, hT0, hG0, hP0, hQ0⟩
    · exact absurd h2.1 hb9.2
  · exact (hb9.elim (fun h => absurd h.1 (by decide)) (fun h => absurd h.1 (by decide)))

set_option maxHeartbeats 4000000 in
theorem rl_of {u0 v0 : ff_S} (hR : ff_Rel u0 v0) (w : Int32) (k : Int32) (uu : ff_S × (Nat → Int64)) (rm : Int32) (vv : ff_S) (h1 : wP (fun r u => okOf w ∧ r = (if cl w = 0 then nI (u0.1 0) else if cl w = 1 then nI (u0.1 1) else if cl w = 2 then (u0.2.1 1) else if cl w = 3 then nI (u0.1 4) else nI (u0.1 3)) ∧ u = (ff_N ((u0.1 0)) ((u0.1 1)) ((u0.1 2)) ((u0.1 3)) ((u0.1 4)) ((u0.1 5)), ff_Z ((u0.2.1 0)) ((u0.2.1 1)), ff_A14 ((u0.2.2 0)) ((u0.2.2 1)) ((u0.2.2 2)) ((u0.2.2 3)) ((u0.2.2 4)) ((u0.2.2 5)) ((u0.2.2 6)) ((u0.2.2 7)) ((u0.2.2 8)) ((u0.2.2 9)) ((u0.2.2 10)) ((u0.2.2 11)) ((u0.2.2 12)) ((u0.2.2 13)))) (fun E => E = xIA ∧ ¬ okOf w) (ff_N ((u0.1 0)) ((u0.1 1)) ((u0.1 2)) ((u0.1 3)) ((u0.1 4)) ((u0.1 5)), ff_Z ((u0.2.1 0)) ((u0.2.1 1)), ff_A14 ((u0.2.2 0)) ((u0.2.2 1)) ((u0.2.2 2)) ((u0.2.2 3)) ((u0.2.2 4)) ((u0.2.2 5)) ((u0.2.2 6)) ((u0.2.2 7)) ((u0.2.2 8)) ((u0.2.2 9)) ((u0.2.2 10)) ((u0.2.2 11)) ((u0.2.2 12)) ((u0.2.2 13))) k uu) (h2 : (fun (r : Int32) (u : ff_S) => (¬ okOf w ∧ r = nI 0 ∧ u = (ff_N ((v0.1 0)) ((v0.1 1)) ((v0.1 2)) ((v0.1 3)) ((v0.1 4)) 0, ff_Z ((nI 1)) ((v0.2.1 1)), ff_A14 ((v0.2.2 0)) ((v0.2.2 1)) ((v0.2.2 2)) ((v0.2.2 3)) ((v0.2.2 4)) ((v0.2.2 5)) ((v0.2.2 6)) ((v0.2.2 7)) ((v0.2.2 8)) ((v0.2.2 9)) ((v0.2.2 10)) ((v0.2.2 10)) ((v0.2.2 10)) ((v0.2.2 10)))) ∨ (okOf w ∧ r = (if cl w = 0 then nI (v0.1 0) else if cl w = 1 then nI (v0.1 2) else if cl w = 2 then (v0.2.1 1) else if cl w = 3 then nI (v0.1 3) else nI (v0.1 1)) ∧ u = (ff_N ((v0.1 0)) ((v0.1 1)) ((v0.1 2)) ((v0.1 3)) ((v0.1 4)) 0, ff_Z ((nI 0)) ((v0.2.1 1)), ff_A14 ((v0.2.2 0)) ((v0.2.2 1)) ((v0.2.2 2)) ((v0.2.2 3)) ((v0.2.2 4)) ((v0.2.2 5)) ((v0.2.2 6)) ((v0.2.2 7)) ((v0.2.2 8)) ((v0.2.2 9)) ((v0.2.2 10)) ((v0.2.2 10)) ((v0.2.2 10)) ((v0.2.2 10))))) rm vv) : ff_fin k uu rm vv := by
  try dsimp only at h2
  obtain ⟨⟨hn, en, hN2⟩, ⟨ht, et, hT2⟩, ⟨hg1, eg, hG2⟩, ⟨hp1, ep, hP2⟩, ⟨hq1, eq1, ec, hQ2⟩⟩ := id hR
  simp only [en, et, eg, ep, eq1] at h2
  unfold wP at h1
  have hN0 : RN (u0.1 0) (u0.2.2 0) (u0.2.2 1) (u0.1 0) (v0.2.2 0) (v0.2.2 1) := ⟨hn, rfl, hN2⟩
  have hT0 : RT (u0.1 1) (u0.2.2 2) (u0.2.2 3) (u0.1 1) (v0.2.2 3) (v0.2.2 4) := ⟨ht, rfl, hT2⟩
  have hG0 : RG (u0.1 3) (u0.2.2 7) (u0.1 3) (v0.2.2 2) := ⟨hg1, rfl, hG2⟩
  have hP0 : RP (u0.1 4) (u0.2.2 9) (u0.1 4) (v0.2.2 5) := ⟨hp1, rfl, hP2⟩
  have hQ0 : RQ (u0.1 5) (u0.2.1 1) (u0.2.2 10) (u0.1 5) (v0.2.1 1) (v0.2.2 6) := ⟨hq1, rfl, ec, hQ2⟩
  rcases h1 with ⟨rfl, x9, hp9, hg9⟩ | ⟨rfl, hb9, hu9⟩ | ⟨rfl, hb9, hu9⟩
  · rcases h2 with ⟨hno, -⟩ | h2
    · exact absurd hp9.1 hno
    · obtain ⟨hok, rfl, hu⟩ := hp9
      obtain ⟨-, rfl, rfl⟩ := h2
      refine ⟨rfl, fun _ => ?_, ?_⟩
      · rw [hg9]
        refine congrArg Int32.toInt64 ?_
        rw [ec]
      · rw [hu]
        exact ⟨hN0, hT0, hG0, hP0, hQ0⟩
  · rcases h2 with ⟨hno, rfl, rfl⟩ | h2
    · refine ⟨rfl, fun h => absurd h (by decide), ?_⟩
      rw [hu9]
      exact ⟨hN0, hT0, hG0, hP0, hQ0⟩
    · exact absurd h2.1 hb9.2
  · exact (hb9.elim (fun h => absurd h.1 (by decide)) (fun h => absurd h.1 (by decide)))
