set_option maxHeartbeats 4000000 in
set_option maxRecDepth 100000 in
theorem k_X4_countByLength (l : Launch) (D : va_G) (cI : ClassId) (a0 a1 a2 : Nat) (z : Int32) (g sl : Nat → Int32) (b0 b1 n : Nat) (f : Nat → Int32) (least : Nat) (h1 : 1 ≤ least) (h2 : least ≤ 60) (hn : n ≤ 60) : Cv l yX4_countByLength cX4_countByLength 6 2 0 0 D (tI cI) [.ref a0, .ref b0, .int (nI least)] [(a0, .inr (4, [.ref a1, .ref a2, .int z])), (a1, oI cI 2700 g), (a2, oI cI 60 sl), (b0, .inr (0, [.ref b1, .int (nI n)])), (b1, oI cI 60 f)] (S := Nat → Int32) (fun u => ∀ m, m < 60 → u m = nI (ff_cn (ff_rl f n) least (ff_ar n n) m)) (fun u => [(a0, .inr (4, [.ref a1, .ref a2, .int z])), (a1, oI cI 2700 g), (a2, oI cI 60 u), (b0, .inr (0, [.ref b1, .int (nI n)])), (b1, oI cI 60 f)]) := by
  refine Cv.of (own := RX4) (lv := [(0, .ref a0), (1, .ref b0), (2, .int (nI least))]) (by decide +kernel) rfl (Nat.le_of_ble_eq_true rfl) rfl ?_
  intro p e s m args below meth c Q A cx hin hK hP hD hA hret ls hl
  obtain ⟨hx, hb, hml, hown, hg⟩ := id cx
  have hS : va_S A s.heap s.heap [] := va_S.rf
  refine lv_iconst (v := nI 0) hx hb dX4_countByLength_0 (by decide) ?_
  refine lv_istore_n (lv' := [(3, .int (nI 0)), (0, .ref a0), (1, .ref b0), (2, .int (nI least))]) hx hb dX4_countByLength_1 rfl hl (by decide) rfl (fun ls hl => ?_)
  have lp_2 : ∀ (k : Nat) (i : Nat) (S : Nat → Int32) (H : Heap) (locs : List Loc) (ls : Array Slot), (i ≤ 60) → (∀ t, t < i → S t = nI 0) → (60 - i < k) → va_P D vwCl [(a0, .inr (4, [.ref a1, .ref a2, .int z])), (a1, oI cI 2700 g), (a2, oI cI 60 S), (b0, .inr (0, [.ref b1, .int (nI n)])), (b1, oI cI 60 f)] H → va_D A [(a0, .inr (4, [.ref a1, .ref a2, .int z])), (a1, oI cI 2700 g), (a2, oI cI 60 S), (b0, .inr (0, [.ref b1, .int (nI n)])), (b1, oI cI 60 f)] → va_S A s.heap H locs → lv_has ls 6 [(0, .ref a0), (1, .ref b0), (2, .int (nI least)), (3, .int (nI i))] → W p l e (rr 2 0 0) s m args below meth c H locs 0 0 Q (F0 m 2 ls []) := by
    intro k
    induction k with
    | zero =>
      intro i S H locs ls hi he hk
      exact absurd hk (Nat.not_lt_zero _)
    | succ k ih_2 =>
      intro i S H locs ls hi he hk hP hD hS hl
      refine lv_iload_n hx hb dX4_countByLength_2 rfl (lv_at hl 3 rfl) ?_
      refine lv_bipush (v := nI 60) hx hb dX4_countByLength_3 (by decide) ?_
      refine lv_icmp_ge (tgt := 21) hx hb dX4_countByLength_5 (by decide) (fun c5 => ?_) (fun c5 => ?_)
      · have c5 := (nI_leI (by omega) (by omega)).mp c5
        refine lv_iconst (v := nI 0) hx hb dX4_countByLength_21 (by decide) ?_
        refine lv_istore_n (lv' := [(3, .int (nI 0)), (0, .ref a0), (1, .ref b0), (2, .int (nI least))]) hx hb dX4_countByLength_22 rfl hl (by decide) rfl (fun ls hl => ?_)
        have lp_23 : ∀ (k : Nat) (i : Nat) (S : Nat → Int32) (H : Heap) (locs : List Loc) (ls : Array Slot), (i ≤ n) → (∀ m, m < 60 → S m = nI (ff_cn (ff_rl f n) least (ff_ar n i) m)) → (n - i < k) → va_P D vwCl [(a0, .inr (4, [.ref a1, .ref a2, .int z])), (a1, oI cI 2700 g), (a2, oI cI 60 S), (b0, .inr (0, [.ref b1, .int (nI n)])), (b1, oI cI 60 f)] H → va_D A [(a0, .inr (4, [.ref a1, .ref a2, .int z])), (a1, oI cI 2700 g), (a2, oI cI 60 S), (b0, .inr (0, [.ref b1, .int (nI n)])), (b1, oI cI 60 f)] → va_S A s.heap H locs → lv_has ls 6 [(0, .ref a0), (1, .ref b0), (2, .int (nI least)), (3, .int (nI i))] → W p l e (rr 2 0 0) s m args below meth c H locs 0 0 Q (F0 m 23 ls []) := by
          intro k
          induction k with
          | zero =>
            intro i S H locs ls hi he hk
            exact absurd hk (Nat.not_lt_zero _)
          | succ k ih_23 =>
            intro i S H locs ls hi he hk hP hD hS hl
            refine lv_iload_n hx hb dX4_countByLength_23 rfl (lv_at hl 3 rfl) ?_
            refine lv_aload_n hx hb dX4_countByLength_24 rfl (lv_at hl 1 rfl) ?_
            refine gf_X4_28 hx hb hg hown hK hP 3 rfl rfl dX4_countByLength_25 ?_
            refine lv_icmp_ge (tgt := 83) hx hb dX4_countByLength_28 (by decide) (fun c28 => ?_) (fun c28 => ?_)
            · have c28 := (nI_leI (by omega) (by omega)).mp c28
              obtain rfl : i = n := by omega
              exact hret _ _ 83 _ (_) (he) hP hD hS dX4_countByLength_83
            · have c28 := mt (nI_leI (by omega) (by omega)).mpr c28
              refine lv_iload_n hx hb dX4_countByLength_31 rfl (lv_at hl 3 rfl) ?_
              refine lv_iconst (v := nI 1) hx hb dX4_countByLength_32 (by decide) ?_
              refine lv_iadd hx hb dX4_countByLength_33 ?_
              refine lv_asi (nI_add _ _) ?_
              refine lv_istore (lv' := [(4, .int (nI (i + 1))), (0, .ref a0), (1, .ref b0), (2, .int (nI least)), (3, .int (nI i))]) hx hb dX4_countByLength_34 hl (by decide) rfl (fun ls hl => ?_)
              have lp_36 : ∀ (k : Nat) (j : Nat) (S : Nat → Int32) (H : Heap) (locs : List Loc) (ls : Array Slot), (i + 1 ≤ j) → (j ≤ n) → (∀ m, m < 60 → S m = nI (ff_cn (ff_rl f n) least (ff_pp n i j) m)) → (n - j < k) → va_P D vwCl [(a0, .inr (4, [.ref a1, .ref a2, .int z])), (a1, oI cI 2700 g), (a2, oI cI 60 S), (b0, .inr (0, [.ref b1, .int (nI n)])), (b1, oI cI 60 f)] H → va_D A [(a0, .inr (4, [.ref a1, .ref a2, .int z])), (a1, oI cI 2700 g), (a2, oI cI 60 S), (b0, .inr (0, [.ref b1, .int (nI n)])), (b1, oI cI 60 f)] → va_S A s.heap H locs → lv_has ls 6 [(0, .ref a0), (1, .ref b0), (2, .int (nI least)), (3, .int (nI i)), (4, .int (nI j))] → W p l e (rr 2 0 0) s m args below meth c H locs 0 0 Q (F0 m 36 ls []) := by
                intro k
                induction k with
                | zero =>
                  intro j S H locs ls hj1 hj he hk
                  exact absurd hk (Nat.not_lt_zero _)
                | succ k ih_36 =>
                  intro j S H locs ls hj1 hj he hk hP hD hS hl
                  refine lv_iload hx hb dX4_countByLength_36 (lv_at hl 4 rfl) ?_
                  refine lv_aload_n hx hb dX4_countByLength_38 rfl (lv_at hl 1 rfl) ?_
                  refine gf_X4_28 hx hb hg hown hK hP 3 rfl rfl dX4_countByLength_39 ?_
                  refine lv_icmp_ge (tgt := 77) hx hb dX4_countByLength_42 (by decide) (fun c42 => ?_) (fun c42 => ?_)
                  · have c42 := (nI_leI (by omega) (by omega)).mp c42
                    refine lv_iinc (v := nI (i + 1)) (lv' := [(3, .int (nI (i + 1))), (0, .ref a0), (1, .ref b0), (2, .int (nI least)), (4, .int (nI j))]) hx hb dX4_countByLength_77 hl (k := 3) rfl (nI_1 _) (by decide) rfl (fun ls hl => ?_)
                    refine lv_goto (tgt := 23) hx hb dX4_countByLength_80 (by decide) ?_
                    exact ih_23 (i + 1) (_) _ _ _ (by omega) (fun m hm => by rw [he m hm, show j = n by omega, ff_pp_n]) (by omega) hP hD hS (lv_sub hl [1, 2, 3, 0] rfl)
                  · have c42 := mt (nI_leI (by omega) (by omega)).mpr c42
                    refine lv_aload_n hx hb dX4_countByLength_45 rfl (lv_at hl 1 rfl) ?_
                    refine lv_iload_n hx hb dX4_countByLength_46 rfl (lv_at hl 3 rfl) ?_
                    refine lv_iload hx hb dX4_countByLength_47 (lv_at hl 4 rfl) ?_
                    refine Cp.callV (As := [.int (nI i), .int (nI j)]) (rest := []) (cv_X4_34 hg ⟨Nat.le_of_ble_eq_true rfl, Nat.le_of_ble_eq_true rfl⟩) (k_X0_repeatLength l D cI b0 b1 n f i j (by omega) (by omega) hn) cx hK hP [3, 4] rfl (rq := 0) rfl rfl rfl hS rfl hl.1 rfl (Nat.le_of_ble_eq_true rfl) dX4_countByLength_49 ⟨Nat.zero_le _, Nat.zero_le _⟩ (fun H locs hP hS => ?_)
                    have hrl := ff_rl_le f n i j
                    refine lv_istore (lv' := [(5, .int (nI (ff_rl f n i j))), (0, .ref a0), (1, .ref b0), (2, .int (nI least)), (3, .int (nI i)), (4, .int (nI j))]) hx hb dX4_countByLength_52 hl (by decide) rfl (fun ls hl => ?_)
                    refine lv_iload hx hb dX4_countByLength_54 (lv_at hl 0 rfl) ?_
                    refine lv_iload_n hx hb dX4_countByLength_56 rfl (lv_at hl 3 rfl) ?_
                    refine lv_icmp_lt (tgt := 71) hx hb dX4_countByLength_57 (by decide) (fun c57 => ?_) (fun c57 => ?_)
                    · have c57 := (nI_ltI (by omega) (by omega)).mp c57
                      refine lv_iinc (v := nI (j + 1)) (lv' := [(4, .int (nI (j + 1))), (5, .int (nI (ff_rl f n i j))), (0, .ref a0), (1, .ref b0), (2, .int (nI least)), (3, .int (nI i))]) hx hb dX4_countByLength_71 hl (k := 5) rfl (nI_1 _) (by decide) rfl (fun ls hl => ?_)
                      refine lv_goto (tgt := 36) hx hb dX4_countByLength_74 (by decide) ?_
                      exact ih_36 (j + 1) (_) _ _ _ (by omega) (by omega) (by first | exact ff_S_t (by omega) (by omega) he (by omega) | exact ff_S_f (by omega) he (by omega)) (by omega) hP hD hS (lv_sub hl [2, 3, 4, 5, 0] rfl)
                    · have c57 := mt (nI_ltI (by omega) (by omega)).mpr c57
                      refine lv_aload_n hx hb dX4_countByLength_60 rfl (lv_at hl 1 rfl) ?_
                      refine gf_X4_15 hx hb hg hown hK hP 0 rfl rfl dX4_countByLength_61 ?_
                      refine lv_iload hx hb dX4_countByLength_64 (lv_at hl 0 rfl) ?_
                      refine lv_dup2_11 hx hb dX4_countByLength_66 rfl rfl ?_
                      refine ald hx hb hK hP 2 rfl rfl (by omega) dX4_countByLength_67 ?_
                      refine lv_iconst (v := nI 1) hx hb dX4_countByLength_68 (by decide) ?_
                      refine lv_iadd hx hb dX4_countByLength_69 ?_
                      refine ast hx hb hK hP hD hS 2 rfl rfl (by omega) dX4_countByLength_70 (fun H locs hP hD hS => ?_)
                      have hP : va_P D vwCl [(a0, .inr (4, [.ref a1, .ref a2, .int z])), (a1, oI cI 2700 g), (a2, oI cI 60 (upd S (ff_rl f n i j) (((S (ff_rl f n i j)) + nI 1)))), (b0, .inr (0, [.ref b1, .int (nI n)])), (b1, oI cI 60 f)] H := hP
                      have hD : va_D A [(a0, .inr (4, [.ref a1, .ref a2, .int z])), (a1, oI cI 2700 g), (a2, oI cI 60 (upd S (ff_rl f n i j) (((S (ff_rl f n i j)) + nI 1)))), (b0, .inr (0, [.ref b1, .int (nI n)])), (b1, oI cI 60 f)] := hD
                      refine lv_iinc (v := nI (j + 1)) (lv' := [(4, .int (nI (j + 1))), (5, .int (nI (ff_rl f n i j))), (0, .ref a0), (1, .ref b0), (2, .int (nI least)), (3, .int (nI i))]) hx hb dX4_countByLength_71 hl (k := 5) rfl (nI_1 _) (by decide) rfl (fun ls hl => ?_)
                      refine lv_goto (tgt := 36) hx hb dX4_countByLength_74 (by decide) ?_
                      exact ih_36 (j + 1) (_) _ _ _ (by omega) (by omega) (by first | exact ff_S_t (by omega) (by omega) he (by omega) | exact ff_S_f (by omega) he (by omega)) (by omega) hP hD hS (lv_sub hl [2, 3, 4, 5, 0] rfl)
              exact lp_36 (_ + 1) (i + 1) (S) _ _ _ (Nat.le_refl _) (by omega) (fun m hm => by rw [he m hm, ff_pp_0]) (Nat.lt_succ_self _) hP hD hS (lv_sub hl [1, 2, 3, 4, 0] rfl)
        exact lp_23 (_ + 1) (0) (S) _ _ _ (Nat.zero_le _) (fun m hm => by rw [he m (by omega)]; unfold ff_cn; split <;> rfl) (Nat.lt_succ_self _) hP hD hS (lv_sub hl [1, 2, 3, 0] rfl)
      · have c5 := mt (nI_leI (by omega) (by omega)).mpr c5
        refine lv_aload_n hx hb dX4_countByLength_8 rfl (lv_at hl 0 rfl) ?_
        refine gf_X4_15 hx hb hg hown hK hP 0 rfl rfl dX4_countByLength_9 ?_
        refine lv_iload_n hx hb dX4_countByLength_12 rfl (lv_at hl 3 rfl) ?_
        refine lv_iconst (v := nI 0) hx hb dX4_countByLength_13 (by decide) ?_
        refine ast hx hb hK hP hD hS 2 rfl rfl (by omega) dX4_countByLength_14 (fun H locs hP hD hS => ?_)
        have hP : va_P D vwCl [(a0, .inr (4, [.ref a1, .ref a2, .int z])), (a1, oI cI 2700 g), (a2, oI cI 60 (upd S i (nI 0))), (b0, .inr (0, [.ref b1, .int (nI n)])), (b1, oI cI 60 f)] H := hP
        have hD : va_D A [(a0, .inr (4, [.ref a1, .ref a2, .int z])), (a1, oI cI 2700 g), (a2, oI cI 60 (upd S i (nI 0))), (b0, .inr (0, [.ref b1, .int (nI n)])), (b1, oI cI 60 f)] := hD
        refine lv_iinc (v := nI (i + 1)) (lv' := [(3, .int (nI (i + 1))), (0, .ref a0), (1, .ref b0), (2, .int (nI least))]) hx hb dX4_countByLength_15 hl (k := 3) rfl (nI_1 _) (by decide) rfl (fun ls hl => ?_)
        refine lv_goto (tgt := 2) hx hb dX4_countByLength_18 (by decide) ?_
        exact ih_2 (i + 1) (_) _ _ _ (by omega) (fun t ht => by by_cases h : t = i <;> first | (subst h; exact pk_us) | (rw [pk_un h]; exact he t (by omega))) (by omega) hP hD hS (lv_sub hl [1, 2, 3, 0] rfl)
  exact lp_2 (_ + 1) (0) (sl) _ _ _ (Nat.zero_le _) (fun t h => absurd h (Nat.not_lt_zero _)) (Nat.lt_succ_self _) hP hD hS (lv_sub hl [1, 2, 3, 0] rfl)

set_option maxHeartbeats 4000000 in
set_option maxRecDepth 100000 in
theorem k_X4_give (l : Launch) (D : va_G) (cI : ClassId) (a0 a1 a2 : Nat) (z : Int32) (g sl : Nat → Int32) (cq : Nat → Nat) (hc : ∀ m, m < 60 → sl m = nI (cq m)) : Cv l yX4_giveSlotsLongestFirst cX4_giveSlotsLongestFirst 3 0 0 0 D (tI cI) [.ref a0] [(a0, .inr (4, [.ref a1, .ref a2, .int z])), (a1, oI cI 2700 g), (a2, oI cI 60 sl)] (S := Nat → Int32) (fun u => ∀ m, 1 ≤ m → m < 60 → u m = nI (ff_G cq m)) (fun u => [(a0, .inr (4, [.ref a1, .ref a2, .int (nI (ff_G cq 0))])), (a1, oI cI 2700 g), (a2, oI cI 60 u)]) := by
  refine Cv.of (own := RX4) (lv := [(0, .ref a0)]) (by decide +kernel) rfl (Nat.le_of_ble_eq_true rfl) rfl ?_
  intro p e s m args below meth c Q A cx hin hK hP hD hA hret ls hl
  obtain ⟨hx, hb, hml, hown, hg⟩ := id cx
  have hS : va_S A s.heap s.heap [] := va_S.rf
  refine lv_aload_n hx hb dX4_giveSlotsLongestFirst_0 rfl (lv_at hl 0 rfl) ?_
  refine lv_iconst (v := nI 0) hx hb dX4_giveSlotsLongestFirst_1 (by decide) ?_
  refine pf_X4_38 hx hb hg hown hK hP hD hS 0 rfl (Nat.le_of_ble_eq_true rfl) dX4_giveSlotsLongestFirst_2 (fun H locs hP hD hS => ?_)
  have hP : va_P D vwCl [(a0, .inr (4, [.ref a1, .ref a2, .int (nI 0)])), (a1, oI cI 2700 g), (a2, oI cI 60 sl)] H := hP
  have hD : va_D A [(a0, .inr (4, [.ref a1, .ref a2, .int (nI 0)])), (a1, oI cI 2700 g), (a2, oI cI 60 sl)] := hD
  refine lv_bipush (v := nI 59) hx hb dX4_giveSlotsLongestFirst_5 (by decide) ?_
  refine lv_istore_n (lv' := [(1, .int (nI 59)), (0, .ref a0)]) hx hb dX4_giveSlotsLongestFirst_7 rfl hl (by decide) rfl (fun ls hl => ?_)
  have lp_8 : ∀ (k : Nat) (q : Nat) (S : Nat → Int32) (H : Heap) (locs : List Loc) (ls : Array Slot), (q ≤ 59) → (∀ m, m ≤ q → S m = nI (cq m)) → (∀ m, q < m → m < 60 → S m = nI (ff_G cq m)) → (q < k) → va_P D vwCl [(a0, .inr (4, [.ref a1, .ref a2, .int (nI (ff_G cq q))])), (a1, oI cI 2700 g), (a2, oI cI 60 S)] H → va_D A [(a0, .inr (4, [.ref a1, .ref a2, .int (nI (ff_G cq q))])), (a1, oI cI 2700 g), (a2, oI cI 60 S)] → va_S A s.heap H locs → lv_has ls 3 [(0, .ref a0), (1, .int (nI q))] → W p l e (rr 0 0 0) s m args below meth c H locs 0 0 Q (F0 m 8 ls []) := by
    intro k
    induction k with
    | zero =>
      intro q S H locs ls hq h1 h2 hk
      exact absurd hk (Nat.not_lt_zero _)
    | succ k ih_8 =>
      intro q S H locs ls hq h1 h2 hk hP hD hS hl
      refine lv_iload_n hx hb dX4_giveSlotsLongestFirst_8 rfl (lv_at hl 1 rfl) ?_
      refine lv_if_le (tgt := 45) hx hb dX4_giveSlotsLongestFirst_9 (by decide) (fun c9 => ?_) (fun c9 => ?_)
      · have c9 := (nz_le (by omega)).mp c9
        obtain rfl : q = 0 := by omega
        exact hret _ _ 45 _ (_) (fun m h3 h4 => h2 m (by omega) h4) hP hD hS dX4_giveSlotsLongestFirst_45
      · have c9 := mt (nz_le (by omega)).mpr c9
        refine lv_aload_n hx hb dX4_giveSlotsLongestFirst_12 rfl (lv_at hl 0 rfl) ?_
        refine gf_X4_15 hx hb hg hown hK hP 0 rfl rfl dX4_giveSlotsLongestFirst_13 ?_
        refine lv_iload_n hx hb dX4_giveSlotsLongestFirst_16 rfl (lv_at hl 1 rfl) ?_
        refine ald hx hb hK hP 2 rfl rfl (by omega) dX4_giveSlotsLongestFirst_17 ?_
        refine lv_asi (y := nI (cq q)) (h1 q (Nat.le_refl _)) ?_
        refine lv_istore_n (lv' := [(2, .int (nI (cq q))), (0, .ref a0), (1, .int (nI q))]) hx hb dX4_giveSlotsLongestFirst_18 rfl hl (by decide) rfl (fun ls hl => ?_)
        refine lv_aload_n hx hb dX4_giveSlotsLongestFirst_19 rfl (lv_at hl 1 rfl) ?_
        refine gf_X4_15 hx hb hg hown hK hP 0 rfl rfl dX4_giveSlotsLongestFirst_20 ?_
        refine lv_iload_n hx hb dX4_giveSlotsLongestFirst_23 rfl (lv_at hl 2 rfl) ?_
        refine lv_aload_n hx hb dX4_giveSlotsLongestFirst_24 rfl (lv_at hl 1 rfl) ?_
        refine gf_X4_38 hx hb hg hown hK hP 0 rfl rfl dX4_giveSlotsLongestFirst_25 ?_
        refine ast hx hb hK hP hD hS 2 rfl rfl (by omega) dX4_giveSlotsLongestFirst_28 (fun H locs hP hD hS => ?_)
        have hP : va_P D vwCl [(a0, .inr (4, [.ref a1, .ref a2, .int (nI (ff_G cq q))])), (a1, oI cI 2700 g), (a2, oI cI 60 (upd S q (nI (ff_G cq q))))] H := hP
        have hD : va_D A [(a0, .inr (4, [.ref a1, .ref a2, .int (nI (ff_G cq q))])), (a1, oI cI 2700 g), (a2, oI cI 60 (upd S q (nI (ff_G cq q))))] := hD
        refine lv_aload_n hx hb dX4_giveSlotsLongestFirst_29 rfl (lv_at hl 1 rfl) ?_
        refine lv_dup hx hb dX4_giveSlotsLongestFirst_30 rfl ?_
        refine gf_X4_38 hx hb hg hown hK hP 0 rfl rfl dX4_giveSlotsLongestFirst_31 ?_
        refine lv_iload_n hx hb dX4_giveSlotsLongestFirst_34 rfl (lv_at hl 0 rfl) ?_
        refine lv_iadd hx hb dX4_giveSlotsLongestFirst_35 ?_
        refine lv_asi (nI_add _ _) ?_
        refine pf_X4_38 hx hb hg hown hK hP hD hS 0 rfl (Nat.le_of_ble_eq_true rfl) dX4_giveSlotsLongestFirst_36 (fun H locs hP hD hS => ?_)
        have hP : va_P D vwCl [(a0, .inr (4, [.ref a1, .ref a2, .int (nI (ff_G cq q + (cq q)))])), (a1, oI cI 2700 g), (a2, oI cI 60 (upd S q (nI (ff_G cq q))))] H := hP
        have hD : va_D A [(a0, .inr (4, [.ref a1, .ref a2, .int (nI (ff_G cq q + (cq q)))])), (a1, oI cI 2700 g), (a2, oI cI 60 (upd S q (nI (ff_G cq q))))] := hD
        refine lv_iinc (v := nI (q - 1)) (lv' := [(1, .int (nI (q - 1))), (2, .int (nI (cq q))), (0, .ref a0)]) hx hb dX4_giveSlotsLongestFirst_39 hl (k := 2) rfl (sb_m1 (by omega)) (by decide) rfl (fun ls hl => ?_)
        refine lv_goto (tgt := 8) hx hb dX4_giveSlotsLongestFirst_42 (by decide) ?_
        rw [show ff_G cq q + cq q = ff_G cq (q - 1) from (ff_G_s (by omega) (by omega)).symm] at hP hD
        exact ih_8 (q - 1) (_) _ _ _ (by omega) (fun m hm => by rw [pk_un (by omega)]; exact h1 m (by omega)) (fun m h3 h4 => by by_cases h : m = q <;> first | (subst h; exact pk_us) | (rw [pk_un h]; exact h2 m (by omega) h4)) (by omega) hP hD hS (lv_sub hl [2, 0] rfl)
  exact lp_8 (_ + 1) (59) (sl) _ _ _ (Nat.le_refl _) (fun m hm => hc m (by omega)) (fun m h1 h2 => absurd h1 (by omega)) (Nat.lt_succ_self _) hP hD hS (lv_sub hl [1, 0] rfl)

set_option maxHeartbeats 4000000 in
set_option maxRecDepth 100000 in
theorem k_X4_putInSlots (l : Launch) (D : va_G) (cI : ClassId) (a0 a1 a2 : Nat) (z : Int32) (g sl : Nat → Int32) (b0 b1 n : Nat) (f : Nat → Int32) (least : Nat) (h1 : 1 ≤ least) (h2 : least ≤ 60) (hn : n ≤ 60) (hsl : ∀ m, 1 ≤ m → m < 60 → sl m = nI ((ff_G (ff_cn (ff_rl f n) least (ff_ar n n))) m)) : Cv l yX4_putInSlots cX4_putInSlots 6 2 0 0 D (tI cI) [.ref a0, .ref b0, .int (nI least)] [(a0, .inr (4, [.ref a1, .ref a2, .int z])), (a1, oI cI 2700 g), (a2, oI cI 60 sl), (b0, .inr (0, [.ref b1, .int (nI n)])), (b1, oI cI 60 f)] (S := (Nat → Int32) × (Nat → Int32)) (fun u => ff_rowsP (ff_rl f n) least (ff_G (ff_cn (ff_rl f n) least (ff_ar n n))) (ff_ar n n) u.1) (fun u => [(a0, .inr (4, [.ref a1, .ref a2, .int z])), (a1, oI cI 2700 (u.1)), (a2, oI cI 60 (u.2)), (b0, .inr (0, [.ref b1, .int (nI n)])), (b1, oI cI 60 f)]) := by
  refine Cv.of (own := RX4) (lv := [(0, .ref a0), (1, .ref b0), (2, .int (nI least))]) (by decide +kernel) rfl (Nat.le_of_ble_eq_true rfl) rfl ?_
  intro p e s m args below meth c Q A cx hin hK hP hD hA hret ls hl
  obtain ⟨hx, hb, hml, hown, hg⟩ := id cx
  have hS : va_S A s.heap s.heap [] := va_S.rf
  refine lv_iconst (v := nI 0) hx hb dX4_putInSlots_0 (by decide) ?_
  refine lv_istore_n (lv' := [(3, .int (nI 0)), (0, .ref a0), (1, .ref b0), (2, .int (nI least))]) hx hb dX4_putInSlots_1 rfl hl (by decide) rfl (fun ls hl => ?_)
  have lp_2 : ∀ (k : Nat) (i : Nat) (g9 : Nat → Int32) (S : Nat → Int32) (H : Heap) (locs : List Loc) (ls : Array Slot), (i ≤ n) → (∀ m, least ≤ m → m < 60 → S m = nI ((ff_G (ff_cn (ff_rl f n) least (ff_ar n n))) m + (ff_F (ff_rl f n) m (ff_ar n i)).length)) → (ff_rowsP (ff_rl f n) least (ff_G (ff_cn (ff_rl f n) least (ff_ar n n))) (ff_ar n i) g9) → (n - i < k) → va_P D vwCl [(a0, .inr (4, [.ref a1, .ref a2, .int z])), (a1, oI cI 2700 g9), (a2, oI cI 60 S), (b0, .inr (0, [.ref b1, .int (nI n)])), (b1, oI cI 60 f)] H → va_D A [(a0, .inr (4, [.ref a1, .ref a2, .int z])), (a1, oI cI 2700 g9), (a2, oI cI 60 S), (b0, .inr (0, [.ref b1, .int (nI n)])), (b1, oI cI 60 f)] → va_S A s.heap H locs → lv_has ls 6 [(0, .ref a0), (1, .ref b0), (2, .int (nI least)), (3, .int (nI i))] → W p l e (rr 2 0 0) s m args below meth c H locs 0 0 Q (F0 m 2 ls []) := by
    intro k
    induction k with
    | zero =>
      intro i g9 S H locs ls hi hs hr hk
      exact absurd hk (Nat.not_lt_zero _)
    | succ k ih_2 =>
      intro i g9 S H locs ls hi hs hr hk hP hD hS hl
      refine lv_iload_n hx hb dX4_putInSlots_2 rfl (lv_at hl 3 rfl) ?_
      refine lv_aload_n hx hb dX4_putInSlots_3 rfl (lv_at hl 1 rfl) ?_
      refine gf_X4_28 hx hb hg hown hK hP 3 rfl rfl dX4_putInSlots_4 ?_
      refine lv_icmp_ge (tgt := 78) hx hb dX4_putInSlots_7 (by decide) (fun c7 => ?_) (fun c7 => ?_)
      · have c7 := (nI_leI (by omega) (by omega)).mp c7
        obtain rfl : i = n := by omega
        exact hret _ _ 78 _ ((_, _)) (hr) hP hD hS dX4_putInSlots_78
      · have c7 := mt (nI_leI (by omega) (by omega)).mpr c7
        refine lv_iload_n hx hb dX4_putInSlots_10 rfl (lv_at hl 3 rfl) ?_
        refine lv_iconst (v := nI 1) hx hb dX4_putInSlots_11 (by decide) ?_
        refine lv_iadd hx hb dX4_putInSlots_12 ?_
        refine lv_asi (nI_add _ _) ?_
        refine lv_istore (lv' := [(4, .int (nI (i + 1))), (0, .ref a0), (1, .ref b0), (2, .int (nI least)), (3, .int (nI i))]) hx hb dX4_putInSlots_13 hl (by decide) rfl (fun ls hl => ?_)
        have lp_15 : ∀ (k : Nat) (j : Nat) (g9 : Nat → Int32) (S : Nat → Int32) (H : Heap) (locs : List Loc) (ls : Array Slot), (i + 1 ≤ j) → (j ≤ n) → (∀ m, least ≤ m → m < 60 → S m = nI ((ff_G (ff_cn (ff_rl f n) least (ff_ar n n))) m + (ff_F (ff_rl f n) m (ff_pp n i j)).length)) → (ff_rowsP (ff_rl f n) least (ff_G (ff_cn (ff_rl f n) least (ff_ar n n))) (ff_pp n i j) g9) → (n - j < k) → va_P D vwCl [(a0, .inr (4, [.ref a1, .ref a2, .int z])), (a1, oI cI 2700 g9), (a2, oI cI 60 S), (b0, .inr (0, [.ref b1, .int (nI n)])), (b1, oI cI 60 f)] H → va_D A [(a0, .inr (4, [.ref a1, .ref a2, .int z])), (a1, oI cI 2700 g9), (a2, oI cI 60 S), (b0, .inr (0, [.ref b1, .int (nI n)])), (b1, oI cI 60 f)] → va_S A s.heap H locs → lv_has ls 6 [(0, .ref a0), (1, .ref b0), (2, .int (nI least)), (3, .int (nI i)), (4, .int (nI j))] → W p l e (rr 2 0 0) s m args below meth c H locs 0 0 Q (F0 m 15 ls []) := by
          intro k
          induction k with
          | zero =>
            intro j g9 S H locs ls hj1 hj hs hr hk
            exact absurd hk (Nat.not_lt_zero _)
          | succ k ih_15 =>
            intro j g9 S H locs ls hj1 hj hs hr hk hP hD hS hl
            refine lv_iload hx hb dX4_putInSlots_15 (lv_at hl 4 rfl) ?_
            refine lv_aload_n hx hb dX4_putInSlots_17 rfl (lv_at hl 1 rfl) ?_
            refine gf_X4_28 hx hb hg hown hK hP 3 rfl rfl dX4_putInSlots_18 ?_
            refine lv_icmp_ge (tgt := 72) hx hb dX4_putInSlots_21 (by decide) (fun c21 => ?_) (fun c21 => ?_)
            · have c21 := (nI_leI (by omega) (by omega)).mp c21
              refine lv_iinc (v := nI (i + 1)) (lv' := [(3, .int (nI (i + 1))), (0, .ref a0), (1, .ref b0), (2, .int (nI least)), (4, .int (nI j))]) hx hb dX4_putInSlots_72 hl (k := 3) rfl (nI_1 _) (by decide) rfl (fun ls hl => ?_)
              refine lv_goto (tgt := 2) hx hb dX4_putInSlots_75 (by decide) ?_
              exact ih_2 (i + 1) (_) (_) _ _ _ (by omega) (fun m h3 h4 => by rw [hs m h3 h4, show j = n by omega, ff_pp_n]) (by rw [show j = n by omega, ff_pp_n] at hr; exact hr) (by omega) hP hD hS (lv_sub hl [1, 2, 3, 0] rfl)
            · have c21 := mt (nI_leI (by omega) (by omega)).mpr c21
              refine lv_aload_n hx hb dX4_putInSlots_24 rfl (lv_at hl 1 rfl) ?_
              refine lv_iload_n hx hb dX4_putInSlots_25 rfl (lv_at hl 3 rfl) ?_
              refine lv_iload hx hb dX4_putInSlots_26 (lv_at hl 4 rfl) ?_
              refine Cp.callV (As := [.int (nI i), .int (nI j)]) (rest := []) (cv_X4_34 hg ⟨Nat.le_of_ble_eq_true rfl, Nat.le_of_ble_eq_true rfl⟩) (k_X0_repeatLength l D cI b0 b1 n f i j (by omega) (by omega) hn) cx hK hP [3, 4] rfl (rq := 0) rfl rfl rfl hS rfl hl.1 rfl (Nat.le_of_ble_eq_true rfl) dX4_putInSlots_28 ⟨Nat.zero_le _, Nat.zero_le _⟩ (fun H locs hP hS => ?_)
              have hrl := ff_rl_le f n i j
              refine lv_istore (lv' := [(5, .int (nI (ff_rl f n i j))), (0, .ref a0), (1, .ref b0), (2, .int (nI least)), (3, .int (nI i)), (4, .int (nI j))]) hx hb dX4_putInSlots_31 hl (by decide) rfl (fun ls hl => ?_)
              refine lv_iload hx hb dX4_putInSlots_33 (lv_at hl 0 rfl) ?_
              refine lv_iload_n hx hb dX4_putInSlots_35 rfl (lv_at hl 3 rfl) ?_
              refine lv_icmp_lt (tgt := 66) hx hb dX4_putInSlots_36 (by decide) (fun c36 => ?_) (fun c36 => ?_)
              · have c36 := (nI_ltI (by omega) (by omega)).mp c36
                refine lv_iinc (v := nI (j + 1)) (lv' := [(4, .int (nI (j + 1))), (5, .int (nI (ff_rl f n i j))), (0, .ref a0), (1, .ref b0), (2, .int (nI least)), (3, .int (nI i))]) hx hb dX4_putInSlots_66 hl (k := 5) rfl (nI_1 _) (by decide) rfl (fun ls hl => ?_)
                refine lv_goto (tgt := 15) hx hb dX4_putInSlots_69 (by decide) ?_
                exact ih_15 (j + 1) (_) (_) _ _ _ (by omega) (by omega) (by first | exact ff_P_t (by omega) (by omega) hs | exact ff_P_f (by omega) hs c36) (by first | (rw [ff_pp_s (by omega)]; exact ff_rowsP_t hall hr c36 (by omega) _ rfl) | (rw [ff_pp_s (by omega)]; exact ff_rowsP_f hr (by omega))) (by omega) hP hD hS (lv_sub hl [2, 3, 4, 5, 0] rfl)
              · have c36 := mt (nI_ltI (by omega) (by omega)).mpr c36
                have c36 : least ≤ ff_rl f n i j := by omega
                obtain ⟨rest9, hall⟩ := ff_pp_pre (n := n) (i := i) (j := j + 1) (by omega) (by omega)
                rw [ff_pp_s (by omega)] at hall
                have h900 := ff_tot_900 f least hn
                have hlt9 := ff_place_lt (r := ff_rl f n) hall c36 (by omega)
                refine lv_aload_n hx hb dX4_putInSlots_39 rfl (lv_at hl 1 rfl) ?_
                refine lv_aload_n hx hb dX4_putInSlots_40 rfl (lv_at hl 1 rfl) ?_
                refine gf_X4_15 hx hb hg hown hK hP 0 rfl rfl dX4_putInSlots_41 ?_
                refine lv_iload hx hb dX4_putInSlots_44 (lv_at hl 0 rfl) ?_
                refine ald hx hb hK hP 2 rfl rfl (by omega) dX4_putInSlots_46 ?_
                refine lv_asi (y := nI ((ff_G (ff_cn (ff_rl f n) least (ff_ar n n))) (ff_rl f n i j) + (ff_F (ff_rl f n) (ff_rl f n i j) (ff_pp n i j)).length)) (hs _ c36 (by omega)) ?_
                refine lv_iload_n hx hb dX4_putInSlots_47 rfl (lv_at hl 4 rfl) ?_
                refine lv_iload hx hb dX4_putInSlots_48 (lv_at hl 5 rfl) ?_
                refine lv_iload hx hb dX4_putInSlots_50 (lv_at hl 0 rfl) ?_
                refine Cv.callV (As := [.int (nI ((ff_G (ff_cn (ff_rl f n) least (ff_ar n n))) (ff_rl f n i j) + (ff_F (ff_rl f n) (ff_rl f n i j) (ff_pp n i j)).length)), .int (nI i), .int (nI j), .int (nI (ff_rl f n i j))]) (rest := []) (wr := [(b0, .inr (0, [.ref b1, .int (nI n)])), (b1, oI cI 60 f)]) (wn := (fun u52 => [(a0, .inr (4, [.ref a1, .ref a2, .int z])), (a1, oI cI 2700 (upd (upd (upd g9 (3 * ((ff_G (ff_cn (ff_rl f n) least (ff_ar n n))) (ff_rl f n i j) + (ff_F (ff_rl f n) (ff_rl f n i j) (ff_pp n i j)).length)) (nI i)) (3 * ((ff_G (ff_cn (ff_rl f n) least (ff_ar n n))) (ff_rl f n i j) + (ff_F (ff_rl f n) (ff_rl f n i j) (ff_pp n i j)).length) + 1) (nI j)) (3 * ((ff_G (ff_cn (ff_rl f n) least (ff_ar n n))) (ff_rl f n i j) + (ff_F (ff_rl f n) (ff_rl f n i j) (ff_pp n i j)).length) + 2) (nI (ff_rl f n i j)))), (a2, oI cI 60 S), (b0, .inr (0, [.ref b1, .int (nI n)])), (b1, oI cI 60 f)])) (cv_X4_39 hg ⟨Nat.le_of_ble_eq_true rfl, Nat.le_of_ble_eq_true rfl⟩) (k_X4_put l D cI a0 a1 a2 z g9 S ((ff_G (ff_cn (ff_rl f n) least (ff_ar n n))) (ff_rl f n i j) + (ff_F (ff_rl f n) (ff_rl f n i j) (ff_pp n i j)).length) (nI i) (nI j) (nI (ff_rl f n i j)) (by omega)) cx hK hP hD hA [0, 1, 2] [3, 4] [2, 3, 4, 0, 1] rfl rfl (by decide) (fun _ => rfl) (rq := 0) rfl rfl rfl hS rfl hl.1 rfl (Nat.le_of_ble_eq_true rfl) dX4_putInSlots_52 ⟨Nat.le_refl _, Nat.le_refl _⟩ (fun H locs u52 p52 hP hD hS => ?_)
                refine lv_aload_n hx hb dX4_putInSlots_55 rfl (lv_at hl 1 rfl) ?_
                refine gf_X4_15 hx hb hg hown hK hP 0 rfl rfl dX4_putInSlots_56 ?_
                refine lv_iload hx hb dX4_putInSlots_59 (lv_at hl 0 rfl) ?_
                refine lv_dup2_11 hx hb dX4_putInSlots_61 rfl rfl ?_
                refine ald hx hb hK hP 2 rfl rfl (by omega) dX4_putInSlots_62 ?_
                refine lv_asi (y := nI ((ff_G (ff_cn (ff_rl f n) least (ff_ar n n))) (ff_rl f n i j) + (ff_F (ff_rl f n) (ff_rl f n i j) (ff_pp n i j)).length)) (hs _ c36 (by omega)) ?_
                refine lv_iconst (v := nI 1) hx hb dX4_putInSlots_63 (by decide) ?_
                refine lv_iadd hx hb dX4_putInSlots_64 ?_
                refine lv_asi (nI_add _ _) ?_
                refine ast hx hb hK hP hD hS 2 rfl rfl (by omega) dX4_putInSlots_65 (fun H locs hP hD hS => ?_)
                have hP : va_P D vwCl [(a0, .inr (4, [.ref a1, .ref a2, .int z])), (a1, oI cI 2700 (upd (upd (upd g9 (3 * ((ff_G (ff_cn (ff_rl f n) least (ff_ar n n))) (ff_rl f n i j) + (ff_F (ff_rl f n) (ff_rl f n i j) (ff_pp n i j)).length)) (nI i)) (3 * ((ff_G (ff_cn (ff_rl f n) least (ff_ar n n))) (ff_rl f n i j) + (ff_F (ff_rl f n) (ff_rl f n i j) (ff_pp n i j)).length) + 1) (nI j)) (3 * ((ff_G (ff_cn (ff_rl f n) least (ff_ar n n))) (ff_rl f n i j) + (ff_F (ff_rl f n) (ff_rl f n i j) (ff_pp n i j)).length) + 2) (nI (ff_rl f n i j)))), (a2, oI cI 60 (upd S (ff_rl f n i j) (nI ((ff_G (ff_cn (ff_rl f n) least (ff_ar n n))) (ff_rl f n i j) + (ff_F (ff_rl f n) (ff_rl f n i j) (ff_pp n i j)).length + 1)))), (b0, .inr (0, [.ref b1, .int (nI n)])), (b1, oI cI 60 f)] H := hP
                have hD : va_D A [(a0, .inr (4, [.ref a1, .ref a2, .int z])), (a1, oI cI 2700 (upd (upd (upd g9 (3 * ((ff_G (ff_cn (ff_rl f n) least (ff_ar n n))) (ff_rl f n i j) + (ff_F (ff_rl f n) (ff_rl f n i j) (ff_pp n i j)).length)) (nI i)) (3 * ((ff_G (ff_cn (ff_rl f n) least (ff_ar n n))) (ff_rl f n i j) + (ff_F (ff_rl f n) (ff_rl f n i j) (ff_pp n i j)).length) + 1) (nI j)) (3 * ((ff_G (ff_cn (ff_rl f n) least (ff_ar n n))) (ff_rl f n i j) + (ff_F (ff_rl f n) (ff_rl f n i j) (ff_pp n i j)).length) + 2) (nI (ff_rl f n i j)))), (a2, oI cI 60 (upd S (ff_rl f n i j) (nI ((ff_G (ff_cn (ff_rl f n) least (ff_ar n n))) (ff_rl f n i j) + (ff_F (ff_rl f n) (ff_rl f n i j) (ff_pp n i j)).length + 1)))), (b0, .inr (0, [.ref b1, .int (nI n)])), (b1, oI cI 60 f)] := hD
                refine lv_iinc (v := nI (j + 1)) (lv' := [(4, .int (nI (j + 1))), (5, .int (nI (ff_rl f n i j))), (0, .ref a0), (1, .ref b0), (2, .int (nI least)), (3, .int (nI i))]) hx hb dX4_putInSlots_66 hl (k := 5) rfl (nI_1 _) (by decide) rfl (fun ls hl => ?_)
                refine lv_goto (tgt := 15) hx hb dX4_putInSlots_69 (by decide) ?_
                exact ih_15 (j + 1) (_) (_) _ _ _ (by omega) (by omega) (by first | exact ff_P_t (by omega) (by omega) hs | exact ff_P_f (by omega) hs c36) (by first | (rw [ff_pp_s (by omega)]; exact ff_rowsP_t hall hr c36 (by omega) _ rfl) | (rw [ff_pp_s (by omega)]; exact ff_rowsP_f hr (by omega))) (by omega) hP hD hS (lv_sub hl [2, 3, 4, 5, 0] rfl)
        exact lp_15 (_ + 1) (i + 1) (g9) (S) _ _ _ (Nat.le_refl _) (by omega) (fun m h3 h4 => by rw [hs m h3 h4, ff_pp_0]) (by rw [ff_pp_0]; exact hr) (Nat.lt_succ_self _) hP hD hS (lv_sub hl [1, 2, 3, 4, 0] rfl)
  exact lp_2 (_ + 1) (0) (g) (sl) _ _ _ (Nat.zero_le _) (fun m h3 h4 => hsl m (by omega) h4) (fun m h3 h4 t q hq => by simp [ff_ar, ff_F] at hq) (Nat.lt_succ_self _) hP hD hS (lv_sub hl [1, 2, 3, 0] rfl)

set_option maxHeartbeats 4000000 in
set_option maxRecDepth 100000 in
theorem k_X4_gather (l : Launch) (D : va_G) (cI : ClassId) (a0 a1 a2 : Nat) (z : Int32) (g sl : Nat → Int32) (b0 b1 n : Nat) (f : Nat → Int32) (least : Nat) (h1 : 1 ≤ least) (h2 : least ≤ 60) (hn : n ≤ 60) : Cv l yX4_gather cX4_gather 3 3 0 0 D (tI cI) [.ref a0, .ref b0, .int (nI least)] [(a0, .inr (4, [.ref a1, .ref a2, .int z])), (a1, oI cI 2700 g), (a2, oI cI 60 sl), (b0, .inr (0, [.ref b1, .int (nI n)])), (b1, oI cI 60 f)] (S := (Nat → Int32) × (Nat → Int32)) (fun u => ff_rowsP (ff_rl f n) least (ff_G (ff_cn (ff_rl f n) least (ff_ar n n))) (ff_ar n n) u.1) (fun u => [(a0, .inr (4, [.ref a1, .ref a2, .int (nI ((ff_G (ff_cn (ff_rl f n) least (ff_ar n n))) 0))])), (a1, oI cI 2700 (u.1)), (a2, oI cI 60 (u.2)), (b0, .inr (0, [.ref b1, .int (nI n)])), (b1, oI cI 60 f)]) := by
  refine Cv.of (own := RX4) (lv := [(0, .ref a0), (1, .ref b0), (2, .int (nI least))]) (by decide +kernel) rfl (Nat.le_of_ble_eq_true rfl) rfl ?_
  intro p e s m args below meth c Q A cx hin hK hP hD hA hret ls hl
  obtain ⟨hx, hb, hml, hown, hg⟩ := id cx
  have hS : va_S A s.heap s.heap [] := va_S.rf
  refine lv_aload_n hx hb dX4_gather_0 rfl (lv_at hl 0 rfl) ?_
  refine lv_aload_n hx hb dX4_gather_1 rfl (lv_at hl 1 rfl) ?_
  refine lv_iload_n hx hb dX4_gather_2 rfl (lv_at hl 2 rfl) ?_
  refine Cv.callV (As := [.ref b0, .int (nI least)]) (rest := []) (wr := []) (wn := (fun ua => [(a0, .inr (4, [.ref a1, .ref a2, .int z])), (a1, oI cI 2700 g), (a2, oI cI 60 ua), (b0, .inr (0, [.ref b1, .int (nI n)])), (b1, oI cI 60 f)])) (cv_X4_18 hg ⟨Nat.le_of_ble_eq_true rfl, Nat.le_of_ble_eq_true rfl⟩) (k_X4_countByLength l D cI a0 a1 a2 z g sl b0 b1 n f least h1 h2 hn) cx hK hP hD hA [0, 1, 2, 3, 4] [] [0, 1, 2, 3, 4] rfl rfl (by decide) (fun _ => rfl) (rq := 0) rfl rfl rfl hS rfl hl.1 rfl (Nat.le_of_ble_eq_true rfl) dX4_gather_3 ⟨Nat.le_refl _, Nat.le_refl _⟩ (fun H locs ua p3 hP hD hS => ?_)
  refine lv_aload_n hx hb dX4_gather_6 rfl (lv_at hl 0 rfl) ?_
  refine Cv.callV (As := []) (rest := []) (wr := [(b0, .inr (0, [.ref b1, .int (nI n)])), (b1, oI cI 60 f)]) (wn := (fun ub => [(a0, .inr (4, [.ref a1, .ref a2, .int (nI ((ff_G (ff_cn (ff_rl f n) least (ff_ar n n))) 0))])), (a1, oI cI 2700 g), (a2, oI cI 60 ub), (b0, .inr (0, [.ref b1, .int (nI n)])), (b1, oI cI 60 f)])) (cv_X4_22 hg ⟨Nat.le_of_ble_eq_true rfl, Nat.le_of_ble_eq_true rfl⟩) (k_X4_give l D cI a0 a1 a2 z g ua _ p3) cx hK hP hD hA [0, 1, 2] [3, 4] [2, 3, 4, 0, 1] rfl rfl (by decide) (fun _ => rfl) (rq := 0) rfl rfl rfl hS rfl hl.1 rfl (Nat.le_of_ble_eq_true rfl) dX4_gather_7 ⟨Nat.le_refl _, Nat.le_refl _⟩ (fun H locs ub p7 hP hD hS => ?_)
  refine lv_aload_n hx hb dX4_gather_10 rfl (lv_at hl 0 rfl) ?_
  refine lv_aload_n hx hb dX4_gather_11 rfl (lv_at hl 1 rfl) ?_
  refine lv_iload_n hx hb dX4_gather_12 rfl (lv_at hl 2 rfl) ?_
  refine Cv.callV (As := [.ref b0, .int (nI least)]) (rest := []) (wr := []) (wn := (fun uc => [(a0, .inr (4, [.ref a1, .ref a2, .int (nI ((ff_G (ff_cn (ff_rl f n) least (ff_ar n n))) 0))])), (a1, oI cI 2700 (uc.1)), (a2, oI cI 60 (uc.2)), (b0, .inr (0, [.ref b1, .int (nI n)])), (b1, oI cI 60 f)])) (cv_X4_25 hg ⟨Nat.le_of_ble_eq_true rfl, Nat.le_of_ble_eq_true rfl⟩) (k_X4_putInSlots l D cI a0 a1 a2 (nI ((ff_G (ff_cn (ff_rl f n) least (ff_ar n n))) 0)) g ub b0 b1 n f least h1 h2 hn p7) cx hK hP hD hA [0, 1, 2, 3, 4] [] [0, 1, 2, 3, 4] rfl rfl (by decide) (fun _ => rfl) (rq := 0) rfl rfl rfl hS rfl hl.1 rfl (Nat.le_of_ble_eq_true rfl) dX4_gather_13 ⟨Nat.le_refl _, Nat.le_refl _⟩ (fun H locs uc p13 hP hD hS => ?_)
  exact hret _ _ 16 _ (uc) (p13) hP hD hS dX4_gather_16
