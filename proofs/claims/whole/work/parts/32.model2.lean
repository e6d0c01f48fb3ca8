theorem ff_an_t {f : Nat → Int32} {c q j i : Nat} (h : ¬ ff_any (fun t => decide (q ≤ ff_run f t j (c - j))) i = true) (h2 : ¬ q ≤ ff_run f i j (c - j)) : ¬ ff_any (fun t => decide (q ≤ ff_run f t j (c - j))) (i + 1) = true := by
  show ¬ (ff_any _ i || decide (q ≤ ff_run f i j (c - j))) = true
  rw [Bool.or_eq_true]
  exact fun h3 => h3.elim h (fun h4 => h2 (of_decide_eq_true h4))
theorem ff_an_f {f : Nat → Int32} {c q j i : Nat} (h2 : q ≤ ff_run f i j (c - j)) : ¬ ¬ ff_any (fun t => decide (q ≤ ff_run f t j (c - j))) (i + 1) = true := by
  intro h
  apply h
  show (ff_any _ i || decide (q ≤ ff_run f i j (c - j))) = true
  rw [Bool.or_eq_true]
  exact Or.inr (decide_eq_true h2)
theorem ff_an_g {f : Nat → Int32} {c q j i : Nat} (h : ¬ ¬ ff_any (fun t => decide (q ≤ ff_run f t j (c - j))) i = true) : ¬ ¬ ff_any (fun t => decide (q ≤ ff_run f t j (c - j))) (i + 1) = true := by
  intro h3
  apply h
  intro h4
  apply h3
  show (ff_any _ i || _) = true
  rw [h4]; rfl
theorem ff_an_e {f : Nat → Int32} {c q j : Nat} (h : (!ff_came f c q j) = true) : ¬ ff_any (fun t => decide (q ≤ ff_run f t j (c - j))) j = true := by
  unfold ff_came at h
  simpa using h
theorem ff_an_i {f : Nat → Int32} {c q j : Nat} (h : ¬ ff_any (fun t => decide (q ≤ ff_run f t j (c - j))) j = true) : (!ff_came f c q j) = true := by
  unfold ff_came
  simpa using h
set_option maxHeartbeats 4000000 in
set_option maxRecDepth 100000 in
theorem k_costOf (l : Launch) (D : va_G) (cI : ClassId) (m0 m1 m2 m3 m4 m5 m6 m7 m8 m9 m10 m11 : Nat) (th co : Int32) (n rn mn pn sn : Nat) (KP : Nat → Int32) (s9 t9 : Nat) (base bw : Int32) (h1 : 1 ≤ t9) (h2 : s9 + t9 ≤ n) (hn : n ≤ 60) (hR : ∀ t, t < n → 0 ≤ (KP t).toInt ∧ (KP t).toInt ≤ 127) : Cp l yX6_costOf cX6_costOf 8 (some .int) 0 D (tI cI) [.ref m0, .int (nI s9), .int (nI (s9 + t9)), .int base, .int bw] [(m0, .inr (6, [.int th, .int (nI n), .ref m1, .ref m2, .int (nI rn), .ref m3, .int (nI mn), .ref m4, .ref m5, .int (nI pn), .ref m6, .int (nI sn), .int co, .ref m7, .ref m8, .ref m9, .ref m10, .ref m11])), (m1, oI cI 60 KP)] (base + bw * (ff_mx KP s9 t9 - ff_mn KP s9 t9)) := by
  refine Cp.of (own := RX6) (lv := [(0, .ref m0), (1, .int (nI s9)), (2, .int (nI (s9 + t9))), (3, .int base), (4, .int bw)]) (by decide +kernel) rfl (Nat.le_of_ble_eq_true rfl) rfl (vp_nar_int _) ?_
  intro p e s m args below meth c Q cx hK hP hret ls hl
  obtain ⟨hx, hb, hml, hown, hg⟩ := id cx
  have hS : va_S (fun _ => False) s.heap s.heap [] := va_S.rf
  refine lv_bipush (v := nI 127) hx hb dX6_costOf_0 (by decide) ?_
  refine lv_istore (lv' := [(5, .int (nI 127)), (0, .ref m0), (1, .int (nI s9)), (2, .int (nI (s9 + t9))), (3, .int base), (4, .int bw)]) hx hb dX6_costOf_2 hl (by decide) rfl (fun ls hl => ?_)
  refine lv_iconst (v := nI 0) hx hb dX6_costOf_4 (by decide) ?_
  refine lv_istore (lv' := [(6, .int (nI 0)), (5, .int (nI 127)), (0, .ref m0), (1, .int (nI s9)), (2, .int (nI (s9 + t9))), (3, .int base), (4, .int bw)]) hx hb dX6_costOf_5 hl (by decide) rfl (fun ls hl => ?_)
  refine lv_iload_n hx hb dX6_costOf_7 rfl (lv_at hl 3 rfl) ?_
  refine lv_istore (lv' := [(7, .int (nI s9)), (6, .int (nI 0)), (5, .int (nI 127)), (0, .ref m0), (1, .int (nI s9)), (2, .int (nI (s9 + t9))), (3, .int base), (4, .int bw)]) hx hb dX6_costOf_8 hl (by decide) rfl (fun ls hl => ?_)
  have lp_10 : ∀ (k : Nat) (t : Nat) (H : Heap) (locs : List Loc) (ls : Array Slot), (t ≤ t9) → (t9 - t < k) → va_P D vwCl [(m0, .inr (6, [.int th, .int (nI n), .ref m1, .ref m2, .int (nI rn), .ref m3, .int (nI mn), .ref m4, .ref m5, .int (nI pn), .ref m6, .int (nI sn), .int co, .ref m7, .ref m8, .ref m9, .ref m10, .ref m11])), (m1, oI cI 60 KP)] H → va_S (fun _ => False) s.heap H locs → lv_has ls 8 [(0, .ref m0), (1, .int (nI s9)), (2, .int (nI (s9 + t9))), (3, .int base), (4, .int bw), (5, .int ((ff_lo KP s9 t))), (6, .int ((ff_hi KP s9 t))), (7, .int (nI (s9 + t)))] → W p l e (rr 0 0 0) s m args below meth c H locs 0 0 Q (F0 m 10 ls []) := by
    intro k
    induction k with
    | zero =>
      intro t H locs ls ht hk
      exact absurd hk (Nat.not_lt_zero _)
    | succ k ih_10 =>
      intro t H locs ls ht hk hP hS hl
      refine lv_iload hx hb dX6_costOf_10 (lv_at hl 7 rfl) ?_
      refine lv_iload_n hx hb dX6_costOf_12 rfl (lv_at hl 2 rfl) ?_
      refine lv_icmp_ge (tgt := 74) hx hb dX6_costOf_13 (by decide) (fun c13 => ?_) (fun c13 => ?_)
      · have c13 := (nI_leI (by omega) (by omega)).mp c13
        refine lv_iload_n hx hb dX6_costOf_74 rfl (lv_at hl 3 rfl) ?_
        refine lv_iload hx hb dX6_costOf_75 (lv_at hl 4 rfl) ?_
        refine lv_iload hx hb dX6_costOf_77 (lv_at hl 6 rfl) ?_
        refine lv_iload hx hb dX6_costOf_79 (lv_at hl 5 rfl) ?_
        refine lv_isub hx hb dX6_costOf_81 ?_
        refine lv_imul hx hb dX6_costOf_82 ?_
        refine lv_iadd hx hb dX6_costOf_83 ?_
        obtain rfl : t = t9 := by omega
        obtain ⟨t8, rfl⟩ : ∃ t8, t = t8 + 1 := ⟨t - 1, by omega⟩
        obtain ⟨e1, e2⟩ := ff_lo_eq (P := KP) (s := s9) t8 (fun x hx => hR _ (by omega))
        exact hret _ _ 84 _ _ hS dX6_costOf_84 (by rw [e1, e2])
      · have c13 := mt (nI_leI (by omega) (by omega)).mpr c13
        refine lv_aload_n hx hb dX6_costOf_16 rfl (lv_at hl 0 rfl) ?_
        refine gf_X6_7 hx hb hg hown hK hP 0 rfl rfl dX6_costOf_17 ?_
        refine lv_iload hx hb dX6_costOf_20 (lv_at hl 7 rfl) ?_
        refine ald hx hb hK hP 1 rfl rfl (by omega) dX6_costOf_22 ?_
        refine lv_iload hx hb dX6_costOf_23 (lv_at hl 5 rfl) ?_
        refine lv_icmp_ge (tgt := 38) hx hb dX6_costOf_25 (by decide) (fun c25 => ?_) (fun c25 => ?_)
        · skip
          refine lv_iload hx hb dX6_costOf_38 (lv_at hl 5 rfl) ?_
          refine lv_asi (y := (ff_lo KP s9 (t + 1))) (by first | exact (if_neg (i_nlt.mpr c25)).symm | exact (if_pos (i_nle.mp c25)).symm) ?_
          refine lv_istore (lv' := [(5, .int ((ff_lo KP s9 (t + 1)))), (0, .ref m0), (1, .int (nI s9)), (2, .int (nI (s9 + t9))), (3, .int base), (4, .int bw), (6, .int ((ff_hi KP s9 t))), (7, .int (nI (s9 + t)))]) hx hb dX6_costOf_40 hl (by decide) rfl (fun ls hl => ?_)
          refine lv_aload_n hx hb dX6_costOf_42 rfl (lv_at hl 1 rfl) ?_
          refine gf_X6_7 hx hb hg hown hK hP 0 rfl rfl dX6_costOf_43 ?_
          refine lv_iload hx hb dX6_costOf_46 (lv_at hl 7 rfl) ?_
          refine ald hx hb hK hP 1 rfl rfl (by omega) dX6_costOf_48 ?_
          refine lv_iload hx hb dX6_costOf_49 (lv_at hl 6 rfl) ?_
          refine lv_icmp_le (tgt := 64) hx hb dX6_costOf_51 (by decide) (fun c51 => ?_) (fun c51 => ?_)
          · skip
            refine lv_iload hx hb dX6_costOf_64 (lv_at hl 6 rfl) ?_
            refine lv_asi (y := (ff_hi KP s9 (t + 1))) (by first | exact (if_neg (i_nlt.mpr c51)).symm | exact (if_pos (i_nle.mp c51)).symm) ?_
            refine lv_istore (lv' := [(6, .int ((ff_hi KP s9 (t + 1)))), (5, .int ((ff_lo KP s9 (t + 1)))), (0, .ref m0), (1, .int (nI s9)), (2, .int (nI (s9 + t9))), (3, .int base), (4, .int bw), (7, .int (nI (s9 + t)))]) hx hb dX6_costOf_66 hl (by decide) rfl (fun ls hl => ?_)
            refine lv_iinc (v := nI (s9 + t + 1)) (lv' := [(7, .int (nI (s9 + t + 1))), (6, .int ((ff_hi KP s9 (t + 1)))), (5, .int ((ff_lo KP s9 (t + 1)))), (0, .ref m0), (1, .int (nI s9)), (2, .int (nI (s9 + t9))), (3, .int base), (4, .int bw)]) hx hb dX6_costOf_68 hl (k := 7) rfl (nI_1 _) (by decide) rfl (fun ls hl => ?_)
            refine lv_goto (tgt := 10) hx hb dX6_costOf_71 (by decide) ?_
            rw [show s9 + t + 1 = s9 + (t + 1) by omega] at hl
            exact ih_10 (t + 1) _ _ _ (by omega) (by omega) hP hS (lv_sub hl [3, 4, 5, 6, 7, 2, 1, 0] rfl)
          · skip
            refine lv_aload_n hx hb dX6_costOf_54 rfl (lv_at hl 1 rfl) ?_
            refine gf_X6_7 hx hb hg hown hK hP 0 rfl rfl dX6_costOf_55 ?_
            refine lv_iload hx hb dX6_costOf_58 (lv_at hl 7 rfl) ?_
            refine ald hx hb hK hP 1 rfl rfl (by omega) dX6_costOf_60 ?_
            refine lv_goto (tgt := 66) hx hb dX6_costOf_61 (by decide) ?_
            refine lv_asi (y := (ff_hi KP s9 (t + 1))) (by first | exact (if_neg (i_nlt.mpr c51)).symm | exact (if_pos (i_nle.mp c51)).symm) ?_
            refine lv_istore (lv' := [(6, .int ((ff_hi KP s9 (t + 1)))), (5, .int ((ff_lo KP s9 (t + 1)))), (0, .ref m0), (1, .int (nI s9)), (2, .int (nI (s9 + t9))), (3, .int base), (4, .int bw), (7, .int (nI (s9 + t)))]) hx hb dX6_costOf_66 hl (by decide) rfl (fun ls hl => ?_)
            refine lv_iinc (v := nI (s9 + t + 1)) (lv' := [(7, .int (nI (s9 + t + 1))), (6, .int ((ff_hi KP s9 (t + 1)))), (5, .int ((ff_lo KP s9 (t + 1)))), (0, .ref m0), (1, .int (nI s9)), (2, .int (nI (s9 + t9))), (3, .int base), (4, .int bw)]) hx hb dX6_costOf_68 hl (k := 7) rfl (nI_1 _) (by decide) rfl (fun ls hl => ?_)
            refine lv_goto (tgt := 10) hx hb dX6_costOf_71 (by decide) ?_
            rw [show s9 + t + 1 = s9 + (t + 1) by omega] at hl
            exact ih_10 (t + 1) _ _ _ (by omega) (by omega) hP hS (lv_sub hl [3, 4, 5, 6, 7, 2, 1, 0] rfl)
        · skip
          refine lv_aload_n hx hb dX6_costOf_28 rfl (lv_at hl 0 rfl) ?_
          refine gf_X6_7 hx hb hg hown hK hP 0 rfl rfl dX6_costOf_29 ?_
          refine lv_iload hx hb dX6_costOf_32 (lv_at hl 7 rfl) ?_
          refine ald hx hb hK hP 1 rfl rfl (by omega) dX6_costOf_34 ?_
          refine lv_goto (tgt := 40) hx hb dX6_costOf_35 (by decide) ?_
          refine lv_asi (y := (ff_lo KP s9 (t + 1))) (by first | exact (if_neg (i_nlt.mpr c25)).symm | exact (if_pos (i_nle.mp c25)).symm) ?_
          refine lv_istore (lv' := [(5, .int ((ff_lo KP s9 (t + 1)))), (0, .ref m0), (1, .int (nI s9)), (2, .int (nI (s9 + t9))), (3, .int base), (4, .int bw), (6, .int ((ff_hi KP s9 t))), (7, .int (nI (s9 + t)))]) hx hb dX6_costOf_40 hl (by decide) rfl (fun ls hl => ?_)
          refine lv_aload_n hx hb dX6_costOf_42 rfl (lv_at hl 1 rfl) ?_
          refine gf_X6_7 hx hb hg hown hK hP 0 rfl rfl dX6_costOf_43 ?_
          refine lv_iload hx hb dX6_costOf_46 (lv_at hl 7 rfl) ?_
          refine ald hx hb hK hP 1 rfl rfl (by omega) dX6_costOf_48 ?_
          refine lv_iload hx hb dX6_costOf_49 (lv_at hl 6 rfl) ?_
          refine lv_icmp_le (tgt := 64) hx hb dX6_costOf_51 (by decide) (fun c51 => ?_) (fun c51 => ?_)
          · skip
            refine lv_iload hx hb dX6_costOf_64 (lv_at hl 6 rfl) ?_
            refine lv_asi (y := (ff_hi KP s9 (t + 1))) (by first | exact (if_neg (i_nlt.mpr c51)).symm | exact (if_pos (i_nle.mp c51)).symm) ?_
            refine lv_istore (lv' := [(6, .int ((ff_hi KP s9 (t + 1)))), (5, .int ((ff_lo KP s9 (t + 1)))), (0, .ref m0), (1, .int (nI s9)), (2, .int (nI (s9 + t9))), (3, .int base), (4, .int bw), (7, .int (nI (s9 + t)))]) hx hb dX6_costOf_66 hl (by decide) rfl (fun ls hl => ?_)
            refine lv_iinc (v := nI (s9 + t + 1)) (lv' := [(7, .int (nI (s9 + t + 1))), (6, .int ((ff_hi KP s9 (t + 1)))), (5, .int ((ff_lo KP s9 (t + 1)))), (0, .ref m0), (1, .int (nI s9)), (2, .int (nI (s9 + t9))), (3, .int base), (4, .int bw)]) hx hb dX6_costOf_68 hl (k := 7) rfl (nI_1 _) (by decide) rfl (fun ls hl => ?_)
            refine lv_goto (tgt := 10) hx hb dX6_costOf_71 (by decide) ?_
            rw [show s9 + t + 1 = s9 + (t + 1) by omega] at hl
            exact ih_10 (t + 1) _ _ _ (by omega) (by omega) hP hS (lv_sub hl [3, 4, 5, 6, 7, 2, 1, 0] rfl)
          · skip
            refine lv_aload_n hx hb dX6_costOf_54 rfl (lv_at hl 1 rfl) ?_
            refine gf_X6_7 hx hb hg hown hK hP 0 rfl rfl dX6_costOf_55 ?_
            refine lv_iload hx hb dX6_costOf_58 (lv_at hl 7 rfl) ?_
            refine ald hx hb hK hP 1 rfl rfl (by omega) dX6_costOf_60 ?_
            refine lv_goto (tgt := 66) hx hb dX6_costOf_61 (by decide) ?_
            refine lv_asi (y := (ff_hi KP s9 (t + 1))) (by first | exact (if_neg (i_nlt.mpr c51)).symm | exact (if_pos (i_nle.mp c51)).symm) ?_
            refine lv_istore (lv' := [(6, .int ((ff_hi KP s9 (t + 1)))), (5, .int ((ff_lo KP s9 (t + 1)))), (0, .ref m0), (1, .int (nI s9)), (2, .int (nI (s9 + t9))), (3, .int base), (4, .int bw), (7, .int (nI (s9 + t)))]) hx hb dX6_costOf_66 hl (by decide) rfl (fun ls hl => ?_)
            refine lv_iinc (v := nI (s9 + t + 1)) (lv' := [(7, .int (nI (s9 + t + 1))), (6, .int ((ff_hi KP s9 (t + 1)))), (5, .int ((ff_lo KP s9 (t + 1)))), (0, .ref m0), (1, .int (nI s9)), (2, .int (nI (s9 + t9))), (3, .int base), (4, .int bw)]) hx hb dX6_costOf_68 hl (k := 7) rfl (nI_1 _) (by decide) rfl (fun ls hl => ?_)
            refine lv_goto (tgt := 10) hx hb dX6_costOf_71 (by decide) ?_
            rw [show s9 + t + 1 = s9 + (t + 1) by omega] at hl
            exact ih_10 (t + 1) _ _ _ (by omega) (by omega) hP hS (lv_sub hl [3, 4, 5, 6, 7, 2, 1, 0] rfl)
  exact lp_10 (_ + 1) (0) _ _ _ (Nat.zero_le _) (Nat.lt_succ_self _) hP hS (lv_sub hl [3, 4, 5, 6, 7, 2, 1, 0] rfl)

set_option maxHeartbeats 4000000 in
set_option maxRecDepth 100000 in
theorem c_clear (l : Launch) (D : va_G) (cI : ClassId) (m0 m1 m2 m3 m4 m5 m6 m7 m8 m9 m10 m11 : Nat) (th co : Int32) (n rn mn pn sn : Nat) (KP KL KR KM KN KS KB KT KE KF KX : Nat → Int32) (hn : n ≤ 60) (hmn : mn ≤ 12)  : Ci l yX6_clear cX6_clear 2 (some .int) 2 0 0 D (tI cI) [.ref m0] [(m0, .inr (6, [.int th, .int (nI n), .ref m1, .ref m2, .int (nI rn), .ref m3, .int (nI mn), .ref m4, .ref m5, .int (nI pn), .ref m6, .int (nI sn), .int co, .ref m7, .ref m8, .ref m9, .ref m10, .ref m11])), (m1, oI cI 60 KP), (m2, oI cI 60 KL), (m3, oI cI 5400 KR), (m4, oI cI 12 KM), (m5, oI cI 12 KN), (m6, oI cI 60 KS), (m7, oI cI 60 KB), (m8, oI cI 12 KT), (m9, oI cI 61 KE), (m10, oI cI 61 KF), (m11, oI cI 61 KX)] (S := ff_S) (fun r u => r = nI n ∧ u = (ff_N (0) (0) (0) (0) (0) 0, ff_Z ((nI 0)) ((nI 0)), ff_A14 (KP) (KL) (KR) (KM) (KN) (KS) (KB) (KT) (KE) (KF) (KX) (KX) (KX) (KX))) (fun u => [(m0, .inr (6, [.int ((u.2.1 0)), .int (nI (u.1 0)), .ref m1, .ref m2, .int (nI (u.1 1)), .ref m3, .int (nI (u.1 2)), .ref m4, .ref m5, .int (nI (u.1 3)), .ref m6, .int (nI (u.1 4)), .int ((u.2.1 1)), .ref m7, .ref m8, .ref m9, .ref m10, .ref m11])), (m1, oI cI 60 (u.2.2 0)), (m2, oI cI 60 (u.2.2 1)), (m3, oI cI 5400 (u.2.2 2)), (m4, oI cI 12 (u.2.2 3)), (m5, oI cI 12 (u.2.2 4)), (m6, oI cI 60 (u.2.2 5)), (m7, oI cI 60 (u.2.2 6)), (m8, oI cI 12 (u.2.2 7)), (m9, oI cI 61 (u.2.2 8)), (m10, oI cI 61 (u.2.2 9)), (m11, oI cI 61 (u.2.2 10))]) := by
  refine Ci.of (own := RX6) (lv := [(0, .ref m0)]) (by decide +kernel) rfl (Nat.le_of_ble_eq_true rfl) rfl (fun x u h => vp_nar_int _) ?_
  intro p e s m args below meth c Q A cx hK hP hD hA hret ls hl
  obtain ⟨hx, hb, hml, hown, hg⟩ := id cx
  have hS : va_S A s.heap s.heap [] := va_S.rf
  refine lv_aload_n hx hb dX6_clear_0 rfl (lv_at hl 0 rfl) ?_
  refine lv_iconst (v := nI 0) hx hb dX6_clear_1 (by decide) ?_
  refine pf_X6_46 hx hb hg hown hK hP hD hS 0 rfl (Nat.le_of_ble_eq_true rfl) dX6_clear_2 (fun H locs hP hD hS => ?_)
  have hP : va_P D vwCl [(m0, .inr (6, [.int (nI 0), .int (nI n), .ref m1, .ref m2, .int (nI rn), .ref m3, .int (nI mn), .ref m4, .ref m5, .int (nI pn), .ref m6, .int (nI sn), .int co, .ref m7, .ref m8, .ref m9, .ref m10, .ref m11])), (m1, oI cI 60 KP), (m2, oI cI 60 KL), (m3, oI cI 5400 KR), (m4, oI cI 12 KM), (m5, oI cI 12 KN), (m6, oI cI 60 KS), (m7, oI cI 60 KB), (m8, oI cI 12 KT), (m9, oI cI 61 KE), (m10, oI cI 61 KF), (m11, oI cI 61 KX)] H := hP
  have hD : va_D A [(m0, .inr (6, [.int (nI 0), .int (nI n), .ref m1, .ref m2, .int (nI rn), .ref m3, .int (nI mn), .ref m4, .ref m5, .int (nI pn), .ref m6, .int (nI sn), .int co, .ref m7, .ref m8, .ref m9, .ref m10, .ref m11])), (m1, oI cI 60 KP), (m2, oI cI 60 KL), (m3, oI cI 5400 KR), (m4, oI cI 12 KM), (m5, oI cI 12 KN), (m6, oI cI 60 KS), (m7, oI cI 60 KB), (m8, oI cI 12 KT), (m9, oI cI 61 KE), (m10, oI cI 61 KF), (m11, oI cI 61 KX)] := hD
  refine lv_aload_n hx hb dX6_clear_5 rfl (lv_at hl 0 rfl) ?_
  refine gf_X6_50 hx hb hg hown hK hP 0 rfl rfl dX6_clear_6 ?_
  refine lv_istore_n (lv' := [(1, .int (nI n)), (0, .ref m0)]) hx hb dX6_clear_9 rfl hl (by decide) rfl (fun ls hl => ?_)
  refine lv_aload_n hx hb dX6_clear_10 rfl (lv_at hl 1 rfl) ?_
  refine Cv.callV (As := []) (rest := []) (wr := [(m1, oI cI 60 KP), (m2, oI cI 60 KL), (m3, oI cI 5400 KR), (m4, oI cI 12 KM), (m5, oI cI 12 KN), (m6, oI cI 60 KS), (m7, oI cI 60 KB), (m8, oI cI 12 KT), (m9, oI cI 61 KE), (m10, oI cI 61 KF), (m11, oI cI 61 KX)]) (wn := (fun u11 => [(m0, .inr (6, [.int ((nI 0)), .int (nI 0), .ref m1, .ref m2, .int (nI 0), .ref m3, .int (nI 0), .ref m4, .ref m5, .int (nI 0), .ref m6, .int (nI 0), .int ((nI 0)), .ref m7, .ref m8, .ref m9, .ref m10, .ref m11])), (m1, oI cI 60 KP), (m2, oI cI 60 KL), (m3, oI cI 5400 KR), (m4, oI cI 12 KM), (m5, oI cI 12 KN), (m6, oI cI 60 KS), (m7, oI cI 60 KB), (m8, oI cI 12 KT), (m9, oI cI 61 KE), (m10, oI cI 61 KF), (m11, oI cI 61 KX)])) (cv_X6_43 hg ⟨Nat.le_of_ble_eq_true rfl, Nat.le_of_ble_eq_true rfl⟩) (k_begin l D cI m0 m1 m2 m3 m4 m5 m6 m7 m8 m9 m10 m11 (nI 0) (co) (n) (rn) (mn) (pn) (sn)) cx hK hP hD hA [0] [1, 2, 3, 4, 5, 6, 7, 8, 9, 10, 11] [11, 0, 1, 2, 3, 4, 5, 6, 7, 8, 9, 10] rfl rfl (by decide) (fun _ => rfl) (rq := 0) rfl rfl rfl hS rfl hl.1 rfl (Nat.le_of_ble_eq_true rfl) dX6_clear_11 ⟨Nat.le_refl _, Nat.le_refl _⟩ (fun H locs u11 p11 hP hD hS => ?_)
  refine lv_iload_n hx hb dX6_clear_14 rfl (lv_at hl 0 rfl) ?_
  exact hret _ _ 15 _ _ ((ff_N (0) (0) (0) (0) (0) 0, ff_Z ((nI 0)) ((nI 0)), ff_A14 (KP) (KL) (KR) (KM) (KN) (KS) (KB) (KT) (KE) (KF) (KX) (KX) (KX) (KX))) (⟨rfl, rfl⟩) hP hD hS dX6_clear_15

set_option maxHeartbeats 4000000 in
set_option maxRecDepth 100000 in
theorem c_note (l : Launch) (D : va_G) (cI : ClassId) (m0 m1 m2 m3 m4 m5 m6 m7 m8 m9 m10 m11 : Nat) (th co : Int32) (n rn mn pn sn : Nat) (KP KL KR KM KN KS KB KT KE KF KX : Nat → Int32) (hn : n ≤ 60) (hmn : mn ≤ 12) (x y : Int32) : Ci l yX6_note cX6_note 4 (some .int) 2 0 0 D (tI cI) [.ref m0, .int x, .int y] [(m0, .inr (6, [.int th, .int (nI n), .ref m1, .ref m2, .int (nI rn), .ref m3, .int (nI mn), .ref m4, .ref m5, .int (nI pn), .ref m6, .int (nI sn), .int co, .ref m7, .ref m8, .ref m9, .ref m10, .ref m11])), (m1, oI cI 60 KP), (m2, oI cI 60 KL), (m3, oI cI 5400 KR), (m4, oI cI 12 KM), (m5, oI cI 12 KN), (m6, oI cI 60 KS), (m7, oI cI 60 KB), (m8, oI cI 12 KT), (m9, oI cI 61 KE), (m10, oI cI 61 KF), (m11, oI cI 61 KX)] (S := ff_S) (fun r u => (¬ okNo x y ∧ r = nI 0 ∧ u = (ff_N (n) (rn) (mn) (pn) (sn) 0, ff_Z ((nI 1)) (co), ff_A14 (KP) (KL) (KR) (KM) (KN) (KS) (KB) (KT) (KE) (KF) (KX) (KX) (KX) (KX))) ∨ (okNo x y ∧ n = 60 ∧ r = nI 0 ∧ u = (ff_N (n) (rn) (mn) (pn) (sn) 0, ff_Z ((nI 2)) (co), ff_A14 (KP) (KL) (KR) (KM) (KN) (KS) (KB) (KT) (KE) (KF) (KX) (KX) (KX) (KX))) ∨ (okNo x y ∧ n < 60 ∧ r = nI n ∧ u = (ff_N (n + 1) (rn) (mn) (pn) (sn) 0, ff_Z ((nI 0)) (co), ff_A14 (upd KP n x) (upd KL n y) (KR) (KM) (KN) (KS) (KB) (KT) (KE) (KF) (KX) (KX) (KX) (KX)))) (fun u => [(m0, .inr (6, [.int ((u.2.1 0)), .int (nI (u.1 0)), .ref m1, .ref m2, .int (nI (u.1 1)), .ref m3, .int (nI (u.1 2)), .ref m4, .ref m5, .int (nI (u.1 3)), .ref m6, .int (nI (u.1 4)), .int ((u.2.1 1)), .ref m7, .ref m8, .ref m9, .ref m10, .ref m11])), (m1, oI cI 60 (u.2.2 0)), (m2, oI cI 60 (u.2.2 1)), (m3, oI cI 5400 (u.2.2 2)), (m4, oI cI 12 (u.2.2 3)), (m5, oI cI 12 (u.2.2 4)), (m6, oI cI 60 (u.2.2 5)), (m7, oI cI 60 (u.2.2 6)), (m8, oI cI 12 (u.2.2 7)), (m9, oI cI 61 (u.2.2 8)), (m10, oI cI 61 (u.2.2 9)), (m11, oI cI 61 (u.2.2 10))]) := by
  refine Ci.of (own := RX6) (lv := [(0, .ref m0), (1, .int x), (2, .int y)]) (by decide +kernel) rfl (Nat.le_of_ble_eq_true rfl) rfl (fun x u h => vp_nar_int _) ?_
  intro p e s m args below meth c Q A cx hK hP hD hA hret ls hl
  obtain ⟨hx, hb, hml, hown, hg⟩ := id cx
  have hS : va_S A s.heap s.heap [] := va_S.rf
  refine lv_aload_n hx hb dX6_note_0 rfl (lv_at hl 0 rfl) ?_
  refine lv_iconst (v := nI 0) hx hb dX6_note_1 (by decide) ?_
  refine pf_X6_46 hx hb hg hown hK hP hD hS 0 rfl (Nat.le_of_ble_eq_true rfl) dX6_note_2 (fun H locs hP hD hS => ?_)
  have hP : va_P D vwCl [(m0, .inr (6, [.int (nI 0), .int (nI n), .ref m1, .ref m2, .int (nI rn), .ref m3, .int (nI mn), .ref m4, .ref m5, .int (nI pn), .ref m6, .int (nI sn), .int co, .ref m7, .ref m8, .ref m9, .ref m10, .ref m11])), (m1, oI cI 60 KP), (m2, oI cI 60 KL), (m3, oI cI 5400 KR), (m4, oI cI 12 KM), (m5, oI cI 12 KN), (m6, oI cI 60 KS), (m7, oI cI 60 KB), (m8, oI cI 12 KT), (m9, oI cI 61 KE), (m10, oI cI 61 KF), (m11, oI cI 61 KX)] H := hP
  have hD : va_D A [(m0, .inr (6, [.int (nI 0), .int (nI n), .ref m1, .ref m2, .int (nI rn), .ref m3, .int (nI mn), .ref m4, .ref m5, .int (nI pn), .ref m6, .int (nI sn), .int co, .ref m7, .ref m8, .ref m9, .ref m10, .ref m11])), (m1, oI cI 60 KP), (m2, oI cI 60 KL), (m3, oI cI 5400 KR), (m4, oI cI 12 KM), (m5, oI cI 12 KN), (m6, oI cI 60 KS), (m7, oI cI 60 KB), (m8, oI cI 12 KT), (m9, oI cI 61 KE), (m10, oI cI 61 KF), (m11, oI cI 61 KX)] := hD
  refine lv_aload_n hx hb dX6_note_5 rfl (lv_at hl 0 rfl) ?_
  refine lv_iload_n hx hb dX6_note_6 rfl (lv_at hl 1 rfl) ?_
  refine lv_i2l hx hb dX6_note_7 rfl ?_
  refine lv_lconst (v := 0) hx hb dX6_note_8 (by decide) ?_
  refine lv_ldc2 (v := 127) hx hb hown (hg _ wd_cl_X6_68) dX6_note_9 ?_
  refine Cp.callS (As := [.long ((Int32.toInt64 (x))), .long ((0 : Int64)), .long ((127 : Int64))]) (rest := [.ref m0]) (cv_X6_70 hg ⟨Nat.le_of_ble_eq_true rfl, Nat.le_of_ble_eq_true rfl⟩) (k_isIn32 l D cI [] (x) (nI 0) (nI 127) _ _ (by decide) (by decide)) cx hK hP [] rfl hS rfl hl.1 rfl (Nat.le_of_ble_eq_true rfl) dX6_note_12 ⟨Nat.zero_le _, Nat.zero_le _⟩ (fun H locs hP hS => ?_)
  refine lv_if_eq (tgt := 34) hx hb dX6_note_15 (by decide) (fun c15 => ?_) (fun c15 => ?_)
  · have c15 := bI_z.mp c15
    refine lv_iconst (v := nI 0) hx hb dX6_note_34 (by decide) ?_
    refine lv_iconst (v := nI 1) hx hb dX6_note_35 (by decide) ?_
    refine Ci.callV (As := [.int (nI 0), .int (nI 1)]) (rest := []) (wr := [(m1, oI cI 60 KP), (m2, oI cI 60 KL), (m3, oI cI 5400 KR), (m4, oI cI 12 KM), (m5, oI cI 12 KN), (m6, oI cI 60 KS), (m7, oI cI 60 KB), (m8, oI cI 12 KT), (m9, oI cI 61 KE), (m10, oI cI 61 KF), (m11, oI cI 61 KX)]) (wn := (fun _ => [(m0, .inr (6, [.int ((nI 1)), .int (nI n), .ref m1, .ref m2, .int (nI rn), .ref m3, .int (nI mn), .ref m4, .ref m5, .int (nI pn), .ref m6, .int (nI sn), .int co, .ref m7, .ref m8, .ref m9, .ref m10, .ref m11])), (m1, oI cI 60 KP), (m2, oI cI 60 KL), (m3, oI cI 5400 KR), (m4, oI cI 12 KM), (m5, oI cI 12 KN), (m6, oI cI 60 KS), (m7, oI cI 60 KB), (m8, oI cI 12 KT), (m9, oI cI 61 KE), (m10, oI cI 61 KF), (m11, oI cI 61 KX)])) (cv_X6_76 hg ⟨Nat.le_of_ble_eq_true rfl, Nat.le_of_ble_eq_true rfl⟩) (k_go0 l D cI m0 (.int (nI n)) (.ref m1) (.ref m2) (.int (nI rn)) (.ref m3) (.int (nI mn)) (.ref m4) (.ref m5) (.int (nI pn)) (.ref m6) (.int (nI sn)) (.int co) (.ref m7) (.ref m8) (.ref m9) (.ref m10) (.ref m11) 1 (by decide) (by decide)) cx hK hP hD hA [0] [1, 2, 3, 4, 5, 6, 7, 8, 9, 10, 11] [11, 0, 1, 2, 3, 4, 5, 6, 7, 8, 9, 10] rfl rfl (by decide) (fun _ => rfl) (rq := 0) rfl rfl rfl hS rfl hl.1 rfl (Nat.le_of_ble_eq_true rfl) dX6_note_36 ⟨Nat.le_refl _, Nat.le_refl _⟩ (fun H locs r36 _ p36 hP hD hS => ?_)
    subst p36
    refine lv_if_eq (tgt := 68) hx hb dX6_note_39 (by decide) (fun _ => ?_) (fun h9 => absurd (by decide) h9)
    refine lv_iconst (v := nI 0) hx hb dX6_note_68 (by decide) ?_
    refine lv_istore_n (lv' := [(3, .int (nI 0)), (0, .ref m0), (1, .int x), (2, .int y)]) hx hb dX6_note_69 rfl hl (by decide) rfl (fun ls hl => ?_)
    refine lv_iload_n hx hb dX6_note_70 rfl (lv_at hl 0 rfl) ?_
    refine lv_if_ne (tgt := 76) hx hb dX6_note_71 (by decide) (fun h9 => absurd (by decide) h9) (fun _ => ?_)
    refine lv_iconst (v := nI 0) hx hb dX6_note_74 (by decide) ?_
    exact hret _ _ 75 _ _ ((ff_N (n) (rn) (mn) (pn) (sn) 0, ff_Z ((nI 1)) (co), ff_A14 (KP) (KL) (KR) (KM) (KN) (KS) (KB) (KT) (KE) (KF) (KX) (KX) (KX) (KX))) (by first | exact Or.inl ⟨fun h => by first | exact c15 h.1 | exact c27 h.2, rfl, rfl⟩ | exact Or.inr (Or.inl ⟨⟨c15, c27⟩, by omega, rfl, rfl⟩)) hP hD hS dX6_note_75
  · have c15 := bI_nz.mp c15
    refine lv_iload_n hx hb dX6_note_18 rfl (lv_at hl 2 rfl) ?_
    refine lv_i2l hx hb dX6_note_19 rfl ?_
    refine lv_lconst (v := 1) hx hb dX6_note_20 (by decide) ?_
    refine lv_ldc2 (v := 999) hx hb hown (hg _ wd_cl_X6_74) dX6_note_21 ?_
    refine Cp.callS (As := [.long ((Int32.toInt64 (y))), .long ((1 : Int64)), .long ((999 : Int64))]) (rest := [.ref m0]) (cv_X6_70 hg ⟨Nat.le_of_ble_eq_true rfl, Nat.le_of_ble_eq_true rfl⟩) (k_isIn32 l D cI [] (y) (nI 1) (nI 999) _ _ (by decide) (by decide)) cx hK hP [] rfl hS rfl hl.1 rfl (Nat.le_of_ble_eq_true rfl) dX6_note_24 ⟨Nat.zero_le _, Nat.zero_le _⟩ (fun H locs hP hS => ?_)
    refine lv_if_eq (tgt := 34) hx hb dX6_note_27 (by decide) (fun c27 => ?_) (fun c27 => ?_)
    · have c27 := bI_z.mp c27
      refine lv_iconst (v := nI 0) hx hb dX6_note_34 (by decide) ?_
      refine lv_iconst (v := nI 1) hx hb dX6_note_35 (by decide) ?_
      refine Ci.callV (As := [.int (nI 0), .int (nI 1)]) (rest := []) (wr := [(m1, oI cI 60 KP), (m2, oI cI 60 KL), (m3, oI cI 5400 KR), (m4, oI cI 12 KM), (m5, oI cI 12 KN), (m6, oI cI 60 KS), (m7, oI cI 60 KB), (m8, oI cI 12 KT), (m9, oI cI 61 KE), (m10, oI cI 61 KF), (m11, oI cI 61 KX)]) (wn := (fun _ => [(m0, .inr (6, [.int ((nI 1)), .int (nI n), .ref m1, .ref m2, .int (nI rn), .ref m3, .int (nI mn), .ref m4, .ref m5, .int (nI pn), .ref m6, .int (nI sn), .int co, .ref m7, .ref m8, .ref m9, .ref m10, .ref m11])), (m1, oI cI 60 KP), (m2, oI cI 60 KL), (m3, oI cI 5400 KR), (m4, oI cI 12 KM), (m5, oI cI 12 KN), (m6, oI cI 60 KS), (m7, oI cI 60 KB), (m8, oI cI 12 KT), (m9, oI cI 61 KE), (m10, oI cI 61 KF), (m11, oI cI 61 KX)])) (cv_X6_76 hg ⟨Nat.le_of_ble_eq_true rfl, Nat.le_of_ble_eq_true rfl⟩) (k_go0 l D cI m0 (.int (nI n)) (.ref m1) (.ref m2) (.int (nI rn)) (.ref m3) (.int (nI mn)) (.ref m4) (.ref m5) (.int (nI pn)) (.ref m6) (.int (nI sn)) (.int co) (.ref m7) (.ref m8) (.ref m9) (.ref m10) (.ref m11) 1 (by decide) (by decide)) cx hK hP hD hA [0] [1, 2, 3, 4, 5, 6, 7, 8, 9, 10, 11] [11, 0, 1, 2, 3, 4, 5, 6, 7, 8, 9, 10] rfl rfl (by decide) (fun _ => rfl) (rq := 0) rfl rfl rfl hS rfl hl.1 rfl (Nat.le_of_ble_eq_true rfl) dX6_note_36 ⟨Nat.le_refl _, Nat.le_refl _⟩ (fun H locs r36 _ p36 hP hD hS => ?_)
      subst p36
      refine lv_if_eq (tgt := 68) hx hb dX6_note_39 (by decide) (fun _ => ?_) (fun h9 => absurd (by decide) h9)
      refine lv_iconst (v := nI 0) hx hb dX6_note_68 (by decide) ?_
      refine lv_istore_n (lv' := [(3, .int (nI 0)), (0, .ref m0), (1, .int x), (2, .int y)]) hx hb dX6_note_69 rfl hl (by decide) rfl (fun ls hl => ?_)
      refine lv_iload_n hx hb dX6_note_70 rfl (lv_at hl 0 rfl) ?_
      refine lv_if_ne (tgt := 76) hx hb dX6_note_71 (by decide) (fun h9 => absurd (by decide) h9) (fun _ => ?_)
      refine lv_iconst (v := nI 0) hx hb dX6_note_74 (by decide) ?_
      exact hret _ _ 75 _ _ ((ff_N (n) (rn) (mn) (pn) (sn) 0, ff_Z ((nI 1)) (co), ff_A14 (KP) (KL) (KR) (KM) (KN) (KS) (KB) (KT) (KE) (KF) (KX) (KX) (KX) (KX))) (by first | exact Or.inl ⟨fun h => by first | exact c15 h.1 | exact c27 h.2, rfl, rfl⟩ | exact Or.inr (Or.inl ⟨⟨c15, c27⟩, by omega, rfl, rfl⟩)) hP hD hS dX6_note_75
    · have c27 := bI_nz.mp c27
      refine lv_iconst (v := nI 1) hx hb dX6_note_30 (by decide) ?_
      refine lv_goto (tgt := 35) hx hb dX6_note_31 (by decide) ?_
      refine lv_iconst (v := nI 1) hx hb dX6_note_35 (by decide) ?_
      refine Ci.callV (As := [.int (nI 1), .int (nI 1)]) (rest := []) (wr := [(m1, oI cI 60 KP), (m2, oI cI 60 KL), (m3, oI cI 5400 KR), (m4, oI cI 12 KM), (m5, oI cI 12 KN), (m6, oI cI 60 KS), (m7, oI cI 60 KB), (m8, oI cI 12 KT), (m9, oI cI 61 KE), (m10, oI cI 61 KF), (m11, oI cI 61 KX)]) (wn := (fun _ => [(m0, .inr (6, [.int (nI 0), .int (nI n), .ref m1, .ref m2, .int (nI rn), .ref m3, .int (nI mn), .ref m4, .ref m5, .int (nI pn), .ref m6, .int (nI sn), .int co, .ref m7, .ref m8, .ref m9, .ref m10, .ref m11])), (m1, oI cI 60 KP), (m2, oI cI 60 KL), (m3, oI cI 5400 KR), (m4, oI cI 12 KM), (m5, oI cI 12 KN), (m6, oI cI 60 KS), (m7, oI cI 60 KB), (m8, oI cI 12 KT), (m9, oI cI 61 KE), (m10, oI cI 61 KF), (m11, oI cI 61 KX)])) (cv_X6_76 hg ⟨Nat.le_of_ble_eq_true rfl, Nat.le_of_ble_eq_true rfl⟩) (k_go1 l D cI m0 (.int (nI n)) (.ref m1) (.ref m2) (.int (nI rn)) (.ref m3) (.int (nI mn)) (.ref m4) (.ref m5) (.int (nI pn)) (.ref m6) (.int (nI sn)) (.int co) (.ref m7) (.ref m8) (.ref m9) (.ref m10) (.ref m11) (nI 1)) cx hK hP hD hA [0] [1, 2, 3, 4, 5, 6, 7, 8, 9, 10, 11] [11, 0, 1, 2, 3, 4, 5, 6, 7, 8, 9, 10] rfl rfl (by decide) (fun _ => rfl) (rq := 0) rfl rfl rfl hS rfl hl.1 rfl (Nat.le_of_ble_eq_true rfl) dX6_note_36 ⟨Nat.le_refl _, Nat.le_refl _⟩ (fun H locs r36 _ p36 hP hD hS => ?_)
      subst p36
      refine lv_if_eq (tgt := 68) hx hb dX6_note_39 (by decide) (fun h9 => absurd h9 (by decide)) (fun _ => ?_)
      refine lv_aload_n hx hb dX6_note_42 rfl (lv_at hl 0 rfl) ?_
      refine lv_aload_n hx hb dX6_note_43 rfl (lv_at hl 0 rfl) ?_
      refine gf_X6_50 hx hb hg hown hK hP 0 rfl rfl dX6_note_44 ?_
      refine lv_bipush (v := nI 60) hx hb dX6_note_47 (by decide) ?_
      refine lv_icmp_ge (tgt := 56) hx hb dX6_note_49 (by decide) (fun c49 => ?_) (fun c49 => ?_)
      · have c49 := (nI_leI (by omega) (by omega)).mp c49
        refine lv_iconst (v := nI 0) hx hb dX6_note_56 (by decide) ?_
        refine lv_iconst (v := nI 2) hx hb dX6_note_57 (by decide) ?_
        refine Ci.callV (As := [.int (nI 0), .int (nI 2)]) (rest := []) (wr := [(m1, oI cI 60 KP), (m2, oI cI 60 KL), (m3, oI cI 5400 KR), (m4, oI cI 12 KM), (m5, oI cI 12 KN), (m6, oI cI 60 KS), (m7, oI cI 60 KB), (m8, oI cI 12 KT), (m9, oI cI 61 KE), (m10, oI cI 61 KF), (m11, oI cI 61 KX)]) (wn := (fun _ => [(m0, .inr (6, [.int ((nI 2)), .int (nI n), .ref m1, .ref m2, .int (nI rn), .ref m3, .int (nI mn), .ref m4, .ref m5, .int (nI pn), .ref m6, .int (nI sn), .int co, .ref m7, .ref m8, .ref m9, .ref m10, .ref m11])), (m1, oI cI 60 KP), (m2, oI cI 60 KL), (m3, oI cI 5400 KR), (m4, oI cI 12 KM), (m5, oI cI 12 KN), (m6, oI cI 60 KS), (m7, oI cI 60 KB), (m8, oI cI 12 KT), (m9, oI cI 61 KE), (m10, oI cI 61 KF), (m11, oI cI 61 KX)])) (cv_X6_76 hg ⟨Nat.le_of_ble_eq_true rfl, Nat.le_of_ble_eq_true rfl⟩) (k_go0 l D cI m0 (.int (nI n)) (.ref m1) (.ref m2) (.int (nI rn)) (.ref m3) (.int (nI mn)) (.ref m4) (.ref m5) (.int (nI pn)) (.ref m6) (.int (nI sn)) (.int co) (.ref m7) (.ref m8) (.ref m9) (.ref m10) (.ref m11) 2 (by decide) (by decide)) cx hK hP hD hA [0] [1, 2, 3, 4, 5, 6, 7, 8, 9, 10, 11] [11, 0, 1, 2, 3, 4, 5, 6, 7, 8, 9, 10] rfl rfl (by decide) (fun _ => rfl) (rq := 0) rfl rfl rfl hS rfl hl.1 rfl (Nat.le_of_ble_eq_true rfl) dX6_note_58 ⟨Nat.le_refl _, Nat.le_refl _⟩ (fun H locs r58 _ p58 hP hD hS => ?_)
        subst p58
        refine lv_if_eq (tgt := 68) hx hb dX6_note_61 (by decide) (fun _ => ?_) (fun h9 => absurd (by decide) h9)
        refine lv_iconst (v := nI 0) hx hb dX6_note_68 (by decide) ?_
        refine lv_istore_n (lv' := [(3, .int (nI 0)), (0, .ref m0), (1, .int x), (2, .int y)]) hx hb dX6_note_69 rfl hl (by decide) rfl (fun ls hl => ?_)
        refine lv_iload_n hx hb dX6_note_70 rfl (lv_at hl 0 rfl) ?_
        refine lv_if_ne (tgt := 76) hx hb dX6_note_71 (by decide) (fun h9 => absurd (by decide) h9) (fun _ => ?_)
        refine lv_iconst (v := nI 0) hx hb dX6_note_74 (by decide) ?_
        exact hret _ _ 75 _ _ ((ff_N (n) (rn) (mn) (pn) (sn) 0, ff_Z ((nI 2)) (co), ff_A14 (KP) (KL) (KR) (KM) (KN) (KS) (KB) (KT) (KE) (KF) (KX) (KX) (KX) (KX))) (by first | exact Or.inl ⟨fun h => by first | exact c15 h.1 | exact c27 h.2, rfl, rfl⟩ | exact Or.inr (Or.inl ⟨⟨c15, c27⟩, by omega, rfl, rfl⟩)) hP hD hS dX6_note_75
      · have c49 := mt (nI_leI (by omega) (by omega)).mpr c49
        refine lv_iconst (v := nI 1) hx hb dX6_note_52 (by decide) ?_
        refine lv_goto (tgt := 57) hx hb dX6_note_53 (by decide) ?_
        refine lv_iconst (v := nI 2) hx hb dX6_note_57 (by decide) ?_
        refine Ci.callV (As := [.int (nI 1), .int (nI 2)]) (rest := []) (wr := [(m1, oI cI 60 KP), (m2, oI cI 60 KL), (m3, oI cI 5400 KR), (m4, oI cI 12 KM), (m5, oI cI 12 KN), (m6, oI cI 60 KS), (m7, oI cI 60 KB), (m8, oI cI 12 KT), (m9, oI cI 61 KE), (m10, oI cI 61 KF), (m11, oI cI 61 KX)]) (wn := (fun _ => [(m0, .inr (6, [.int (nI 0), .int (nI n), .ref m1, .ref m2, .int (nI rn), .ref m3, .int (nI mn), .ref m4, .ref m5, .int (nI pn), .ref m6, .int (nI sn), .int co, .ref m7, .ref m8, .ref m9, .ref m10, .ref m11])), (m1, oI cI 60 KP), (m2, oI cI 60 KL), (m3, oI cI 5400 KR), (m4, oI cI 12 KM), (m5, oI cI 12 KN), (m6, oI cI 60 KS), (m7, oI cI 60 KB), (m8, oI cI 12 KT), (m9, oI cI 61 KE), (m10, oI cI 61 KF), (m11, oI cI 61 KX)])) (cv_X6_76 hg ⟨Nat.le_of_ble_eq_true rfl, Nat.le_of_ble_eq_true rfl⟩) (k_go1 l D cI m0 (.int (nI n)) (.ref m1) (.ref m2) (.int (nI rn)) (.ref m3) (.int (nI mn)) (.ref m4) (.ref m5) (.int (nI pn)) (.ref m6) (.int (nI sn)) (.int co) (.ref m7) (.ref m8) (.ref m9) (.ref m10) (.ref m11) (nI 2)) cx hK hP hD hA [0] [1, 2, 3, 4, 5, 6, 7, 8, 9, 10, 11] [11, 0, 1, 2, 3, 4, 5, 6, 7, 8, 9, 10] rfl rfl (by decide) (fun _ => rfl) (rq := 0) rfl rfl rfl hS rfl hl.1 rfl (Nat.le_of_ble_eq_true rfl) dX6_note_58 ⟨Nat.le_refl _, Nat.le_refl _⟩ (fun H locs r58 _ p58 hP hD hS => ?_)
        subst p58
        refine lv_if_eq (tgt := 68) hx hb dX6_note_61 (by decide) (fun h9 => absurd h9 (by decide)) (fun _ => ?_)
        refine lv_iconst (v := nI 1) hx hb dX6_note_64 (by decide) ?_
        refine lv_goto (tgt := 69) hx hb dX6_note_65 (by decide) ?_
        refine lv_istore_n (lv' := [(3, .int (nI 1)), (0, .ref m0), (1, .int x), (2, .int y)]) hx hb dX6_note_69 rfl hl (by decide) rfl (fun ls hl => ?_)
        refine lv_iload_n hx hb dX6_note_70 rfl (lv_at hl 0 rfl) ?_
        refine lv_if_ne (tgt := 76) hx hb dX6_note_71 (by decide) (fun _ => ?_) (fun h9 => absurd h9 (by decide))
        refine lv_aload_n hx hb dX6_note_76 rfl (lv_at hl 1 rfl) ?_
        refine gf_X6_7 hx hb hg hown hK hP 0 rfl rfl dX6_note_77 ?_
        refine lv_aload_n hx hb dX6_note_80 rfl (lv_at hl 1 rfl) ?_
        refine gf_X6_50 hx hb hg hown hK hP 0 rfl rfl dX6_note_81 ?_
        refine lv_iload_n hx hb dX6_note_84 rfl (lv_at hl 2 rfl) ?_
        refine ast hx hb hK hP hD hS 1 rfl rfl (by omega) dX6_note_85 (fun H locs hP hD hS => ?_)
        have hP : va_P D vwCl [(m0, .inr (6, [.int (nI 0), .int (nI n), .ref m1, .ref m2, .int (nI rn), .ref m3, .int (nI mn), .ref m4, .ref m5, .int (nI pn), .ref m6, .int (nI sn), .int co, .ref m7, .ref m8, .ref m9, .ref m10, .ref m11])), (m1, oI cI 60 (upd KP n (x))), (m2, oI cI 60 KL), (m3, oI cI 5400 KR), (m4, oI cI 12 KM), (m5, oI cI 12 KN), (m6, oI cI 60 KS), (m7, oI cI 60 KB), (m8, oI cI 12 KT), (m9, oI cI 61 KE), (m10, oI cI 61 KF), (m11, oI cI 61 KX)] H := hP
        have hD : va_D A [(m0, .inr (6, [.int (nI 0), .int (nI n), .ref m1, .ref m2, .int (nI rn), .ref m3, .int (nI mn), .ref m4, .ref m5, .int (nI pn), .ref m6, .int (nI sn), .int co, .ref m7, .ref m8, .ref m9, .ref m10, .ref m11])), (m1, oI cI 60 (upd KP n (x))), (m2, oI cI 60 KL), (m3, oI cI 5400 KR), (m4, oI cI 12 KM), (m5, oI cI 12 KN), (m6, oI cI 60 KS), (m7, oI cI 60 KB), (m8, oI cI 12 KT), (m9, oI cI 61 KE), (m10, oI cI 61 KF), (m11, oI cI 61 KX)] := hD
        refine lv_aload_n hx hb dX6_note_86 rfl (lv_at hl 1 rfl) ?_
        refine gf_X6_13 hx hb hg hown hK hP 0 rfl rfl dX6_note_87 ?_
        refine lv_aload_n hx hb dX6_note_90 rfl (lv_at hl 1 rfl) ?_
        refine gf_X6_50 hx hb hg hown hK hP 0 rfl rfl dX6_note_91 ?_
        refine lv_iload_n hx hb dX6_note_94 rfl (lv_at hl 3 rfl) ?_
        refine ast hx hb hK hP hD hS 2 rfl rfl (by omega) dX6_note_95 (fun H locs hP hD hS => ?_)
        have hP : va_P D vwCl [(m0, .inr (6, [.int (nI 0), .int (nI n), .ref m1, .ref m2, .int (nI rn), .ref m3, .int (nI mn), .ref m4, .ref m5, .int (nI pn), .ref m6, .int (nI sn), .int co, .ref m7, .ref m8, .ref m9, .ref m10, .ref m11])), (m1, oI cI 60 (upd KP n (x))), (m2, oI cI 60 (upd KL n (y))), (m3, oI cI 5400 KR), (m4, oI cI 12 KM), (m5, oI cI 12 KN), (m6, oI cI 60 KS), (m7, oI cI 60 KB), (m8, oI cI 12 KT), (m9, oI cI 61 KE), (m10, oI cI 61 KF), (m11, oI cI 61 KX)] H := hP
        have hD : va_D A [(m0, .inr (6, [.int (nI 0), .int (nI n), .ref m1, .ref m2, .int (nI rn), .ref m3, .int (nI mn), .ref m4, .ref m5, .int (nI pn), .ref m6, .int (nI sn), .int co, .ref m7, .ref m8, .ref m9, .ref m10, .ref m11])), (m1, oI cI 60 (upd KP n (x))), (m2, oI cI 60 (upd KL n (y))), (m3, oI cI 5400 KR), (m4, oI cI 12 KM), (m5, oI cI 12 KN), (m6, oI cI 60 KS), (m7, oI cI 60 KB), (m8, oI cI 12 KT), (m9, oI cI 61 KE), (m10, oI cI 61 KF), (m11, oI cI 61 KX)] := hD
        refine lv_aload_n hx hb dX6_note_96 rfl (lv_at hl 1 rfl) ?_
        refine lv_dup hx hb dX6_note_97 rfl ?_
        refine gf_X6_50 hx hb hg hown hK hP 0 rfl rfl dX6_note_98 ?_
        refine lv_iconst (v := nI 1) hx hb dX6_note_101 (by decide) ?_
        refine lv_iadd hx hb dX6_note_102 ?_
        refine lv_asi (nI_add _ _) ?_
        refine pf_X6_50 hx hb hg hown hK hP hD hS 0 rfl (Nat.le_of_ble_eq_true rfl) dX6_note_103 (fun H locs hP hD hS => ?_)
        have hP : va_P D vwCl [(m0, .inr (6, [.int (nI 0), .int (nI (n + 1)), .ref m1, .ref m2, .int (nI rn), .ref m3, .int (nI mn), .ref m4, .ref m5, .int (nI pn), .ref m6, .int (nI sn), .int co, .ref m7, .ref m8, .ref m9, .ref m10, .ref m11])), (m1, oI cI 60 (upd KP n (x))), (m2, oI cI 60 (upd KL n (y))), (m3, oI cI 5400 KR), (m4, oI cI 12 KM), (m5, oI cI 12 KN), (m6, oI cI 60 KS), (m7, oI cI 60 KB), (m8, oI cI 12 KT), (m9, oI cI 61 KE), (m10, oI cI 61 KF), (m11, oI cI 61 KX)] H := hP
        have hD : va_D A [(m0, .inr (6, [.int (nI 0), .int (nI (n + 1)), .ref m1, .ref m2, .int (nI rn), .ref m3, .int (nI mn), .ref m4, .ref m5, .int (nI pn), .ref m6, .int (nI sn), .int co, .ref m7, .ref m8, .ref m9, .ref m10, .ref m11])), (m1, oI cI 60 (upd KP n (x))), (m2, oI cI 60 (upd KL n (y))), (m3, oI cI 5400 KR), (m4, oI cI 12 KM), (m5, oI cI 12 KN), (m6, oI cI 60 KS), (m7, oI cI 60 KB), (m8, oI cI 12 KT), (m9, oI cI 61 KE), (m10, oI cI 61 KF), (m11, oI cI 61 KX)] := hD
        refine lv_aload_n hx hb dX6_note_106 rfl (lv_at hl 1 rfl) ?_
        refine gf_X6_50 hx hb hg hown hK hP 0 rfl rfl dX6_note_107 ?_
        refine lv_iconst (v := nI 1) hx hb dX6_note_110 (by decide) ?_
        refine lv_isub hx hb dX6_note_111 ?_
        refine lv_asi (pk_sub (by omega)) ?_
        exact hret _ _ 112 _ _ ((ff_N (n + 1) (rn) (mn) (pn) (sn) 0, ff_Z (nI 0) (co), ff_A14 (upd KP n (x)) (upd KL n (y)) (KR) (KM) (KN) (KS) (KB) (KT) (KE) (KF) (KX) (KX) (KX) (KX))) (Or.inr (Or.inr ⟨⟨c15, c27⟩, by omega, rfl, rfl⟩)) hP hD hS dX6_note_112

set_option maxHeartbeats 4000000 in
set_option maxRecDepth 100000 in
theorem c_drop (l : Launch) (D : va_G) (cI : ClassId) (m0 m1 m2 m3 m4 m5 m6 m7 m8 m9 m10 m11 : Nat) (th co : Int32) (n rn mn pn sn : Nat) (KP KL KR KM KN KS KB KT KE KF KX : Nat → Int32) (hn : n ≤ 60) (hmn : mn ≤ 12) (x : Int32) : Ci l yX6_drop cX6_drop 2 (some .int) 2 0 0 D (tI cI) [.ref m0, .int x] [(m0, .inr (6, [.int th, .int (nI n), .ref m1, .ref m2, .int (nI rn), .ref m3, .int (nI mn), .ref m4, .ref m5, .int (nI pn), .ref m6, .int (nI sn), .int co, .ref m7, .ref m8, .ref m9, .ref m10, .ref m11])), (m1, oI cI 60 KP), (m2, oI cI 60 KL), (m3, oI cI 5400 KR), (m4, oI cI 12 KM), (m5, oI cI 12 KN), (m6, oI cI 60 KS), (m7, oI cI 60 KB), (m8, oI cI 12 KT), (m9, oI cI 61 KE), (m10, oI cI 61 KF), (m11, oI cI 61 KX)] (S := ff_S) (fun r u => (¬ okDr n x ∧ r = nI 0 ∧ u = (ff_N (n) (rn) (mn) (pn) (sn) 0, ff_Z ((nI 1)) (co), ff_A14 (KP) (KL) (KR) (KM) (KN) (KS) (KB) (KT) (KE) (KF) (KX) (KX) (KX) (KX))) ∨ (okDr n x ∧ r = nI (n - cl x) ∧ u = (ff_N (n - cl x) (rn) (mn) (pn) (sn) 0, ff_Z ((nI 0)) (co), ff_A14 (KP) (KL) (KR) (KM) (KN) (KS) (KB) (KT) (KE) (KF) (KX) (KX) (KX) (KX)))) (fun u => [(m0, .inr (6, [.int ((u.2.1 0)), .int (nI (u.1 0)), .ref m1, .ref m2, .int (nI (u.1 1)), .ref m3, .int (nI (u.1 2)), .ref m4, .ref m5, .int (nI (u.1 3)), .ref m6, .int (nI (u.1 4)), .int ((u.2.1 1)), .ref m7, .ref m8, .ref m9, .ref m10, .ref m11])), (m1, oI cI 60 (u.2.2 0)), (m2, oI cI 60 (u.2.2 1)), (m3, oI cI 5400 (u.2.2 2)), (m4, oI cI 12 (u.2.2 3)), (m5, oI cI 12 (u.2.2 4)), (m6, oI cI 60 (u.2.2 5)), (m7, oI cI 60 (u.2.2 6)), (m8, oI cI 12 (u.2.2 7)), (m9, oI cI 61 (u.2.2 8)), (m10, oI cI 61 (u.2.2 9)), (m11, oI cI 61 (u.2.2 10))]) := by
  refine Ci.of (own := RX6) (lv := [(0, .ref m0), (1, .int x)]) (by decide +kernel) rfl (Nat.le_of_ble_eq_true rfl) rfl (fun x u h => vp_nar_int _) ?_
  intro p e s m args below meth c Q A cx hK hP hD hA hret ls hl
  obtain ⟨hx, hb, hml, hown, hg⟩ := id cx
  have hS : va_S A s.heap s.heap [] := va_S.rf
  refine lv_aload_n hx hb dX6_drop_0 rfl (lv_at hl 0 rfl) ?_
  refine lv_iconst (v := nI 0) hx hb dX6_drop_1 (by decide) ?_
  refine pf_X6_46 hx hb hg hown hK hP hD hS 0 rfl (Nat.le_of_ble_eq_true rfl) dX6_drop_2 (fun H locs hP hD hS => ?_)
  have hP : va_P D vwCl [(m0, .inr (6, [.int (nI 0), .int (nI n), .ref m1, .ref m2, .int (nI rn), .ref m3, .int (nI mn), .ref m4, .ref m5, .int (nI pn), .ref m6, .int (nI sn), .int co, .ref m7, .ref m8, .ref m9, .ref m10, .ref m11])), (m1, oI cI 60 KP), (m2, oI cI 60 KL), (m3, oI cI 5400 KR), (m4, oI cI 12 KM), (m5, oI cI 12 KN), (m6, oI cI 60 KS), (m7, oI cI 60 KB), (m8, oI cI 12 KT), (m9, oI cI 61 KE), (m10, oI cI 61 KF), (m11, oI cI 61 KX)] H := hP
  have hD : va_D A [(m0, .inr (6, [.int (nI 0), .int (nI n), .ref m1, .ref m2, .int (nI rn), .ref m3, .int (nI mn), .ref m4, .ref m5, .int (nI pn), .ref m6, .int (nI sn), .int co, .ref m7, .ref m8, .ref m9, .ref m10, .ref m11])), (m1, oI cI 60 KP), (m2, oI cI 60 KL), (m3, oI cI 5400 KR), (m4, oI cI 12 KM), (m5, oI cI 12 KN), (m6, oI cI 60 KS), (m7, oI cI 60 KB), (m8, oI cI 12 KT), (m9, oI cI 61 KE), (m10, oI cI 61 KF), (m11, oI cI 61 KX)] := hD
  refine lv_aload_n hx hb dX6_drop_5 rfl (lv_at hl 0 rfl) ?_
  refine lv_iload_n hx hb dX6_drop_6 rfl (lv_at hl 1 rfl) ?_
  refine lv_i2l hx hb dX6_drop_7 rfl ?_
  refine lv_lconst (v := 0) hx hb dX6_drop_8 (by decide) ?_
  refine lv_aload_n hx hb dX6_drop_9 rfl (lv_at hl 0 rfl) ?_
  refine gf_X6_50 hx hb hg hown hK hP 0 rfl rfl dX6_drop_10 ?_
  refine lv_i2l hx hb dX6_drop_13 rfl ?_
  refine Cp.callS (As := [.long ((Int32.toInt64 (x))), .long ((0 : Int64)), .long ((Int32.toInt64 (nI n)))]) (rest := [.ref m0]) (cv_X6_70 hg ⟨Nat.le_of_ble_eq_true rfl, Nat.le_of_ble_eq_true rfl⟩) (k_isIn32 l D cI [] (x) (nI 0) (nI n) _ _ (by decide) rfl) cx hK hP [] rfl hS rfl hl.1 rfl (Nat.le_of_ble_eq_true rfl) dX6_drop_14 ⟨Nat.zero_le _, Nat.zero_le _⟩ (fun H locs hP hS => ?_)
  refine lv_iconst (v := nI 1) hx hb dX6_drop_17 (by decide) ?_
  by_cases c18 : nI 0 ≤ x ∧ x ≤ nI n
  · rw [show bI (nI 0 ≤ x ∧ x ≤ nI n) = nI 1 from (bI_1 c18).symm]
    obtain ⟨j, hj, rfl⟩ := ff_of (by omega) c18
    refine Ci.callV (As := [.int (nI 1), .int (nI 1)]) (rest := []) (wr := [(m1, oI cI 60 KP), (m2, oI cI 60 KL), (m3, oI cI 5400 KR), (m4, oI cI 12 KM), (m5, oI cI 12 KN), (m6, oI cI 60 KS), (m7, oI cI 60 KB), (m8, oI cI 12 KT), (m9, oI cI 61 KE), (m10, oI cI 61 KF), (m11, oI cI 61 KX)]) (wn := (fun _ => [(m0, .inr (6, [.int (nI 0), .int (nI n), .ref m1, .ref m2, .int (nI rn), .ref m3, .int (nI mn), .ref m4, .ref m5, .int (nI pn), .ref m6, .int (nI sn), .int co, .ref m7, .ref m8, .ref m9, .ref m10, .ref m11])), (m1, oI cI 60 KP), (m2, oI cI 60 KL), (m3, oI cI 5400 KR), (m4, oI cI 12 KM), (m5, oI cI 12 KN), (m6, oI cI 60 KS), (m7, oI cI 60 KB), (m8, oI cI 12 KT), (m9, oI cI 61 KE), (m10, oI cI 61 KF), (m11, oI cI 61 KX)])) (cv_X6_76 hg ⟨Nat.le_of_ble_eq_true rfl, Nat.le_of_ble_eq_true rfl⟩) (k_go1 l D cI m0 (.int (nI n)) (.ref m1) (.ref m2) (.int (nI rn)) (.ref m3) (.int (nI mn)) (.ref m4) (.ref m5) (.int (nI pn)) (.ref m6) (.int (nI sn)) (.int co) (.ref m7) (.ref m8) (.ref m9) (.ref m10) (.ref m11) (nI 1)) cx hK hP hD hA [0] [1, 2, 3, 4, 5, 6, 7, 8, 9, 10, 11] [11, 0, 1, 2, 3, 4, 5, 6, 7, 8, 9, 10] rfl rfl (by decide) (fun _ => rfl) (rq := 0) rfl rfl rfl hS rfl hl.1 rfl (Nat.le_of_ble_eq_true rfl) dX6_drop_18 ⟨Nat.le_refl _, Nat.le_refl _⟩ (fun H locs r18 _ p18 hP hD hS => ?_)
    subst p18
    refine lv_if_ne (tgt := 26) hx hb dX6_drop_21 (by decide) (fun _ => ?_) (fun h9 => absurd h9 (by decide))
    refine lv_aload_n hx hb dX6_drop_26 rfl (lv_at hl 0 rfl) ?_
    refine lv_dup hx hb dX6_drop_27 rfl ?_
    refine gf_X6_50 hx hb hg hown hK hP 0 rfl rfl dX6_drop_28 ?_
    refine lv_iload_n hx hb dX6_drop_31 rfl (lv_at hl 1 rfl) ?_
    refine lv_isub hx hb dX6_drop_32 ?_
    refine lv_asi (pk_sub (by omega)) ?_
    refine pf_X6_50 hx hb hg hown hK hP hD hS 0 rfl (Nat.le_of_ble_eq_true rfl) dX6_drop_33 (fun H locs hP hD hS => ?_)
    have hP : va_P D vwCl [(m0, .inr (6, [.int (nI 0), .int (nI (n - j)), .ref m1, .ref m2, .int (nI rn), .ref m3, .int (nI mn), .ref m4, .ref m5, .int (nI pn), .ref m6, .int (nI sn), .int co, .ref m7, .ref m8, .ref m9, .ref m10, .ref m11])), (m1, oI cI 60 KP), (m2, oI cI 60 KL), (m3, oI cI 5400 KR), (m4, oI cI 12 KM), (m5, oI cI 12 KN), (m6, oI cI 60 KS), (m7, oI cI 60 KB), (m8, oI cI 12 KT), (m9, oI cI 61 KE), (m10, oI cI 61 KF), (m11, oI cI 61 KX)] H := hP
    have hD : va_D A [(m0, .inr (6, [.int (nI 0), .int (nI (n - j)), .ref m1, .ref m2, .int (nI rn), .ref m3, .int (nI mn), .ref m4, .ref m5, .int (nI pn), .ref m6, .int (nI sn), .int co, .ref m7, .ref m8, .ref m9, .ref m10, .ref m11])), (m1, oI cI 60 KP), (m2, oI cI 60 KL), (m3, oI cI 5400 KR), (m4, oI cI 12 KM), (m5, oI cI 12 KN), (m6, oI cI 60 KS), (m7, oI cI 60 KB), (m8, oI cI 12 KT), (m9, oI cI 61 KE), (m10, oI cI 61 KF), (m11, oI cI 61 KX)] := hD
    refine lv_aload_n hx hb dX6_drop_36 rfl (lv_at hl 0 rfl) ?_
    refine gf_X6_50 hx hb hg hown hK hP 0 rfl rfl dX6_drop_37 ?_
    exact hret _ _ 40 _ _ ((ff_N (n - j) (rn) (mn) (pn) (sn) 0, ff_Z (nI 0) (co), ff_A14 (KP) (KL) (KR) (KM) (KN) (KS) (KB) (KT) (KE) (KF) (KX) (KX) (KX) (KX))) (Or.inr ⟨⟨j, hj, rfl⟩, by rw [cl_n (by omega)], by rw [cl_n (by omega)]⟩) hP hD hS dX6_drop_40
  · rw [show bI (nI 0 ≤ x ∧ x ≤ nI n) = nI 0 from (bI_0 c18).symm]
    refine Ci.callV (As := [.int (nI 0), .int (nI 1)]) (rest := []) (wr := [(m1, oI cI 60 KP), (m2, oI cI 60 KL), (m3, oI cI 5400 KR), (m4, oI cI 12 KM), (m5, oI cI 12 KN), (m6, oI cI 60 KS), (m7, oI cI 60 KB), (m8, oI cI 12 KT), (m9, oI cI 61 KE), (m10, oI cI 61 KF), (m11, oI cI 61 KX)]) (wn := (fun _ => [(m0, .inr (6, [.int ((nI 1)), .int (nI n), .ref m1, .ref m2, .int (nI rn), .ref m3, .int (nI mn), .ref m4, .ref m5, .int (nI pn), .ref m6, .int (nI sn), .int co, .ref m7, .ref m8, .ref m9, .ref m10, .ref m11])), (m1, oI cI 60 KP), (m2, oI cI 60 KL), (m3, oI cI 5400 KR), (m4, oI cI 12 KM), (m5, oI cI 12 KN), (m6, oI cI 60 KS), (m7, oI cI 60 KB), (m8, oI cI 12 KT), (m9, oI cI 61 KE), (m10, oI cI 61 KF), (m11, oI cI 61 KX)])) (cv_X6_76 hg ⟨Nat.le_of_ble_eq_true rfl, Nat.le_of_ble_eq_true rfl⟩) (k_go0 l D cI m0 (.int (nI n)) (.ref m1) (.ref m2) (.int (nI rn)) (.ref m3) (.int (nI mn)) (.ref m4) (.ref m5) (.int (nI pn)) (.ref m6) (.int (nI sn)) (.int co) (.ref m7) (.ref m8) (.ref m9) (.ref m10) (.ref m11) 1 (by decide) (by decide)) cx hK hP hD hA [0] [1, 2, 3, 4, 5, 6, 7, 8, 9, 10, 11] [11, 0, 1, 2, 3, 4, 5, 6, 7, 8, 9, 10] rfl rfl (by decide) (fun _ => rfl) (rq := 0) rfl rfl rfl hS rfl hl.1 rfl (Nat.le_of_ble_eq_true rfl) dX6_drop_18 ⟨Nat.le_refl _, Nat.le_refl _⟩ (fun H locs r18 _ p18 hP hD hS => ?_)
    subst p18
    refine lv_if_ne (tgt := 26) hx hb dX6_drop_21 (by decide) (fun h9 => absurd (by decide) h9) (fun _ => ?_)
    refine lv_iconst (v := nI 0) hx hb dX6_drop_24 (by decide) ?_
    exact hret _ _ 25 _ _ ((ff_N (n) (rn) (mn) (pn) (sn) 0, ff_Z ((nI 1)) (co), ff_A14 (KP) (KL) (KR) (KM) (KN) (KS) (KB) (KT) (KE) (KF) (KX) (KX) (KX) (KX))) (Or.inl ⟨fun ⟨j, hj, e9⟩ => c18 (by rw [e9]; exact ff_le hj (by omega)), rfl, rfl⟩) hP hD hS dX6_drop_25

set_option maxHeartbeats 4000000 in
set_option maxRecDepth 100000 in
theorem c_items (l : Launch) (D : va_G) (cI : ClassId) (m0 m1 m2 m3 m4 m5 m6 m7 m8 m9 m10 m11 : Nat) (th co : Int32) (n rn mn pn sn : Nat) (KP KL KR KM KN KS KB KT KE KF KX : Nat → Int32) (hn : n ≤ 60) (hmn : mn ≤ 12) (vw : Int32) : Ci l yX6_items cX6_items 2 (some .int) 2 0 0 D (tI cI) [.ref m0, .int vw] [(m0, .inr (6, [.int th, .int (nI n), .ref m1, .ref m2, .int (nI rn), .ref m3, .int (nI mn), .ref m4, .ref m5, .int (nI pn), .ref m6, .int (nI sn), .int co, .ref m7, .ref m8, .ref m9, .ref m10, .ref m11])), (m1, oI cI 60 KP), (m2, oI cI 60 KL), (m3, oI cI 5400 KR), (m4, oI cI 12 KM), (m5, oI cI 12 KN), (m6, oI cI 60 KS), (m7, oI cI 60 KB), (m8, oI cI 12 KT), (m9, oI cI 61 KE), (m10, oI cI 61 KF), (m11, oI cI 61 KX)] (S := ff_S) (fun r u => (¬ okV vw ∧ r = nI 0 ∧ u = (ff_N (n) (rn) (mn) (pn) (sn) 0, ff_Z ((nI 1)) (co), ff_A14 (KP) (KL) (KR) (KM) (KN) (KS) (KB) (KT) (KE) (KF) (KX) (KX) (KX) (KX))) ∨ (okV vw ∧ r = nI (ff_cnt (cl vw) n) ∧ u = (ff_N (n) (rn) (mn) (pn) (sn) 0, ff_Z ((nI 0)) (co), ff_A14 (KP) (KL) (KR) (KM) (KN) (KS) (KB) (KT) (KE) (KF) (KX) (KX) (KX) (KX)))) (fun u => [(m0, .inr (6, [.int ((u.2.1 0)), .int (nI (u.1 0)), .ref m1, .ref m2, .int (nI (u.1 1)), .ref m3, .int (nI (u.1 2)), .ref m4, .ref m5, .int (nI (u.1 3)), .ref m6, .int (nI (u.1 4)), .int ((u.2.1 1)), .ref m7, .ref m8, .ref m9, .ref m10, .ref m11])), (m1, oI cI 60 (u.2.2 0)), (m2, oI cI 60 (u.2.2 1)), (m3, oI cI 5400 (u.2.2 2)), (m4, oI cI 12 (u.2.2 3)), (m5, oI cI 12 (u.2.2 4)), (m6, oI cI 60 (u.2.2 5)), (m7, oI cI 60 (u.2.2 6)), (m8, oI cI 12 (u.2.2 7)), (m9, oI cI 61 (u.2.2 8)), (m10, oI cI 61 (u.2.2 9)), (m11, oI cI 61 (u.2.2 10))]) := by
  refine Ci.of (own := RX6) (lv := [(0, .ref m0), (1, .int vw)]) (by decide +kernel) rfl (Nat.le_of_ble_eq_true rfl) rfl (fun x u h => vp_nar_int _) ?_
  intro p e s m args below meth c Q A cx hK hP hD hA hret ls hl
  obtain ⟨hx, hb, hml, hown, hg⟩ := id cx
  have hS : va_S A s.heap s.heap [] := va_S.rf
  refine lv_aload_n hx hb dX6_items_0 rfl (lv_at hl 0 rfl) ?_
  refine lv_iconst (v := nI 0) hx hb dX6_items_1 (by decide) ?_
  refine pf_X6_46 hx hb hg hown hK hP hD hS 0 rfl (Nat.le_of_ble_eq_true rfl) dX6_items_2 (fun H locs hP hD hS => ?_)
  have hP : va_P D vwCl [(m0, .inr (6, [.int (nI 0), .int (nI n), .ref m1, .ref m2, .int (nI rn), .ref m3, .int (nI mn), .ref m4, .ref m5, .int (nI pn), .ref m6, .int (nI sn), .int co, .ref m7, .ref m8, .ref m9, .ref m10, .ref m11])), (m1, oI cI 60 KP), (m2, oI cI 60 KL), (m3, oI cI 5400 KR), (m4, oI cI 12 KM), (m5, oI cI 12 KN), (m6, oI cI 60 KS), (m7, oI cI 60 KB), (m8, oI cI 12 KT), (m9, oI cI 61 KE), (m10, oI cI 61 KF), (m11, oI cI 61 KX)] H := hP
  have hD : va_D A [(m0, .inr (6, [.int (nI 0), .int (nI n), .ref m1, .ref m2, .int (nI rn), .ref m3, .int (nI mn), .ref m4, .ref m5, .int (nI pn), .ref m6, .int (nI sn), .int co, .ref m7, .ref m8, .ref m9, .ref m10, .ref m11])), (m1, oI cI 60 KP), (m2, oI cI 60 KL), (m3, oI cI 5400 KR), (m4, oI cI 12 KM), (m5, oI cI 12 KN), (m6, oI cI 60 KS), (m7, oI cI 60 KB), (m8, oI cI 12 KT), (m9, oI cI 61 KE), (m10, oI cI 61 KF), (m11, oI cI 61 KX)] := hD
  refine lv_aload_n hx hb dX6_items_5 rfl (lv_at hl 0 rfl) ?_
  refine lv_iload_n hx hb dX6_items_6 rfl (lv_at hl 1 rfl) ?_
  refine Cp.callS (As := [.int vw]) (rest := [.ref m0]) (cv_X6_82 hg ⟨Nat.le_of_ble_eq_true rfl, Nat.le_of_ble_eq_true rfl⟩) (k_MisView l D cI [] vw) cx hK hP [] rfl hS rfl hl.1 rfl (Nat.le_of_ble_eq_true rfl) dX6_items_7 ⟨Nat.zero_le _, Nat.zero_le _⟩ (fun H locs hP hS => ?_)
  refine lv_iconst (v := nI 1) hx hb dX6_items_10 (by decide) ?_
  by_cases c11 : nI 0 ≤ vw ∧ vw ≤ nI 4
  · rw [show bI (nI 0 ≤ vw ∧ vw ≤ nI 4) = nI 1 from (bI_1 c11).symm]
    obtain ⟨v, hv, rfl⟩ := ff_of (by decide) c11
    refine Ci.callV (As := [.int (nI 1), .int (nI 1)]) (rest := []) (wr := [(m1, oI cI 60 KP), (m2, oI cI 60 KL), (m3, oI cI 5400 KR), (m4, oI cI 12 KM), (m5, oI cI 12 KN), (m6, oI cI 60 KS), (m7, oI cI 60 KB), (m8, oI cI 12 KT), (m9, oI cI 61 KE), (m10, oI cI 61 KF), (m11, oI cI 61 KX)]) (wn := (fun _ => [(m0, .inr (6, [.int (nI 0), .int (nI n), .ref m1, .ref m2, .int (nI rn), .ref m3, .int (nI mn), .ref m4, .ref m5, .int (nI pn), .ref m6, .int (nI sn), .int co, .ref m7, .ref m8, .ref m9, .ref m10, .ref m11])), (m1, oI cI 60 KP), (m2, oI cI 60 KL), (m3, oI cI 5400 KR), (m4, oI cI 12 KM), (m5, oI cI 12 KN), (m6, oI cI 60 KS), (m7, oI cI 60 KB), (m8, oI cI 12 KT), (m9, oI cI 61 KE), (m10, oI cI 61 KF), (m11, oI cI 61 KX)])) (cv_X6_76 hg ⟨Nat.le_of_ble_eq_true rfl, Nat.le_of_ble_eq_true rfl⟩) (k_go1 l D cI m0 (.int (nI n)) (.ref m1) (.ref m2) (.int (nI rn)) (.ref m3) (.int (nI mn)) (.ref m4) (.ref m5) (.int (nI pn)) (.ref m6) (.int (nI sn)) (.int co) (.ref m7) (.ref m8) (.ref m9) (.ref m10) (.ref m11) (nI 1)) cx hK hP hD hA [0] [1, 2, 3, 4, 5, 6, 7, 8, 9, 10, 11] [11, 0, 1, 2, 3, 4, 5, 6, 7, 8, 9, 10] rfl rfl (by decide) (fun _ => rfl) (rq := 0) rfl rfl rfl hS rfl hl.1 rfl (Nat.le_of_ble_eq_true rfl) dX6_items_11 ⟨Nat.le_refl _, Nat.le_refl _⟩ (fun H locs r11 _ p11 hP hD hS => ?_)
    subst p11
    refine lv_if_eq (tgt := 25) hx hb dX6_items_14 (by decide) (fun h9 => absurd h9 (by decide)) (fun _ => ?_)
    refine lv_aload_n hx hb dX6_items_17 rfl (lv_at hl 0 rfl) ?_
    refine lv_iload_n hx hb dX6_items_18 rfl (lv_at hl 1 rfl) ?_
    refine Cp.callV (As := [.int (nI v)]) (rest := []) (cv_X6_86 hg ⟨Nat.le_of_ble_eq_true rfl, Nat.le_of_ble_eq_true rfl⟩) (k_many l D cI m0 m1 m2 m3 m4 m5 m6 m7 m8 m9 m10 m11 (nI 0) (co) (n) (rn) (mn) (pn) (sn) v hv hn) cx hK hP [0] rfl (rq := 0) rfl rfl rfl hS rfl hl.1 rfl (Nat.le_of_ble_eq_true rfl) dX6_items_19 ⟨Nat.zero_le _, Nat.zero_le _⟩ (fun H locs hP hS => ?_)
    refine lv_goto (tgt := 26) hx hb dX6_items_22 (by decide) ?_
    exact hret _ _ 26 _ _ ((ff_N (n) (rn) (mn) (pn) (sn) 0, ff_Z (nI 0) (co), ff_A14 (KP) (KL) (KR) (KM) (KN) (KS) (KB) (KT) (KE) (KF) (KX) (KX) (KX) (KX))) (by first | exact Or.inr ⟨⟨v, hv, rfl⟩, by rw [cl_n (by omega)], rfl⟩ | exact Or.inl ⟨fun ⟨v, hv, e9⟩ => c11 (by rw [e9]; exact ff_le hv (by decide)), rfl, rfl⟩) hP hD hS dX6_items_26
  · rw [show bI (nI 0 ≤ vw ∧ vw ≤ nI 4) = nI 0 from (bI_0 c11).symm]
    refine Ci.callV (As := [.int (nI 0), .int (nI 1)]) (rest := []) (wr := [(m1, oI cI 60 KP), (m2, oI cI 60 KL), (m3, oI cI 5400 KR), (m4, oI cI 12 KM), (m5, oI cI 12 KN), (m6, oI cI 60 KS), (m7, oI cI 60 KB), (m8, oI cI 12 KT), (m9, oI cI 61 KE), (m10, oI cI 61 KF), (m11, oI cI 61 KX)]) (wn := (fun _ => [(m0, .inr (6, [.int ((nI 1)), .int (nI n), .ref m1, .ref m2, .int (nI rn), .ref m3, .int (nI mn), .ref m4, .ref m5, .int (nI pn), .ref m6, .int (nI sn), .int co, .ref m7, .ref m8, .ref m9, .ref m10, .ref m11])), (m1, oI cI 60 KP), (m2, oI cI 60 KL), (m3, oI cI 5400 KR), (m4, oI cI 12 KM), (m5, oI cI 12 KN), (m6, oI cI 60 KS), (m7, oI cI 60 KB), (m8, oI cI 12 KT), (m9, oI cI 61 KE), (m10, oI cI 61 KF), (m11, oI cI 61 KX)])) (cv_X6_76 hg ⟨Nat.le_of_ble_eq_true rfl, Nat.le_of_ble_eq_true rfl⟩) (k_go0 l D cI m0 (.int (nI n)) (.ref m1) (.ref m2) (.int (nI rn)) (.ref m3) (.int (nI mn)) (.ref m4) (.ref m5) (.int (nI pn)) (.ref m6) (.int (nI sn)) (.int co) (.ref m7) (.ref m8) (.ref m9) (.ref m10) (.ref m11) 1 (by decide) (by decide)) cx hK hP hD hA [0] [1, 2, 3, 4, 5, 6, 7, 8, 9, 10, 11] [11, 0, 1, 2, 3, 4, 5, 6, 7, 8, 9, 10] rfl rfl (by decide) (fun _ => rfl) (rq := 0) rfl rfl rfl hS rfl hl.1 rfl (Nat.le_of_ble_eq_true rfl) dX6_items_11 ⟨Nat.le_refl _, Nat.le_refl _⟩ (fun H locs r11 _ p11 hP hD hS => ?_)
    subst p11
    refine lv_if_eq (tgt := 25) hx hb dX6_items_14 (by decide) (fun _ => ?_) (fun h9 => absurd (by decide) h9)
    refine lv_iconst (v := nI 0) hx hb dX6_items_25 (by decide) ?_
    exact hret _ _ 26 _ _ ((ff_N (n) (rn) (mn) (pn) (sn) 0, ff_Z ((nI 1)) (co), ff_A14 (KP) (KL) (KR) (KM) (KN) (KS) (KB) (KT) (KE) (KF) (KX) (KX) (KX) (KX))) (by first | exact Or.inr ⟨⟨v, hv, rfl⟩, by rw [cl_n (by omega)], rfl⟩ | exact Or.inl ⟨fun ⟨v, hv, e9⟩ => c11 (by rw [e9]; exact ff_le hv (by decide)), rfl, rfl⟩) hP hD hS dX6_items_26

set_option maxHeartbeats 4000000 in
set_option maxRecDepth 100000 in
theorem c_item (l : Launch) (D : va_G) (cI : ClassId) (m0 m1 m2 m3 m4 m5 m6 m7 m8 m9 m10 m11 : Nat) (th co : Int32) (n rn mn pn sn : Nat) (KP KL KR KM KN KS KB KT KE KF KX : Nat → Int32) (hn : n ≤ 60) (hmn : mn ≤ 12) (vw i : Int32) (hR : ∀ t, t < n → 0 ≤ (KP t).toInt ∧ (KP t).toInt ≤ 127) : Ci l yX6_item cX6_item 3 (some .int) 2 0 0 D (tI cI) [.ref m0, .int vw, .int i] [(m0, .inr (6, [.int th, .int (nI n), .ref m1, .ref m2, .int (nI rn), .ref m3, .int (nI mn), .ref m4, .ref m5, .int (nI pn), .ref m6, .int (nI sn), .int co, .ref m7, .ref m8, .ref m9, .ref m10, .ref m11])), (m1, oI cI 60 KP), (m2, oI cI 60 KL), (m3, oI cI 5400 KR), (m4, oI cI 12 KM), (m5, oI cI 12 KN), (m6, oI cI 60 KS), (m7, oI cI 60 KB), (m8, oI cI 12 KT), (m9, oI cI 61 KE), (m10, oI cI 61 KF), (m11, oI cI 61 KX)] (S := ff_S) (fun r u => (¬ okVI n vw i ∧ r = nI 0 ∧ u = (ff_N (n) (rn) (mn) (pn) (sn) 0, ff_Z ((nI 1)) (co), ff_A14 (KP) (KL) (KR) (KM) (KN) (KS) (KB) (KT) (KE) (KF) (KX) (KX) (KX) (KX))) ∨ (okVI n vw i ∧ r = ff_it KP KL (cl vw) (cl i) ∧ u = (ff_N (n) (rn) (mn) (pn) (sn) 0, ff_Z ((nI 0)) (co), ff_A14 (KP) (KL) (KR) (KM) (KN) (KS) (KB) (KT) (KE) (KF) (KX) (KX) (KX) (KX)))) (fun u => [(m0, .inr (6, [.int ((u.2.1 0)), .int (nI (u.1 0)), .ref m1, .ref m2, .int (nI (u.1 1)), .ref m3, .int (nI (u.1 2)), .ref m4, .ref m5, .int (nI (u.1 3)), .ref m6, .int (nI (u.1 4)), .int ((u.2.1 1)), .ref m7, .ref m8, .ref m9, .ref m10, .ref m11])), (m1, oI cI 60 (u.2.2 0)), (m2, oI cI 60 (u.2.2 1)), (m3, oI cI 5400 (u.2.2 2)), (m4, oI cI 12 (u.2.2 3)), (m5, oI cI 12 (u.2.2 4)), (m6, oI cI 60 (u.2.2 5)), (m7, oI cI 60 (u.2.2 6)), (m8, oI cI 12 (u.2.2 7)), (m9, oI cI 61 (u.2.2 8)), (m10, oI cI 61 (u.2.2 9)), (m11, oI cI 61 (u.2.2 10))]) := by
  refine Ci.of (own := RX6) (lv := [(0, .ref m0), (1, .int vw), (2, .int i)]) (by decide +kernel) rfl (Nat.le_of_ble_eq_true rfl) rfl (fun x u h => vp_nar_int _) ?_
  intro p e s m args below meth c Q A cx hK hP hD hA hret ls hl
  obtain ⟨hx, hb, hml, hown, hg⟩ := id cx
  have hS : va_S A s.heap s.heap [] := va_S.rf
  refine lv_aload_n hx hb dX6_item_0 rfl (lv_at hl 0 rfl) ?_
  refine lv_iconst (v := nI 0) hx hb dX6_item_1 (by decide) ?_
  refine pf_X6_46 hx hb hg hown hK hP hD hS 0 rfl (Nat.le_of_ble_eq_true rfl) dX6_item_2 (fun H locs hP hD hS => ?_)
  have hP : va_P D vwCl [(m0, .inr (6, [.int (nI 0), .int (nI n), .ref m1, .ref m2, .int (nI rn), .ref m3, .int (nI mn), .ref m4, .ref m5, .int (nI pn), .ref m6, .int (nI sn), .int co, .ref m7, .ref m8, .ref m9, .ref m10, .ref m11])), (m1, oI cI 60 KP), (m2, oI cI 60 KL), (m3, oI cI 5400 KR), (m4, oI cI 12 KM), (m5, oI cI 12 KN), (m6, oI cI 60 KS), (m7, oI cI 60 KB), (m8, oI cI 12 KT), (m9, oI cI 61 KE), (m10, oI cI 61 KF), (m11, oI cI 61 KX)] H := hP
  have hD : va_D A [(m0, .inr (6, [.int (nI 0), .int (nI n), .ref m1, .ref m2, .int (nI rn), .ref m3, .int (nI mn), .ref m4, .ref m5, .int (nI pn), .ref m6, .int (nI sn), .int co, .ref m7, .ref m8, .ref m9, .ref m10, .ref m11])), (m1, oI cI 60 KP), (m2, oI cI 60 KL), (m3, oI cI 5400 KR), (m4, oI cI 12 KM), (m5, oI cI 12 KN), (m6, oI cI 60 KS), (m7, oI cI 60 KB), (m8, oI cI 12 KT), (m9, oI cI 61 KE), (m10, oI cI 61 KF), (m11, oI cI 61 KX)] := hD
  refine lv_aload_n hx hb dX6_item_5 rfl (lv_at hl 0 rfl) ?_
  refine lv_iload_n hx hb dX6_item_6 rfl (lv_at hl 1 rfl) ?_
  refine Cp.callS (As := [.int vw]) (rest := [.ref m0]) (cv_X6_82 hg ⟨Nat.le_of_ble_eq_true rfl, Nat.le_of_ble_eq_true rfl⟩) (k_MisView l D cI [] vw) cx hK hP [] rfl hS rfl hl.1 rfl (Nat.le_of_ble_eq_true rfl) dX6_item_7 ⟨Nat.zero_le _, Nat.zero_le _⟩ (fun H locs hP hS => ?_)
  refine lv_if_eq (tgt := 34) hx hb dX6_item_10 (by decide) (fun c10 => ?_) (fun c10 => ?_)
  · have c10 := bI_z.mp c10
    refine lv_iconst (v := nI 0) hx hb dX6_item_34 (by decide) ?_
    refine lv_iconst (v := nI 1) hx hb dX6_item_35 (by decide) ?_
    refine Ci.callV (As := [.int (nI 0), .int (nI 1)]) (rest := []) (wr := [(m1, oI cI 60 KP), (m2, oI cI 60 KL), (m3, oI cI 5400 KR), (m4, oI cI 12 KM), (m5, oI cI 12 KN), (m6, oI cI 60 KS), (m7, oI cI 60 KB), (m8, oI cI 12 KT), (m9, oI cI 61 KE), (m10, oI cI 61 KF), (m11, oI cI 61 KX)]) (wn := (fun _ => [(m0, .inr (6, [.int ((nI 1)), .int (nI n), .ref m1, .ref m2, .int (nI rn), .ref m3, .int (nI mn), .ref m4, .ref m5, .int (nI pn), .ref m6, .int (nI sn), .int co, .ref m7, .ref m8, .ref m9, .ref m10, .ref m11])), (m1, oI cI 60 KP), (m2, oI cI 60 KL), (m3, oI cI 5400 KR), (m4, oI cI 12 KM), (m5, oI cI 12 KN), (m6, oI cI 60 KS), (m7, oI cI 60 KB), (m8, oI cI 12 KT), (m9, oI cI 61 KE), (m10, oI cI 61 KF), (m11, oI cI 61 KX)])) (cv_X6_76 hg ⟨Nat.le_of_ble_eq_true rfl, Nat.le_of_ble_eq_true rfl⟩) (k_go0 l D cI m0 (.int (nI n)) (.ref m1) (.ref m2) (.int (nI rn)) (.ref m3) (.int (nI mn)) (.ref m4) (.ref m5) (.int (nI pn)) (.ref m6) (.int (nI sn)) (.int co) (.ref m7) (.ref m8) (.ref m9) (.ref m10) (.ref m11) 1 (by decide) (by decide)) cx hK hP hD hA [0] [1, 2, 3, 4, 5, 6, 7, 8, 9, 10, 11] [11, 0, 1, 2, 3, 4, 5, 6, 7, 8, 9, 10] rfl rfl (by decide) (fun _ => rfl) (rq := 0) rfl rfl rfl hS rfl hl.1 rfl (Nat.le_of_ble_eq_true rfl) dX6_item_36 ⟨Nat.le_refl _, Nat.le_refl _⟩ (fun H locs r36 _ p36 hP hD hS => ?_)
    subst p36
    refine lv_if_eq (tgt := 51) hx hb dX6_item_39 (by decide) (fun _ => ?_) (fun h9 => absurd (by decide) h9)
    refine lv_iconst (v := nI 0) hx hb dX6_item_51 (by decide) ?_
    exact hret _ _ 52 _ _ ((ff_N (n) (rn) (mn) (pn) (sn) 0, ff_Z ((nI 1)) (co), ff_A14 (KP) (KL) (KR) (KM) (KN) (KS) (KB) (KT) (KE) (KF) (KX) (KX) (KX) (KX))) (by first | exact Or.inr ⟨⟨v, hv, rfl, j, hj, rfl⟩, by rw [cl_n (by omega), cl_n (by omega)], rfl⟩ | exact Or.inl ⟨fun h => by first | (obtain ⟨v, hv, e9, _⟩ := h; exact c10 (by rw [e9]; exact ff_le hv (by decide))) | (obtain ⟨v9, hv9, e9, j9, hj9, e8⟩ := h; obtain rfl := nI_inj (by omega) (by omega) e9; exact c27 (by rw [e8]; exact ff_le2 hj9 (by omega))), rfl, rfl⟩) hP hD hS dX6_item_52
  · have c10 := bI_nz.mp c10
    obtain ⟨v, hv, rfl⟩ := ff_of (by decide) c10
    refine lv_iload_n hx hb dX6_item_13 rfl (lv_at hl 2 rfl) ?_
    refine lv_i2l hx hb dX6_item_14 rfl ?_
    refine lv_lconst (v := 0) hx hb dX6_item_15 (by decide) ?_
    refine lv_aload_n hx hb dX6_item_16 rfl (lv_at hl 0 rfl) ?_
    refine lv_iload_n hx hb dX6_item_17 rfl (lv_at hl 1 rfl) ?_
    refine Cp.callV (As := [.int (nI v)]) (rest := [.long ((0 : Int64)), .long ((Int32.toInt64 (i))), .ref m0]) (cv_X6_86 hg ⟨Nat.le_of_ble_eq_true rfl, Nat.le_of_ble_eq_true rfl⟩) (k_many l D cI m0 m1 m2 m3 m4 m5 m6 m7 m8 m9 m10 m11 (nI 0) (co) (n) (rn) (mn) (pn) (sn) v hv hn) cx hK hP [0] rfl (rq := 0) rfl rfl rfl hS rfl hl.1 rfl (Nat.le_of_ble_eq_true rfl) dX6_item_18 ⟨Nat.zero_le _, Nat.zero_le _⟩ (fun H locs hP hS => ?_)
    have hcn := ff_cnt_le v n
    refine lv_iconst (v := nI 1) hx hb dX6_item_21 (by decide) ?_
    refine lv_isub hx hb dX6_item_22 ?_
    refine lv_i2l hx hb dX6_item_23 rfl ?_
    refine Cp.callS (As := [.long ((Int32.toInt64 (i))), .long ((0 : Int64)), .long ((Int32.toInt64 ((nI (ff_cnt v n) - nI 1))))]) (rest := [.ref m0]) (cv_X6_70 hg ⟨Nat.le_of_ble_eq_true rfl, Nat.le_of_ble_eq_true rfl⟩) (k_isIn32 l D cI [] (i) (nI 0) ((nI (ff_cnt v n) - nI 1)) _ _ (by decide) rfl) cx hK hP [] rfl hS rfl hl.1 rfl (Nat.le_of_ble_eq_true rfl) dX6_item_24 ⟨Nat.zero_le _, Nat.zero_le _⟩ (fun H locs hP hS => ?_)
    refine lv_if_eq (tgt := 34) hx hb dX6_item_27 (by decide) (fun c27 => ?_) (fun c27 => ?_)
    · have c27 := bI_z.mp c27
      refine lv_iconst (v := nI 0) hx hb dX6_item_34 (by decide) ?_
      refine lv_iconst (v := nI 1) hx hb dX6_item_35 (by decide) ?_
      refine Ci.callV (As := [.int (nI 0), .int (nI 1)]) (rest := []) (wr := [(m1, oI cI 60 KP), (m2, oI cI 60 KL), (m3, oI cI 5400 KR), (m4, oI cI 12 KM), (m5, oI cI 12 KN), (m6, oI cI 60 KS), (m7, oI cI 60 KB), (m8, oI cI 12 KT), (m9, oI cI 61 KE), (m10, oI cI 61 KF), (m11, oI cI 61 KX)]) (wn := (fun _ => [(m0, .inr (6, [.int ((nI 1)), .int (nI n), .ref m1, .ref m2, .int (nI rn), .ref m3, .int (nI mn), .ref m4, .ref m5, .int (nI pn), .ref m6, .int (nI sn), .int co, .ref m7, .ref m8, .ref m9, .ref m10, .ref m11])), (m1, oI cI 60 KP), (m2, oI cI 60 KL), (m3, oI cI 5400 KR), (m4, oI cI 12 KM), (m5, oI cI 12 KN), (m6, oI cI 60 KS), (m7, oI cI 60 KB), (m8, oI cI 12 KT), (m9, oI cI 61 KE), (m10, oI cI 61 KF), (m11, oI cI 61 KX)])) (cv_X6_76 hg ⟨Nat.le_of_ble_eq_true rfl, Nat.le_of_ble_eq_true rfl⟩) (k_go0 l D cI m0 (.int (nI n)) (.ref m1) (.ref m2) (.int (nI rn)) (.ref m3) (.int (nI mn)) (.ref m4) (.ref m5) (.int (nI pn)) (.ref m6) (.int (nI sn)) (.int co) (.ref m7) (.ref m8) (.ref m9) (.ref m10) (.ref m11) 1 (by decide) (by decide)) cx hK hP hD hA [0] [1, 2, 3, 4, 5, 6, 7, 8, 9, 10, 11] [11, 0, 1, 2, 3, 4, 5, 6, 7, 8, 9, 10] rfl rfl (by decide) (fun _ => rfl) (rq := 0) rfl rfl rfl hS rfl hl.1 rfl (Nat.le_of_ble_eq_true rfl) dX6_item_36 ⟨Nat.le_refl _, Nat.le_refl _⟩ (fun H locs r36 _ p36 hP hD hS => ?_)
      subst p36
      refine lv_if_eq (tgt := 51) hx hb dX6_item_39 (by decide) (fun _ => ?_) (fun h9 => absurd (by decide) h9)
      refine lv_iconst (v := nI 0) hx hb dX6_item_51 (by decide) ?_
      exact hret _ _ 52 _ _ ((ff_N (n) (rn) (mn) (pn) (sn) 0, ff_Z ((nI 1)) (co), ff_A14 (KP) (KL) (KR) (KM) (KN) (KS) (KB) (KT) (KE) (KF) (KX) (KX) (KX) (KX))) (by first | exact Or.inr ⟨⟨v, hv, rfl, j, hj, rfl⟩, by rw [cl_n (by omega), cl_n (by omega)], rfl⟩ | exact Or.inl ⟨fun h => by first | (obtain ⟨v, hv, e9, _⟩ := h; exact c10 (by rw [e9]; exact ff_le hv (by decide))) | (obtain ⟨v9, hv9, e9, j9, hj9, e8⟩ := h; obtain rfl := nI_inj (by omega) (by omega) e9; exact c27 (by rw [e8]; exact ff_le2 hj9 (by omega))), rfl, rfl⟩) hP hD hS dX6_item_52
    · have c27 := bI_nz.mp c27
      obtain ⟨j, hj, rfl⟩ := ff_of2 (by omega) c27
      refine lv_iconst (v := nI 1) hx hb dX6_item_30 (by decide) ?_
      refine lv_goto (tgt := 35) hx hb dX6_item_31 (by decide) ?_
      refine lv_iconst (v := nI 1) hx hb dX6_item_35 (by decide) ?_
      refine Ci.callV (As := [.int (nI 1), .int (nI 1)]) (rest := []) (wr := [(m1, oI cI 60 KP), (m2, oI cI 60 KL), (m3, oI cI 5400 KR), (m4, oI cI 12 KM), (m5, oI cI 12 KN), (m6, oI cI 60 KS), (m7, oI cI 60 KB), (m8, oI cI 12 KT), (m9, oI cI 61 KE), (m10, oI cI 61 KF), (m11, oI cI 61 KX)]) (wn := (fun _ => [(m0, .inr (6, [.int (nI 0), .int (nI n), .ref m1, .ref m2, .int (nI rn), .ref m3, .int (nI mn), .ref m4, .ref m5, .int (nI pn), .ref m6, .int (nI sn), .int co, .ref m7, .ref m8, .ref m9, .ref m10, .ref m11])), (m1, oI cI 60 KP), (m2, oI cI 60 KL), (m3, oI cI 5400 KR), (m4, oI cI 12 KM), (m5, oI cI 12 KN), (m6, oI cI 60 KS), (m7, oI cI 60 KB), (m8, oI cI 12 KT), (m9, oI cI 61 KE), (m10, oI cI 61 KF), (m11, oI cI 61 KX)])) (cv_X6_76 hg ⟨Nat.le_of_ble_eq_true rfl, Nat.le_of_ble_eq_true rfl⟩) (k_go1 l D cI m0 (.int (nI n)) (.ref m1) (.ref m2) (.int (nI rn)) (.ref m3) (.int (nI mn)) (.ref m4) (.ref m5) (.int (nI pn)) (.ref m6) (.int (nI sn)) (.int co) (.ref m7) (.ref m8) (.ref m9) (.ref m10) (.ref m11) (nI 1)) cx hK hP hD hA [0] [1, 2, 3, 4, 5, 6, 7, 8, 9, 10, 11] [11, 0, 1, 2, 3, 4, 5, 6, 7, 8, 9, 10] rfl rfl (by decide) (fun _ => rfl) (rq := 0) rfl rfl rfl hS rfl hl.1 rfl (Nat.le_of_ble_eq_true rfl) dX6_item_36 ⟨Nat.le_refl _, Nat.le_refl _⟩ (fun H locs r36 _ p36 hP hD hS => ?_)
      subst p36
      refine lv_if_eq (tgt := 51) hx hb dX6_item_39 (by decide) (fun h9 => absurd h9 (by decide)) (fun _ => ?_)
      refine lv_aload_n hx hb dX6_item_42 rfl (lv_at hl 0 rfl) ?_
      refine lv_iload_n hx hb dX6_item_43 rfl (lv_at hl 1 rfl) ?_
      refine lv_iload_n hx hb dX6_item_44 rfl (lv_at hl 2 rfl) ?_
      refine Cp.callV (As := [.int (nI v), .int (nI j)]) (rest := []) (cv_X6_90 hg ⟨Nat.le_of_ble_eq_true rfl, Nat.le_of_ble_eq_true rfl⟩) (k_itemOf l D cI m0 m1 m2 m3 m4 m5 m6 m7 m8 m9 m10 m11 (nI 0) (co) (n) (rn) (mn) (pn) (sn) (KP) (KL) v (j) hv hn hj hR) cx hK hP [0, 1, 2] rfl (rq := 0) rfl rfl rfl hS rfl hl.1 rfl (Nat.le_of_ble_eq_true rfl) dX6_item_45 ⟨Nat.zero_le _, Nat.zero_le _⟩ (fun H locs hP hS => ?_)
      refine lv_goto (tgt := 52) hx hb dX6_item_48 (by decide) ?_
      exact hret _ _ 52 _ _ ((ff_N (n) (rn) (mn) (pn) (sn) 0, ff_Z (nI 0) (co), ff_A14 (KP) (KL) (KR) (KM) (KN) (KS) (KB) (KT) (KE) (KF) (KX) (KX) (KX) (KX))) (by first | exact Or.inr ⟨⟨v, hv, rfl, j, hj, rfl⟩, by rw [cl_n (by omega), cl_n (by omega)], rfl⟩ | exact Or.inl ⟨fun h => by first | (obtain ⟨v, hv, e9, _⟩ := h; exact c10 (by rw [e9]; exact ff_le hv (by decide))) | (obtain ⟨v9, hv9, e9, j9, hj9, e8⟩ := h; obtain rfl := nI_inj (by omega) (by omega) e9; exact c27 (by rw [e8]; exact ff_le2 hj9 (by omega))), rfl, rfl⟩) hP hD hS dX6_item_52

set_option maxHeartbeats 4000000 in
set_option maxRecDepth 100000 in
theorem c_repeat (l : Launch) (D : va_G) (cI : ClassId) (m0 m1 m2 m3 m4 m5 m6 m7 m8 m9 m10 m11 : Nat) (th co : Int32) (n rn mn pn sn : Nat) (KP KL KR KM KN KS KB KT KE KF KX : Nat → Int32) (hn : n ≤ 60) (hmn : mn ≤ 12) (q w : Int32) (hrn : rn ≤ 900) : Ci l yX6_repeat cX6_repeat 3 (some .int) 2 0 0 D (tI cI) [.ref m0, .int q, .int w] [(m0, .inr (6, [.int th, .int (nI n), .ref m1, .ref m2, .int (nI rn), .ref m3, .int (nI mn), .ref m4, .ref m5, .int (nI pn), .ref m6, .int (nI sn), .int co, .ref m7, .ref m8, .ref m9, .ref m10, .ref m11])), (m1, oI cI 60 KP), (m2, oI cI 60 KL), (m3, oI cI 5400 KR), (m4, oI cI 12 KM), (m5, oI cI 12 KN), (m6, oI cI 60 KS), (m7, oI cI 60 KB), (m8, oI cI 12 KT), (m9, oI cI 61 KE), (m10, oI cI 61 KF), (m11, oI cI 61 KX)] (S := ff_S) (fun r u => (¬ okRe rn q w ∧ r = nI 0 ∧ u = (ff_N (n) (rn) (mn) (pn) (sn) 0, ff_Z ((nI 1)) (co), ff_A14 (KP) (KL) (KR) (KM) (KN) (KS) (KB) (KT) (KE) (KF) (KX) (KX) (KX) (KX))) ∨ (okRe rn q w ∧ r = KR (3 * cl q + cl w) ∧ u = (ff_N (n) (rn) (mn) (pn) (sn) 0, ff_Z ((nI 0)) (co), ff_A14 (KP) (KL) (KR) (KM) (KN) (KS) (KB) (KT) (KE) (KF) (KX) (KX) (KX) (KX)))) (fun u => [(m0, .inr (6, [.int ((u.2.1 0)), .int (nI (u.1 0)), .ref m1, .ref m2, .int (nI (u.1 1)), .ref m3, .int (nI (u.1 2)), .ref m4, .ref m5, .int (nI (u.1 3)), .ref m6, .int (nI (u.1 4)), .int ((u.2.1 1)), .ref m7, .ref m8, .ref m9, .ref m10, .ref m11])), (m1, oI cI 60 (u.2.2 0)), (m2, oI cI 60 (u.2.2 1)), (m3, oI cI 5400 (u.2.2 2)), (m4, oI cI 12 (u.2.2 3)), (m5, oI cI 12 (u.2.2 4)), (m6, oI cI 60 (u.2.2 5)), (m7, oI cI 60 (u.2.2 6)), (m8, oI cI 12 (u.2.2 7)), (m9, oI cI 61 (u.2.2 8)), (m10, oI cI 61 (u.2.2 9)), (m11, oI cI 61 (u.2.2 10))]) := by
  refine Ci.of (own := RX6) (lv := [(0, .ref m0), (1, .int q), (2, .int w)]) (by decide +kernel) rfl (Nat.le_of_ble_eq_true rfl) rfl (fun x u h => vp_nar_int _) ?_
  intro p e s m args below meth c Q A cx hK hP hD hA hret ls hl
  obtain ⟨hx, hb, hml, hown, hg⟩ := id cx
  have hS : va_S A s.heap s.heap [] := va_S.rf
  refine lv_aload_n hx hb dX6_repeat_0 rfl (lv_at hl 0 rfl) ?_
  refine lv_iconst (v := nI 0) hx hb dX6_repeat_1 (by decide) ?_
  refine pf_X6_46 hx hb hg hown hK hP hD hS 0 rfl (Nat.le_of_ble_eq_true rfl) dX6_repeat_2 (fun H locs hP hD hS => ?_)
  have hP : va_P D vwCl [(m0, .inr (6, [.int (nI 0), .int (nI n), .ref m1, .ref m2, .int (nI rn), .ref m3, .int (nI mn), .ref m4, .ref m5, .int (nI pn), .ref m6, .int (nI sn), .int co, .ref m7, .ref m8, .ref m9, .ref m10, .ref m11])), (m1, oI cI 60 KP), (m2, oI cI 60 KL), (m3, oI cI 5400 KR), (m4, oI cI 12 KM), (m5, oI cI 12 KN), (m6, oI cI 60 KS), (m7, oI cI 60 KB), (m8, oI cI 12 KT), (m9, oI cI 61 KE), (m10, oI cI 61 KF), (m11, oI cI 61 KX)] H := hP
  have hD : va_D A [(m0, .inr (6, [.int (nI 0), .int (nI n), .ref m1, .ref m2, .int (nI rn), .ref m3, .int (nI mn), .ref m4, .ref m5, .int (nI pn), .ref m6, .int (nI sn), .int co, .ref m7, .ref m8, .ref m9, .ref m10, .ref m11])), (m1, oI cI 60 KP), (m2, oI cI 60 KL), (m3, oI cI 5400 KR), (m4, oI cI 12 KM), (m5, oI cI 12 KN), (m6, oI cI 60 KS), (m7, oI cI 60 KB), (m8, oI cI 12 KT), (m9, oI cI 61 KE), (m10, oI cI 61 KF), (m11, oI cI 61 KX)] := hD
  refine lv_aload_n hx hb dX6_repeat_5 rfl (lv_at hl 0 rfl) ?_
  refine lv_iload_n hx hb dX6_repeat_6 rfl (lv_at hl 1 rfl) ?_
  refine lv_i2l hx hb dX6_repeat_7 rfl ?_
  refine lv_lconst (v := 0) hx hb dX6_repeat_8 (by decide) ?_
  refine lv_aload_n hx hb dX6_repeat_9 rfl (lv_at hl 0 rfl) ?_
  refine gf_X6_53 hx hb hg hown hK hP 0 rfl rfl dX6_repeat_10 ?_
  refine lv_iconst (v := nI 1) hx hb dX6_repeat_13 (by decide) ?_
  refine lv_isub hx hb dX6_repeat_14 ?_
  refine lv_i2l hx hb dX6_repeat_15 rfl ?_
  refine Cp.callS (As := [.long ((Int32.toInt64 (q))), .long ((0 : Int64)), .long ((Int32.toInt64 ((nI rn - nI 1))))]) (rest := [.ref m0]) (cv_X6_70 hg ⟨Nat.le_of_ble_eq_true rfl, Nat.le_of_ble_eq_true rfl⟩) (k_isIn32 l D cI [] (q) (nI 0) ((nI rn - nI 1)) _ _ (by decide) rfl) cx hK hP [] rfl hS rfl hl.1 rfl (Nat.le_of_ble_eq_true rfl) dX6_repeat_16 ⟨Nat.zero_le _, Nat.zero_le _⟩ (fun H locs hP hS => ?_)
  refine lv_if_eq (tgt := 38) hx hb dX6_repeat_19 (by decide) (fun c19 => ?_) (fun c19 => ?_)
  · have c19 := bI_z.mp c19
    refine lv_iconst (v := nI 0) hx hb dX6_repeat_38 (by decide) ?_
    refine lv_iconst (v := nI 1) hx hb dX6_repeat_39 (by decide) ?_
    refine Ci.callV (As := [.int (nI 0), .int (nI 1)]) (rest := []) (wr := [(m1, oI cI 60 KP), (m2, oI cI 60 KL), (m3, oI cI 5400 KR), (m4, oI cI 12 KM), (m5, oI cI 12 KN), (m6, oI cI 60 KS), (m7, oI cI 60 KB), (m8, oI cI 12 KT), (m9, oI cI 61 KE), (m10, oI cI 61 KF), (m11, oI cI 61 KX)]) (wn := (fun _ => [(m0, .inr (6, [.int ((nI 1)), .int (nI n), .ref m1, .ref m2, .int (nI rn), .ref m3, .int (nI mn), .ref m4, .ref m5, .int (nI pn), .ref m6, .int (nI sn), .int co, .ref m7, .ref m8, .ref m9, .ref m10, .ref m11])), (m1, oI cI 60 KP), (m2, oI cI 60 KL), (m3, oI cI 5400 KR), (m4, oI cI 12 KM), (m5, oI cI 12 KN), (m6, oI cI 60 KS), (m7, oI cI 60 KB), (m8, oI cI 12 KT), (m9, oI cI 61 KE), (m10, oI cI 61 KF), (m11, oI cI 61 KX)])) (cv_X6_76 hg ⟨Nat.le_of_ble_eq_true rfl, Nat.le_of_ble_eq_true rfl⟩) (k_go0 l D cI m0 (.int (nI n)) (.ref m1) (.ref m2) (.int (nI rn)) (.ref m3) (.int (nI mn)) (.ref m4) (.ref m5) (.int (nI pn)) (.ref m6) (.int (nI sn)) (.int co) (.ref m7) (.ref m8) (.ref m9) (.ref m10) (.ref m11) 1 (by decide) (by decide)) cx hK hP hD hA [0] [1, 2, 3, 4, 5, 6, 7, 8, 9, 10, 11] [11, 0, 1, 2, 3, 4, 5, 6, 7, 8, 9, 10] rfl rfl (by decide) (fun _ => rfl) (rq := 0) rfl rfl rfl hS rfl hl.1 rfl (Nat.le_of_ble_eq_true rfl) dX6_repeat_40 ⟨Nat.le_refl _, Nat.le_refl _⟩ (fun H locs r40 _ p40 hP hD hS => ?_)
    subst p40
    refine lv_if_eq (tgt := 59) hx hb dX6_repeat_43 (by decide) (fun _ => ?_) (fun h9 => absurd (by decide) h9)
    refine lv_iconst (v := nI 0) hx hb dX6_repeat_59 (by decide) ?_
    exact hret _ _ 60 _ _ ((ff_N (n) (rn) (mn) (pn) (sn) 0, ff_Z ((nI 1)) (co), ff_A14 (KP) (KL) (KR) (KM) (KN) (KS) (KB) (KT) (KE) (KF) (KX) (KX) (KX) (KX))) (by first | exact Or.inr ⟨⟨a9, x9, ha, rfl, hx9, rfl⟩, by rw [cl_n (by omega), cl_n (by omega)], rfl⟩ | exact Or.inl ⟨fun h => by obtain ⟨a8, x8, h1, e1, h2, e2⟩ := h; first | exact c19 (by rw [e1]; exact ff_le2 h1 (by omega)) | exact c31 (by rw [e2]; exact ff_le h2 (by decide)), rfl, rfl⟩) hP hD hS dX6_repeat_60
  · have c19 := bI_nz.mp c19
    obtain ⟨a9, ha, rfl⟩ := ff_of2 (by omega) c19
    refine lv_iload_n hx hb dX6_repeat_22 rfl (lv_at hl 2 rfl) ?_
    refine lv_i2l hx hb dX6_repeat_23 rfl ?_
    refine lv_lconst (v := 0) hx hb dX6_repeat_24 (by decide) ?_
    refine lv_ldc2 (v := 2) hx hb hown (hg _ wd_cl_X6_100) dX6_repeat_25 ?_
    refine Cp.callS (As := [.long ((Int32.toInt64 (w))), .long ((0 : Int64)), .long ((2 : Int64))]) (rest := [.ref m0]) (cv_X6_70 hg ⟨Nat.le_of_ble_eq_true rfl, Nat.le_of_ble_eq_true rfl⟩) (k_isIn32 l D cI [] (w) (nI 0) (nI 2) _ _ (by decide) (by decide)) cx hK hP [] rfl hS rfl hl.1 rfl (Nat.le_of_ble_eq_true rfl) dX6_repeat_28 ⟨Nat.zero_le _, Nat.zero_le _⟩ (fun H locs hP hS => ?_)
    refine lv_if_eq (tgt := 38) hx hb dX6_repeat_31 (by decide) (fun c31 => ?_) (fun c31 => ?_)
    · have c31 := bI_z.mp c31
      refine lv_iconst (v := nI 0) hx hb dX6_repeat_38 (by decide) ?_
      refine lv_iconst (v := nI 1) hx hb dX6_repeat_39 (by decide) ?_
      refine Ci.callV (As := [.int (nI 0), .int (nI 1)]) (rest := []) (wr := [(m1, oI cI 60 KP), (m2, oI cI 60 KL), (m3, oI cI 5400 KR), (m4, oI cI 12 KM), (m5, oI cI 12 KN), (m6, oI cI 60 KS), (m7, oI cI 60 KB), (m8, oI cI 12 KT), (m9, oI cI 61 KE), (m10, oI cI 61 KF), (m11, oI cI 61 KX)]) (wn := (fun _ => [(m0, .inr (6, [.int ((nI 1)), .int (nI n), .ref m1, .ref m2, .int (nI rn), .ref m3, .int (nI mn), .ref m4, .ref m5, .int (nI pn), .ref m6, .int (nI sn), .int co, .ref m7, .ref m8, .ref m9, .ref m10, .ref m11])), (m1, oI cI 60 KP), (m2, oI cI 60 KL), (m3, oI cI 5400 KR), (m4, oI cI 12 KM), (m5, oI cI 12 KN), (m6, oI cI 60 KS), (m7, oI cI 60 KB), (m8, oI cI 12 KT), (m9, oI cI 61 KE), (m10, oI cI 61 KF), (m11, oI cI 61 KX)])) (cv_X6_76 hg ⟨Nat.le_of_ble_eq_true rfl, Nat.le_of_ble_eq_true rfl⟩) (k_go0 l D cI m0 (.int (nI n)) (.ref m1) (.ref m2) (.int (nI rn)) (.ref m3) (.int (nI mn)) (.ref m4) (.ref m5) (.int (nI pn)) (.ref m6) (.int (nI sn)) (.int co) (.ref m7) (.ref m8) (.ref m9) (.ref m10) (.ref m11) 1 (by decide) (by decide)) cx hK hP hD hA [0] [1, 2, 3, 4, 5, 6, 7, 8, 9, 10, 11] [11, 0, 1, 2, 3, 4, 5, 6, 7, 8, 9, 10] rfl rfl (by decide) (fun _ => rfl) (rq := 0) rfl rfl rfl hS rfl hl.1 rfl (Nat.le_of_ble_eq_true rfl) dX6_repeat_40 ⟨Nat.le_refl _, Nat.le_refl _⟩ (fun H locs r40 _ p40 hP hD hS => ?_)
      subst p40
      refine lv_if_eq (tgt := 59) hx hb dX6_repeat_43 (by decide) (fun _ => ?_) (fun h9 => absurd (by decide) h9)
      refine lv_iconst (v := nI 0) hx hb dX6_repeat_59 (by decide) ?_
      exact hret _ _ 60 _ _ ((ff_N (n) (rn) (mn) (pn) (sn) 0, ff_Z ((nI 1)) (co), ff_A14 (KP) (KL) (KR) (KM) (KN) (KS) (KB) (KT) (KE) (KF) (KX) (KX) (KX) (KX))) (by first | exact Or.inr ⟨⟨a9, x9, ha, rfl, hx9, rfl⟩, by rw [cl_n (by omega), cl_n (by omega)], rfl⟩ | exact Or.inl ⟨fun h => by obtain ⟨a8, x8, h1, e1, h2, e2⟩ := h; first | exact c19 (by rw [e1]; exact ff_le2 h1 (by omega)) | exact c31 (by rw [e2]; exact ff_le h2 (by decide)), rfl, rfl⟩) hP hD hS dX6_repeat_60
    · have c31 := bI_nz.mp c31
      obtain ⟨x9, hx9, rfl⟩ := ff_of (by decide) c31
      refine lv_iconst (v := nI 1) hx hb dX6_repeat_34 (by decide) ?_
      refine lv_goto (tgt := 39) hx hb dX6_repeat_35 (by decide) ?_
      refine lv_iconst (v := nI 1) hx hb dX6_repeat_39 (by decide) ?_
      refine Ci.callV (As := [.int (nI 1), .int (nI 1)]) (rest := []) (wr := [(m1, oI cI 60 KP), (m2, oI cI 60 KL), (m3, oI cI 5400 KR), (m4, oI cI 12 KM), (m5, oI cI 12 KN), (m6, oI cI 60 KS), (m7, oI cI 60 KB), (m8, oI cI 12 KT), (m9, oI cI 61 KE), (m10, oI cI 61 KF), (m11, oI cI 61 KX)]) (wn := (fun _ => [(m0, .inr (6, [.int (nI 0), .int (nI n), .ref m1, .ref m2, .int (nI rn), .ref m3, .int (nI mn), .ref m4, .ref m5, .int (nI pn), .ref m6, .int (nI sn), .int co, .ref m7, .ref m8, .ref m9, .ref m10, .ref m11])), (m1, oI cI 60 KP), (m2, oI cI 60 KL), (m3, oI cI 5400 KR), (m4, oI cI 12 KM), (m5, oI cI 12 KN), (m6, oI cI 60 KS), (m7, oI cI 60 KB), (m8, oI cI 12 KT), (m9, oI cI 61 KE), (m10, oI cI 61 KF), (m11, oI cI 61 KX)])) (cv_X6_76 hg ⟨Nat.le_of_ble_eq_true rfl, Nat.le_of_ble_eq_true rfl⟩) (k_go1 l D cI m0 (.int (nI n)) (.ref m1) (.ref m2) (.int (nI rn)) (.ref m3) (.int (nI mn)) (.ref m4) (.ref m5) (.int (nI pn)) (.ref m6) (.int (nI sn)) (.int co) (.ref m7) (.ref m8) (.ref m9) (.ref m10) (.ref m11) (nI 1)) cx hK hP hD hA [0] [1, 2, 3, 4, 5, 6, 7, 8, 9, 10, 11] [11, 0, 1, 2, 3, 4, 5, 6, 7, 8, 9, 10] rfl rfl (by decide) (fun _ => rfl) (rq := 0) rfl rfl rfl hS rfl hl.1 rfl (Nat.le_of_ble_eq_true rfl) dX6_repeat_40 ⟨Nat.le_refl _, Nat.le_refl _⟩ (fun H locs r40 _ p40 hP hD hS => ?_)
      subst p40
      refine lv_if_eq (tgt := 59) hx hb dX6_repeat_43 (by decide) (fun h9 => absurd h9 (by decide)) (fun _ => ?_)
      refine lv_aload_n hx hb dX6_repeat_46 rfl (lv_at hl 0 rfl) ?_
      refine gf_X6_16 hx hb hg hown hK hP 0 rfl rfl dX6_repeat_47 ?_
      refine lv_iconst (v := nI 3) hx hb dX6_repeat_50 (by decide) ?_
      refine lv_iload_n hx hb dX6_repeat_51 rfl (lv_at hl 1 rfl) ?_
      refine lv_imul hx hb dX6_repeat_52 ?_
      refine lv_asi (pk_mul _ _) ?_
      refine lv_iload_n hx hb dX6_repeat_53 rfl (lv_at hl 2 rfl) ?_
      refine lv_iadd hx hb dX6_repeat_54 ?_
      refine lv_asi (nI_add _ _) ?_
      refine ald hx hb hK hP 3 rfl rfl (by omega) dX6_repeat_55 ?_
      refine lv_goto (tgt := 60) hx hb dX6_repeat_56 (by decide) ?_
      exact hret _ _ 60 _ _ ((ff_N (n) (rn) (mn) (pn) (sn) 0, ff_Z (nI 0) (co), ff_A14 (KP) (KL) (KR) (KM) (KN) (KS) (KB) (KT) (KE) (KF) (KX) (KX) (KX) (KX))) (by first | exact Or.inr ⟨⟨a9, x9, ha, rfl, hx9, rfl⟩, by rw [cl_n (by omega), cl_n (by omega)], rfl⟩ | exact Or.inl ⟨fun h => by obtain ⟨a8, x8, h1, e1, h2, e2⟩ := h; first | exact c19 (by rw [e1]; exact ff_le2 h1 (by omega)) | exact c31 (by rw [e2]; exact ff_le h2 (by decide)), rfl, rfl⟩) hP hD hS dX6_repeat_60

set_option maxHeartbeats 4000000 in
set_option maxRecDepth 100000 in
theorem c_period (l : Launch) (D : va_G) (cI : ClassId) (m0 m1 m2 m3 m4 m5 m6 m7 m8 m9 m10 m11 : Nat) (th co : Int32) (n rn mn pn sn : Nat) (KP KL KR KM KN KS KB KT KE KF KX : Nat → Int32) (hn : n ≤ 60) (hmn : mn ≤ 12) (vw : Int32) (hR : ∀ t, t < n → 0 ≤ (KP t).toInt ∧ (KP t).toInt ≤ 127) : Ci l yX6_period cX6_period 3 (some .int) 2 0 0 D (tI cI) [.ref m0, .int vw] [(m0, .inr (6, [.int th, .int (nI n), .ref m1, .ref m2, .int (nI rn), .ref m3, .int (nI mn), .ref m4, .ref m5, .int (nI pn), .ref m6, .int (nI sn), .int co, .ref m7, .ref m8, .ref m9, .ref m10, .ref m11])), (m1, oI cI 60 KP), (m2, oI cI 60 KL), (m3, oI cI 5400 KR), (m4, oI cI 12 KM), (m5, oI cI 12 KN), (m6, oI cI 60 KS), (m7, oI cI 60 KB), (m8, oI cI 12 KT), (m9, oI cI 61 KE), (m10, oI cI 61 KF), (m11, oI cI 61 KX)] (S := ff_S) (fun r u => (¬ okV vw ∧ r = nI 0 ∧ u = (ff_N (n) (rn) (mn) (pn) (sn) 0, ff_Z ((nI 1)) (co), ff_A14 (KP) (KL) (KR) (KM) (KN) (KS) (KB) (KT) (KE) (KF) (KX) (KX) (KX) (KX))) ∨ (okV vw ∧ r = nI (ff_per (ff_it KP KL (cl vw)) (ff_cnt (cl vw) n)) ∧ u = (ff_N (n) (rn) (mn) (pn) (sn) 0, ff_Z ((nI 0)) (co), ff_A14 (KP) (KL) (KR) (KM) (KN) (KS) (KB) (KT) (KE) (KF) (KX) (KX) (KX) (KX)))) (fun u => [(m0, .inr (6, [.int ((u.2.1 0)), .int (nI (u.1 0)), .ref m1, .ref m2, .int (nI (u.1 1)), .ref m3, .int (nI (u.1 2)), .ref m4, .ref m5, .int (nI (u.1 3)), .ref m6, .int (nI (u.1 4)), .int ((u.2.1 1)), .ref m7, .ref m8, .ref m9, .ref m10, .ref m11])), (m1, oI cI 60 (u.2.2 0)), (m2, oI cI 60 (u.2.2 1)), (m3, oI cI 5400 (u.2.2 2)), (m4, oI cI 12 (u.2.2 3)), (m5, oI cI 12 (u.2.2 4)), (m6, oI cI 60 (u.2.2 5)), (m7, oI cI 60 (u.2.2 6)), (m8, oI cI 12 (u.2.2 7)), (m9, oI cI 61 (u.2.2 8)), (m10, oI cI 61 (u.2.2 9)), (m11, oI cI 61 (u.2.2 10))]) := by
  refine Ci.of (own := RX6) (lv := [(0, .ref m0), (1, .int vw)]) (by decide +kernel) rfl (Nat.le_of_ble_eq_true rfl) rfl (fun x u h => vp_nar_int _) ?_
  intro p e s m args below meth c Q A cx hK hP hD hA hret ls hl
  obtain ⟨hx, hb, hml, hown, hg⟩ := id cx
  have hS : va_S A s.heap s.heap [] := va_S.rf
  refine lv_aload_n hx hb dX6_period_0 rfl (lv_at hl 0 rfl) ?_
  refine lv_iconst (v := nI 0) hx hb dX6_period_1 (by decide) ?_
  refine pf_X6_46 hx hb hg hown hK hP hD hS 0 rfl (Nat.le_of_ble_eq_true rfl) dX6_period_2 (fun H locs hP hD hS => ?_)
  have hP : va_P D vwCl [(m0, .inr (6, [.int (nI 0), .int (nI n), .ref m1, .ref m2, .int (nI rn), .ref m3, .int (nI mn), .ref m4, .ref m5, .int (nI pn), .ref m6, .int (nI sn), .int co, .ref m7, .ref m8, .ref m9, .ref m10, .ref m11])), (m1, oI cI 60 KP), (m2, oI cI 60 KL), (m3, oI cI 5400 KR), (m4, oI cI 12 KM), (m5, oI cI 12 KN), (m6, oI cI 60 KS), (m7, oI cI 60 KB), (m8, oI cI 12 KT), (m9, oI cI 61 KE), (m10, oI cI 61 KF), (m11, oI cI 61 KX)] H := hP
  have hD : va_D A [(m0, .inr (6, [.int (nI 0), .int (nI n), .ref m1, .ref m2, .int (nI rn), .ref m3, .int (nI mn), .ref m4, .ref m5, .int (nI pn), .ref m6, .int (nI sn), .int co, .ref m7, .ref m8, .ref m9, .ref m10, .ref m11])), (m1, oI cI 60 KP), (m2, oI cI 60 KL), (m3, oI cI 5400 KR), (m4, oI cI 12 KM), (m5, oI cI 12 KN), (m6, oI cI 60 KS), (m7, oI cI 60 KB), (m8, oI cI 12 KT), (m9, oI cI 61 KE), (m10, oI cI 61 KF), (m11, oI cI 61 KX)] := hD
  refine lv_aload_n hx hb dX6_period_5 rfl (lv_at hl 0 rfl) ?_
  refine lv_iload_n hx hb dX6_period_6 rfl (lv_at hl 1 rfl) ?_
  refine Cp.callS (As := [.int vw]) (rest := [.ref m0]) (cv_X6_82 hg ⟨Nat.le_of_ble_eq_true rfl, Nat.le_of_ble_eq_true rfl⟩) (k_MisView l D cI [] vw) cx hK hP [] rfl hS rfl hl.1 rfl (Nat.le_of_ble_eq_true rfl) dX6_period_7 ⟨Nat.zero_le _, Nat.zero_le _⟩ (fun H locs hP hS => ?_)
  refine lv_iconst (v := nI 1) hx hb dX6_period_10 (by decide) ?_
  by_cases c11 : nI 0 ≤ vw ∧ vw ≤ nI 4
  · rw [show bI (nI 0 ≤ vw ∧ vw ≤ nI 4) = nI 1 from (bI_1 c11).symm]
    obtain ⟨v, hv, rfl⟩ := ff_of (by decide) c11
    refine Ci.callV (As := [.int (nI 1), .int (nI 1)]) (rest := []) (wr := [(m1, oI cI 60 KP), (m2, oI cI 60 KL), (m3, oI cI 5400 KR), (m4, oI cI 12 KM), (m5, oI cI 12 KN), (m6, oI cI 60 KS), (m7, oI cI 60 KB), (m8, oI cI 12 KT), (m9, oI cI 61 KE), (m10, oI cI 61 KF), (m11, oI cI 61 KX)]) (wn := (fun _ => [(m0, .inr (6, [.int (nI 0), .int (nI n), .ref m1, .ref m2, .int (nI rn), .ref m3, .int (nI mn), .ref m4, .ref m5, .int (nI pn), .ref m6, .int (nI sn), .int co, .ref m7, .ref m8, .ref m9, .ref m10, .ref m11])), (m1, oI cI 60 KP), (m2, oI cI 60 KL), (m3, oI cI 5400 KR), (m4, oI cI 12 KM), (m5, oI cI 12 KN), (m6, oI cI 60 KS), (m7, oI cI 60 KB), (m8, oI cI 12 KT), (m9, oI cI 61 KE), (m10, oI cI 61 KF), (m11, oI cI 61 KX)])) (cv_X6_76 hg ⟨Nat.le_of_ble_eq_true rfl, Nat.le_of_ble_eq_true rfl⟩) (k_go1 l D cI m0 (.int (nI n)) (.ref m1) (.ref m2) (.int (nI rn)) (.ref m3) (.int (nI mn)) (.ref m4) (.ref m5) (.int (nI pn)) (.ref m6) (.int (nI sn)) (.int co) (.ref m7) (.ref m8) (.ref m9) (.ref m10) (.ref m11) (nI 1)) cx hK hP hD hA [0] [1, 2, 3, 4, 5, 6, 7, 8, 9, 10, 11] [11, 0, 1, 2, 3, 4, 5, 6, 7, 8, 9, 10] rfl rfl (by decide) (fun _ => rfl) (rq := 0) rfl rfl rfl hS rfl hl.1 rfl (Nat.le_of_ble_eq_true rfl) dX6_period_11 ⟨Nat.le_refl _, Nat.le_refl _⟩ (fun H locs r11 _ p11 hP hD hS => ?_)
    subst p11
    refine lv_if_eq (tgt := 25) hx hb dX6_period_14 (by decide) (fun h9 => absurd h9 (by decide)) (fun _ => ?_)
    refine lv_aload_n hx hb dX6_period_17 rfl (lv_at hl 0 rfl) ?_
    refine lv_iload_n hx hb dX6_period_18 rfl (lv_at hl 1 rfl) ?_
    refine Cp.callV (As := [.int (nI v)]) (rest := []) (cv_X6_86 hg ⟨Nat.le_of_ble_eq_true rfl, Nat.le_of_ble_eq_true rfl⟩) (k_many l D cI m0 m1 m2 m3 m4 m5 m6 m7 m8 m9 m10 m11 (nI 0) (co) (n) (rn) (mn) (pn) (sn) v hv hn) cx hK hP [0] rfl (rq := 0) rfl rfl rfl hS rfl hl.1 rfl (Nat.le_of_ble_eq_true rfl) dX6_period_19 ⟨Nat.zero_le _, Nat.zero_le _⟩ (fun H locs hP hS => ?_)
    have hcn := ff_cnt_le v n
    refine lv_if_ne (tgt := 27) hx hb dX6_period_22 (by decide) (fun c22 => ?_) (fun c22 => ?_)
    · have c22 := mt (nz_eq (by omega)).mpr c22
      refine lv_iconst (v := nI 1) hx hb dX6_period_27 (by decide) ?_
      refine lv_istore_n (lv' := [(2, .int (nI 1)), (0, .ref m0), (1, .int (nI v))]) hx hb dX6_period_28 rfl hl (by decide) rfl (fun ls hl => ?_)
      have lp_29 : ∀ (k : Nat) (q : Nat) (H : Heap) (locs : List Loc) (ls : Array Slot), (1 ≤ q) → (q ≤ ff_cnt v n) → (ff_pl (ff_it KP KL v) (ff_cnt v n) q (ff_cnt v n - q) = ff_per (ff_it KP KL v) (ff_cnt v n)) → (ff_cnt v n - q < k) → va_P D vwCl [(m0, .inr (6, [.int ((nI 0)), .int (nI n), .ref m1, .ref m2, .int (nI rn), .ref m3, .int (nI mn), .ref m4, .ref m5, .int (nI pn), .ref m6, .int (nI sn), .int co, .ref m7, .ref m8, .ref m9, .ref m10, .ref m11])), (m1, oI cI 60 KP), (m2, oI cI 60 KL), (m3, oI cI 5400 KR), (m4, oI cI 12 KM), (m5, oI cI 12 KN), (m6, oI cI 60 KS), (m7, oI cI 60 KB), (m8, oI cI 12 KT), (m9, oI cI 61 KE), (m10, oI cI 61 KF), (m11, oI cI 61 KX)] H → va_D A [(m0, .inr (6, [.int ((nI 0)), .int (nI n), .ref m1, .ref m2, .int (nI rn), .ref m3, .int (nI mn), .ref m4, .ref m5, .int (nI pn), .ref m6, .int (nI sn), .int co, .ref m7, .ref m8, .ref m9, .ref m10, .ref m11])), (m1, oI cI 60 KP), (m2, oI cI 60 KL), (m3, oI cI 5400 KR), (m4, oI cI 12 KM), (m5, oI cI 12 KN), (m6, oI cI 60 KS), (m7, oI cI 60 KB), (m8, oI cI 12 KT), (m9, oI cI 61 KE), (m10, oI cI 61 KF), (m11, oI cI 61 KX)] → va_S A s.heap H locs → lv_has ls 3 [(0, .ref m0), (1, .int (nI v)), (2, .int (nI q))] → W p l e (rr 2 0 0) s m args below meth c H locs 0 0 Q (F0 m 29 ls []) := by
        intro k
        induction k with
        | zero =>
          intro q H locs ls hq1 hq he hk
          exact absurd hk (Nat.not_lt_zero _)
        | succ k ih_29 =>
          intro q H locs ls hq1 hq he hk hP hD hS hl
          refine lv_aload_n hx hb dX6_period_29 rfl (lv_at hl 0 rfl) ?_
          refine lv_iload_n hx hb dX6_period_30 rfl (lv_at hl 1 rfl) ?_
          refine lv_iconst (v := nI 0) hx hb dX6_period_31 (by decide) ?_
          refine lv_iload_n hx hb dX6_period_32 rfl (lv_at hl 2 rfl) ?_
          refine Cp.callV (As := [.int (nI v), .int (nI 0), .int (nI q)]) (rest := []) (cv_X6_96 hg ⟨Nat.le_of_ble_eq_true rfl, Nat.le_of_ble_eq_true rfl⟩) (k_common l D cI m0 m1 m2 m3 m4 m5 m6 m7 m8 m9 m10 m11 ((nI 0)) (co) (n) (rn) (mn) (pn) (sn) (KP) (KL) v (0) (q) hv hn (by omega) (by omega) hR) cx hK hP [0, 1, 2] rfl (rq := 0) rfl rfl rfl hS rfl hl.1 rfl (Nat.le_of_ble_eq_true rfl) dX6_period_33 ⟨Nat.zero_le _, Nat.zero_le _⟩ (fun H locs hP hS => ?_)
          have hrl := ff_run_le (ff_it KP KL v) (ff_cnt v n - q) 0 q
          refine lv_aload_n hx hb dX6_period_36 rfl (lv_at hl 0 rfl) ?_
          refine lv_iload_n hx hb dX6_period_37 rfl (lv_at hl 1 rfl) ?_
          refine Cp.callV (As := [.int (nI v)]) (rest := [.int (nI (ff_run (ff_it KP KL v) (0) (q) (ff_cnt v n - q)))]) (cv_X6_86 hg ⟨Nat.le_of_ble_eq_true rfl, Nat.le_of_ble_eq_true rfl⟩) (k_many l D cI m0 m1 m2 m3 m4 m5 m6 m7 m8 m9 m10 m11 ((nI 0)) (co) (n) (rn) (mn) (pn) (sn) v hv hn) cx hK hP [0] rfl (rq := 0) rfl rfl rfl hS rfl hl.1 rfl (Nat.le_of_ble_eq_true rfl) dX6_period_38 ⟨Nat.zero_le _, Nat.zero_le _⟩ (fun H locs hP hS => ?_)
          refine lv_iload_n hx hb dX6_period_41 rfl (lv_at hl 2 rfl) ?_
          refine lv_isub hx hb dX6_period_42 ?_
          refine lv_asi (pk_sub (by omega)) ?_
          refine lv_icmp_ge (tgt := 52) hx hb dX6_period_43 (by decide) (fun c43 => ?_) (fun c43 => ?_)
          · have c43 := (nI_leI (by omega) (by omega)).mp c43
            refine lv_iload_n hx hb dX6_period_52 rfl (lv_at hl 2 rfl) ?_
            exact hret _ _ 53 _ _ ((ff_N (n) (rn) (mn) (pn) (sn) 0, ff_Z ((nI 0)) (co), ff_A14 (KP) (KL) (KR) (KM) (KN) (KS) (KB) (KT) (KE) (KF) (KX) (KX) (KX) (KX))) (Or.inr ⟨⟨v, hv, rfl⟩, by rw [cl_n (by omega), ← he]; by_cases h9 : q = ff_cnt v n <;> first | (rw [show ff_cnt v n - q = 0 by omega]; show _ = nI (ff_cnt v n); rw [← h9]) | (rw [show ff_cnt v n - q = ff_cnt v n - (q + 1) + 1 by omega]; show _ = nI (if _ then _ else _); rw [if_pos (by omega)]), rfl⟩) hP hD hS dX6_period_53
          · have c43 := mt (nI_leI (by omega) (by omega)).mpr c43
            refine lv_iinc (v := nI (q + 1)) (lv' := [(2, .int (nI (q + 1))), (0, .ref m0), (1, .int (nI v))]) hx hb dX6_period_46 hl (k := 2) rfl (nI_1 _) (by decide) rfl (fun ls hl => ?_)
            refine lv_goto (tgt := 29) hx hb dX6_period_49 (by decide) ?_
            exact ih_29 (q + 1) _ _ _ (by omega) (by omega) (by rw [← he, show ff_cnt v n - q = ff_cnt v n - (q + 1) + 1 by omega]; show _ = if _ then _ else _; rw [if_neg (by omega)]) (by omega) hP hD hS (lv_sub hl [1, 2, 0] rfl)
      exact lp_29 (_ + 1) (1) _ _ _ (Nat.le_refl _) (by omega) (rfl) (Nat.lt_succ_self _) hP hD hS (lv_sub hl [1, 2, 0] rfl)
    · have c22 := (nz_eq (by omega)).mp c22
      refine lv_iconst (v := nI 0) hx hb dX6_period_25 (by decide) ?_
      exact hret _ _ 26 _ _ ((ff_N (n) (rn) (mn) (pn) (sn) 0, ff_Z (nI 0) (co), ff_A14 (KP) (KL) (KR) (KM) (KN) (KS) (KB) (KT) (KE) (KF) (KX) (KX) (KX) (KX))) (by first | exact Or.inr ⟨⟨v, hv, rfl⟩, by rw [cl_n (by omega), c22]; rfl, rfl⟩ | exact Or.inl ⟨fun ⟨v, hv, e9⟩ => c11 (by rw [e9]; exact ff_le hv (by decide)), rfl, rfl⟩) hP hD hS dX6_period_26
  · rw [show bI (nI 0 ≤ vw ∧ vw ≤ nI 4) = nI 0 from (bI_0 c11).symm]
    refine Ci.callV (As := [.int (nI 0), .int (nI 1)]) (rest := []) (wr := [(m1, oI cI 60 KP), (m2, oI cI 60 KL), (m3, oI cI 5400 KR), (m4, oI cI 12 KM), (m5, oI cI 12 KN), (m6, oI cI 60 KS), (m7, oI cI 60 KB), (m8, oI cI 12 KT), (m9, oI cI 61 KE), (m10, oI cI 61 KF), (m11, oI cI 61 KX)]) (wn := (fun _ => [(m0, .inr (6, [.int ((nI 1)), .int (nI n), .ref m1, .ref m2, .int (nI rn), .ref m3, .int (nI mn), .ref m4, .ref m5, .int (nI pn), .ref m6, .int (nI sn), .int co, .ref m7, .ref m8, .ref m9, .ref m10, .ref m11])), (m1, oI cI 60 KP), (m2, oI cI 60 KL), (m3, oI cI 5400 KR), (m4, oI cI 12 KM), (m5, oI cI 12 KN), (m6, oI cI 60 KS), (m7, oI cI 60 KB), (m8, oI cI 12 KT), (m9, oI cI 61 KE), (m10, oI cI 61 KF), (m11, oI cI 61 KX)])) (cv_X6_76 hg ⟨Nat.le_of_ble_eq_true rfl, Nat.le_of_ble_eq_true rfl⟩) (k_go0 l D cI m0 (.int (nI n)) (.ref m1) (.ref m2) (.int (nI rn)) (.ref m3) (.int (nI mn)) (.ref m4) (.ref m5) (.int (nI pn)) (.ref m6) (.int (nI sn)) (.int co) (.ref m7) (.ref m8) (.ref m9) (.ref m10) (.ref m11) 1 (by decide) (by decide)) cx hK hP hD hA [0] [1, 2, 3, 4, 5, 6, 7, 8, 9, 10, 11] [11, 0, 1, 2, 3, 4, 5, 6, 7, 8, 9, 10] rfl rfl (by decide) (fun _ => rfl) (rq := 0) rfl rfl rfl hS rfl hl.1 rfl (Nat.le_of_ble_eq_true rfl) dX6_period_11 ⟨Nat.le_refl _, Nat.le_refl _⟩ (fun H locs r11 _ p11 hP hD hS => ?_)
    subst p11
    refine lv_if_eq (tgt := 25) hx hb dX6_period_14 (by decide) (fun _ => ?_) (fun h9 => absurd (by decide) h9)
    refine lv_iconst (v := nI 0) hx hb dX6_period_25 (by decide) ?_
    exact hret _ _ 26 _ _ ((ff_N (n) (rn) (mn) (pn) (sn) 0, ff_Z ((nI 1)) (co), ff_A14 (KP) (KL) (KR) (KM) (KN) (KS) (KB) (KT) (KE) (KF) (KX) (KX) (KX) (KX))) (by first | exact Or.inr ⟨⟨v, hv, rfl⟩, by rw [cl_n (by omega), c22]; rfl, rfl⟩ | exact Or.inl ⟨fun ⟨v, hv, e9⟩ => c11 (by rw [e9]; exact ff_le hv (by decide)), rfl, rfl⟩) hP hD hS dX6_period_26

set_option maxHeartbeats 4000000 in
set_option maxRecDepth 100000 in
theorem c_passages (l : Launch) (D : va_G) (cI : ClassId) (m0 m1 m2 m3 m4 m5 m6 m7 m8 m9 m10 m11 : Nat) (th co : Int32) (n rn mn pn sn : Nat) (KP KL KR KM KN KS KB KT KE KF KX : Nat → Int32) (hn : n ≤ 60) (hmn : mn ≤ 12) (vw q : Int32) (hR : ∀ t, t < n → 0 ≤ (KP t).toInt ∧ (KP t).toInt ≤ 127) : Ci l yX6_passages cX6_passages 7 (some .int) 2 0 0 D (tI cI) [.ref m0, .int vw, .int q] [(m0, .inr (6, [.int th, .int (nI n), .ref m1, .ref m2, .int (nI rn), .ref m3, .int (nI mn), .ref m4, .ref m5, .int (nI pn), .ref m6, .int (nI sn), .int co, .ref m7, .ref m8, .ref m9, .ref m10, .ref m11])), (m1, oI cI 60 KP), (m2, oI cI 60 KL), (m3, oI cI 5400 KR), (m4, oI cI 12 KM), (m5, oI cI 12 KN), (m6, oI cI 60 KS), (m7, oI cI 60 KB), (m8, oI cI 12 KT), (m9, oI cI 61 KE), (m10, oI cI 61 KF), (m11, oI cI 61 KX)] (S := ff_S) (fun r u => (¬ okVM vw q ∧ r = nI 0 ∧ u = (ff_N (n) (rn) (mn) (pn) (sn) 0, ff_Z ((nI 1)) (co), ff_A14 (KP) (KL) (KR) (KM) (KN) (KS) (KB) (KT) (KE) (KF) (KX) (KX) (KX) (KX))) ∨ (okVM vw q ∧ r = nI (ff_pas (ff_it KP KL (cl vw)) (ff_cnt (cl vw) n) (cl q)) ∧ u = (ff_N (n) (rn) (mn) (pn) (sn) 0, ff_Z ((nI 0)) (co), ff_A14 (KP) (KL) (KR) (KM) (KN) (KS) (KB) (KT) (KE) (KF) (KX) (KX) (KX) (KX)))) (fun u => [(m0, .inr (6, [.int ((u.2.1 0)), .int (nI (u.1 0)), .ref m1, .ref m2, .int (nI (u.1 1)), .ref m3, .int (nI (u.1 2)), .ref m4, .ref m5, .int (nI (u.1 3)), .ref m6, .int (nI (u.1 4)), .int ((u.2.1 1)), .ref m7, .ref m8, .ref m9, .ref m10, .ref m11])), (m1, oI cI 60 (u.2.2 0)), (m2, oI cI 60 (u.2.2 1)), (m3, oI cI 5400 (u.2.2 2)), (m4, oI cI 12 (u.2.2 3)), (m5, oI cI 12 (u.2.2 4)), (m6, oI cI 60 (u.2.2 5)), (m7, oI cI 60 (u.2.2 6)), (m8, oI cI 12 (u.2.2 7)), (m9, oI cI 61 (u.2.2 8)), (m10, oI cI 61 (u.2.2 9)), (m11, oI cI 61 (u.2.2 10))]) := by
  refine Ci.of (own := RX6) (lv := [(0, .ref m0), (1, .int vw), (2, .int q)]) (by decide +kernel) rfl (Nat.le_of_ble_eq_true rfl) rfl (fun x u h => vp_nar_int _) ?_
  intro p e s m args below meth c Q A cx hK hP hD hA hret ls hl
  obtain ⟨hx, hb, hml, hown, hg⟩ := id cx
  have hS : va_S A s.heap s.heap [] := va_S.rf
  refine lv_aload_n hx hb dX6_passages_0 rfl (lv_at hl 0 rfl) ?_
  refine lv_iconst (v := nI 0) hx hb dX6_passages_1 (by decide) ?_
  refine pf_X6_46 hx hb hg hown hK hP hD hS 0 rfl (Nat.le_of_ble_eq_true rfl) dX6_passages_2 (fun H locs hP hD hS => ?_)
  have hP : va_P D vwCl [(m0, .inr (6, [.int (nI 0), .int (nI n), .ref m1, .ref m2, .int (nI rn), .ref m3, .int (nI mn), .ref m4, .ref m5, .int (nI pn), .ref m6, .int (nI sn), .int co, .ref m7, .ref m8, .ref m9, .ref m10, .ref m11])), (m1, oI cI 60 KP), (m2, oI cI 60 KL), (m3, oI cI 5400 KR), (m4, oI cI 12 KM), (m5, oI cI 12 KN), (m6, oI cI 60 KS), (m7, oI cI 60 KB), (m8, oI cI 12 KT), (m9, oI cI 61 KE), (m10, oI cI 61 KF), (m11, oI cI 61 KX)] H := hP
  have hD : va_D A [(m0, .inr (6, [.int (nI 0), .int (nI n), .ref m1, .ref m2, .int (nI rn), .ref m3, .int (nI mn), .ref m4, .ref m5, .int (nI pn), .ref m6, .int (nI sn), .int co, .ref m7, .ref m8, .ref m9, .ref m10, .ref m11])), (m1, oI cI 60 KP), (m2, oI cI 60 KL), (m3, oI cI 5400 KR), (m4, oI cI 12 KM), (m5, oI cI 12 KN), (m6, oI cI 60 KS), (m7, oI cI 60 KB), (m8, oI cI 12 KT), (m9, oI cI 61 KE), (m10, oI cI 61 KF), (m11, oI cI 61 KX)] := hD
  refine lv_aload_n hx hb dX6_passages_5 rfl (lv_at hl 0 rfl) ?_
  refine lv_iload_n hx hb dX6_passages_6 rfl (lv_at hl 1 rfl) ?_
  refine Cp.callS (As := [.int vw]) (rest := [.ref m0]) (cv_X6_82 hg ⟨Nat.le_of_ble_eq_true rfl, Nat.le_of_ble_eq_true rfl⟩) (k_MisView l D cI [] vw) cx hK hP [] rfl hS rfl hl.1 rfl (Nat.le_of_ble_eq_true rfl) dX6_passages_7 ⟨Nat.zero_le _, Nat.zero_le _⟩ (fun H locs hP hS => ?_)
  refine lv_if_eq (tgt := 29) hx hb dX6_passages_10 (by decide) (fun c10 => ?_) (fun c10 => ?_)
  · have c10 := bI_z.mp c10
    refine lv_iconst (v := nI 0) hx hb dX6_passages_29 (by decide) ?_
    refine lv_iconst (v := nI 1) hx hb dX6_passages_30 (by decide) ?_
    refine Ci.callV (As := [.int (nI 0), .int (nI 1)]) (rest := []) (wr := [(m1, oI cI 60 KP), (m2, oI cI 60 KL), (m3, oI cI 5400 KR), (m4, oI cI 12 KM), (m5, oI cI 12 KN), (m6, oI cI 60 KS), (m7, oI cI 60 KB), (m8, oI cI 12 KT), (m9, oI cI 61 KE), (m10, oI cI 61 KF), (m11, oI cI 61 KX)]) (wn := (fun _ => [(m0, .inr (6, [.int ((nI 1)), .int (nI n), .ref m1, .ref m2, .int (nI rn), .ref m3, .int (nI mn), .ref m4, .ref m5, .int (nI pn), .ref m6, .int (nI sn), .int co, .ref m7, .ref m8, .ref m9, .ref m10, .ref m11])), (m1, oI cI 60 KP), (m2, oI cI 60 KL), (m3, oI cI 5400 KR), (m4, oI cI 12 KM), (m5, oI cI 12 KN), (m6, oI cI 60 KS), (m7, oI cI 60 KB), (m8, oI cI 12 KT), (m9, oI cI 61 KE), (m10, oI cI 61 KF), (m11, oI cI 61 KX)])) (cv_X6_76 hg ⟨Nat.le_of_ble_eq_true rfl, Nat.le_of_ble_eq_true rfl⟩) (k_go0 l D cI m0 (.int (nI n)) (.ref m1) (.ref m2) (.int (nI rn)) (.ref m3) (.int (nI mn)) (.ref m4) (.ref m5) (.int (nI pn)) (.ref m6) (.int (nI sn)) (.int co) (.ref m7) (.ref m8) (.ref m9) (.ref m10) (.ref m11) 1 (by decide) (by decide)) cx hK hP hD hA [0] [1, 2, 3, 4, 5, 6, 7, 8, 9, 10, 11] [11, 0, 1, 2, 3, 4, 5, 6, 7, 8, 9, 10] rfl rfl (by decide) (fun _ => rfl) (rq := 0) rfl rfl rfl hS rfl hl.1 rfl (Nat.le_of_ble_eq_true rfl) dX6_passages_31 ⟨Nat.le_refl _, Nat.le_refl _⟩ (fun H locs r31 _ p31 hP hD hS => ?_)
    subst p31
    refine lv_if_ne (tgt := 39) hx hb dX6_passages_34 (by decide) (fun h9 => absurd (by decide) h9) (fun _ => ?_)
    refine lv_iconst (v := nI 0) hx hb dX6_passages_37 (by decide) ?_
    exact hret _ _ 38 _ _ ((ff_N (n) (rn) (mn) (pn) (sn) 0, ff_Z ((nI 1)) (co), ff_A14 (KP) (KL) (KR) (KM) (KN) (KS) (KB) (KT) (KE) (KF) (KX) (KX) (KX) (KX))) (Or.inl ⟨fun h => by obtain ⟨v9, hv9, e9, m9, h8, h7, e8⟩ := h; first | exact c10 (by rw [e9]; exact ff_le hv9 (by decide)) | exact c22 (by rw [e8]; exact ff_le1 h8 h7 (by decide)), rfl, rfl⟩) hP hD hS dX6_passages_38
  · have c10 := bI_nz.mp c10
    obtain ⟨v, hv, rfl⟩ := ff_of (by decide) c10
    refine lv_iload_n hx hb dX6_passages_13 rfl (lv_at hl 2 rfl) ?_
    refine lv_i2l hx hb dX6_passages_14 rfl ?_
    refine lv_lconst (v := 1) hx hb dX6_passages_15 (by decide) ?_
    refine lv_ldc2 (v := 60) hx hb hown (hg _ wd_cl_X6_94) dX6_passages_16 ?_
    refine Cp.callS (As := [.long ((Int32.toInt64 (q))), .long ((1 : Int64)), .long ((60 : Int64))]) (rest := [.ref m0]) (cv_X6_70 hg ⟨Nat.le_of_ble_eq_true rfl, Nat.le_of_ble_eq_true rfl⟩) (k_isIn32 l D cI [] (q) (nI 1) (nI 60) _ _ (by decide) (by decide)) cx hK hP [] rfl hS rfl hl.1 rfl (Nat.le_of_ble_eq_true rfl) dX6_passages_19 ⟨Nat.zero_le _, Nat.zero_le _⟩ (fun H locs hP hS => ?_)
    refine lv_if_eq (tgt := 29) hx hb dX6_passages_22 (by decide) (fun c22 => ?_) (fun c22 => ?_)
    · have c22 := bI_z.mp c22
      refine lv_iconst (v := nI 0) hx hb dX6_passages_29 (by decide) ?_
      refine lv_iconst (v := nI 1) hx hb dX6_passages_30 (by decide) ?_
      refine Ci.callV (As := [.int (nI 0), .int (nI 1)]) (rest := []) (wr := [(m1, oI cI 60 KP), (m2, oI cI 60 KL), (m3, oI cI 5400 KR), (m4, oI cI 12 KM), (m5, oI cI 12 KN), (m6, oI cI 60 KS), (m7, oI cI 60 KB), (m8, oI cI 12 KT), (m9, oI cI 61 KE), (m10, oI cI 61 KF), (m11, oI cI 61 KX)]) (wn := (fun _ => [(m0, .inr (6, [.int ((nI 1)), .int (nI n), .ref m1, .ref m2, .int (nI rn), .ref m3, .int (nI mn), .ref m4, .ref m5, .int (nI pn), .ref m6, .int (nI sn), .int co, .ref m7, .ref m8, .ref m9, .ref m10, .ref m11])), (m1, oI cI 60 KP), (m2, oI cI 60 KL), (m3, oI cI 5400 KR), (m4, oI cI 12 KM), (m5, oI cI 12 KN), (m6, oI cI 60 KS), (m7, oI cI 60 KB), (m8, oI cI 12 KT), (m9, oI cI 61 KE), (m10, oI cI 61 KF), (m11, oI cI 61 KX)])) (cv_X6_76 hg ⟨Nat.le_of_ble_eq_true rfl, Nat.le_of_ble_eq_true rfl⟩) (k_go0 l D cI m0 (.int (nI n)) (.ref m1) (.ref m2) (.int (nI rn)) (.ref m3) (.int (nI mn)) (.ref m4) (.ref m5) (.int (nI pn)) (.ref m6) (.int (nI sn)) (.int co) (.ref m7) (.ref m8) (.ref m9) (.ref m10) (.ref m11) 1 (by decide) (by decide)) cx hK hP hD hA [0] [1, 2, 3, 4, 5, 6, 7, 8, 9, 10, 11] [11, 0, 1, 2, 3, 4, 5, 6, 7, 8, 9, 10] rfl rfl (by decide) (fun _ => rfl) (rq := 0) rfl rfl rfl hS rfl hl.1 rfl (Nat.le_of_ble_eq_true rfl) dX6_passages_31 ⟨Nat.le_refl _, Nat.le_refl _⟩ (fun H locs r31 _ p31 hP hD hS => ?_)
      subst p31
      refine lv_if_ne (tgt := 39) hx hb dX6_passages_34 (by decide) (fun h9 => absurd (by decide) h9) (fun _ => ?_)
      refine lv_iconst (v := nI 0) hx hb dX6_passages_37 (by decide) ?_
      exact hret _ _ 38 _ _ ((ff_N (n) (rn) (mn) (pn) (sn) 0, ff_Z ((nI 1)) (co), ff_A14 (KP) (KL) (KR) (KM) (KN) (KS) (KB) (KT) (KE) (KF) (KX) (KX) (KX) (KX))) (Or.inl ⟨fun h => by obtain ⟨v9, hv9, e9, m9, h8, h7, e8⟩ := h; first | exact c10 (by rw [e9]; exact ff_le hv9 (by decide)) | exact c22 (by rw [e8]; exact ff_le1 h8 h7 (by decide)), rfl, rfl⟩) hP hD hS dX6_passages_38
    · have c22 := bI_nz.mp c22
      obtain ⟨w9, hw1, hw2, rfl⟩ := ff_of1 (by decide) c22
      refine lv_iconst (v := nI 1) hx hb dX6_passages_25 (by decide) ?_
      refine lv_goto (tgt := 30) hx hb dX6_passages_26 (by decide) ?_
      refine lv_iconst (v := nI 1) hx hb dX6_passages_30 (by decide) ?_
      refine Ci.callV (As := [.int (nI 1), .int (nI 1)]) (rest := []) (wr := [(m1, oI cI 60 KP), (m2, oI cI 60 KL), (m3, oI cI 5400 KR), (m4, oI cI 12 KM), (m5, oI cI 12 KN), (m6, oI cI 60 KS), (m7, oI cI 60 KB), (m8, oI cI 12 KT), (m9, oI cI 61 KE), (m10, oI cI 61 KF), (m11, oI cI 61 KX)]) (wn := (fun _ => [(m0, .inr (6, [.int (nI 0), .int (nI n), .ref m1, .ref m2, .int (nI rn), .ref m3, .int (nI mn), .ref m4, .ref m5, .int (nI pn), .ref m6, .int (nI sn), .int co, .ref m7, .ref m8, .ref m9, .ref m10, .ref m11])), (m1, oI cI 60 KP), (m2, oI cI 60 KL), (m3, oI cI 5400 KR), (m4, oI cI 12 KM), (m5, oI cI 12 KN), (m6, oI cI 60 KS), (m7, oI cI 60 KB), (m8, oI cI 12 KT), (m9, oI cI 61 KE), (m10, oI cI 61 KF), (m11, oI cI 61 KX)])) (cv_X6_76 hg ⟨Nat.le_of_ble_eq_true rfl, Nat.le_of_ble_eq_true rfl⟩) (k_go1 l D cI m0 (.int (nI n)) (.ref m1) (.ref m2) (.int (nI rn)) (.ref m3) (.int (nI mn)) (.ref m4) (.ref m5) (.int (nI pn)) (.ref m6) (.int (nI sn)) (.int co) (.ref m7) (.ref m8) (.ref m9) (.ref m10) (.ref m11) (nI 1)) cx hK hP hD hA [0] [1, 2, 3, 4, 5, 6, 7, 8, 9, 10, 11] [11, 0, 1, 2, 3, 4, 5, 6, 7, 8, 9, 10] rfl rfl (by decide) (fun _ => rfl) (rq := 0) rfl rfl rfl hS rfl hl.1 rfl (Nat.le_of_ble_eq_true rfl) dX6_passages_31 ⟨Nat.le_refl _, Nat.le_refl _⟩ (fun H locs r31 _ p31 hP hD hS => ?_)
      subst p31
      refine lv_if_ne (tgt := 39) hx hb dX6_passages_34 (by decide) (fun _ => ?_) (fun h9 => absurd h9 (by decide))
      have hcn := ff_cnt_le v n
      refine lv_iconst (v := nI 0) hx hb dX6_passages_39 (by decide) ?_
      refine lv_istore_n (lv' := [(3, .int (nI 0)), (0, .ref m0), (1, .int (nI v)), (2, .int (nI w9))]) hx hb dX6_passages_40 rfl hl (by decide) rfl (fun ls hl => ?_)
      refine lv_iconst (v := nI 0) hx hb dX6_passages_41 (by decide) ?_
      refine lv_istore (lv' := [(4, .int (nI 0)), (3, .int (nI 0)), (0, .ref m0), (1, .int (nI v)), (2, .int (nI w9))]) hx hb dX6_passages_42 hl (by decide) rfl (fun ls hl => ?_)
      have lp_44 : ∀ (k : Nat) (j : Nat) (H : Heap) (locs : List Loc) (ls : Array Slot), (j ≤ (ff_cnt v n) + 1 - w9) → ((ff_cnt v n) + 1 - w9 - j < k) → va_P D vwCl [(m0, .inr (6, [.int ((nI 0)), .int (nI n), .ref m1, .ref m2, .int (nI rn), .ref m3, .int (nI mn), .ref m4, .ref m5, .int (nI pn), .ref m6, .int (nI sn), .int co, .ref m7, .ref m8, .ref m9, .ref m10, .ref m11])), (m1, oI cI 60 KP), (m2, oI cI 60 KL), (m3, oI cI 5400 KR), (m4, oI cI 12 KM), (m5, oI cI 12 KN), (m6, oI cI 60 KS), (m7, oI cI 60 KB), (m8, oI cI 12 KT), (m9, oI cI 61 KE), (m10, oI cI 61 KF), (m11, oI cI 61 KX)] H → va_D A [(m0, .inr (6, [.int ((nI 0)), .int (nI n), .ref m1, .ref m2, .int (nI rn), .ref m3, .int (nI mn), .ref m4, .ref m5, .int (nI pn), .ref m6, .int (nI sn), .int co, .ref m7, .ref m8, .ref m9, .ref m10, .ref m11])), (m1, oI cI 60 KP), (m2, oI cI 60 KL), (m3, oI cI 5400 KR), (m4, oI cI 12 KM), (m5, oI cI 12 KN), (m6, oI cI 60 KS), (m7, oI cI 60 KB), (m8, oI cI 12 KT), (m9, oI cI 61 KE), (m10, oI cI 61 KF), (m11, oI cI 61 KX)] → va_S A s.heap H locs → lv_has ls 7 [(0, .ref m0), (1, .int (nI v)), (2, .int (nI w9)), (3, .int (nI (ff_ct (fun j => !ff_came (ff_it KP KL v) (ff_cnt v n) w9 j) j))), (4, .int (nI j))] → W p l e (rr 2 0 0) s m args below meth c H locs 0 0 Q (F0 m 44 ls []) := by
        intro k
        induction k with
        | zero =>
          intro j H locs ls hj hk
          exact absurd hk (Nat.not_lt_zero _)
        | succ k ih_44 =>
          intro j H locs ls hj hk hP hD hS hl
          refine lv_iload hx hb dX6_passages_44 (lv_at hl 4 rfl) ?_
          refine lv_iload_n hx hb dX6_passages_46 rfl (lv_at hl 2 rfl) ?_
          refine lv_iadd hx hb dX6_passages_47 ?_
          refine lv_asi (nI_add _ _) ?_
          refine lv_aload_n hx hb dX6_passages_48 rfl (lv_at hl 0 rfl) ?_
          refine lv_iload_n hx hb dX6_passages_49 rfl (lv_at hl 1 rfl) ?_
          refine Cp.callV (As := [.int (nI v)]) (rest := [.int (nI (j + w9))]) (cv_X6_86 hg ⟨Nat.le_of_ble_eq_true rfl, Nat.le_of_ble_eq_true rfl⟩) (k_many l D cI m0 m1 m2 m3 m4 m5 m6 m7 m8 m9 m10 m11 ((nI 0)) (co) (n) (rn) (mn) (pn) (sn) v hv hn) cx hK hP [0] rfl (rq := 0) rfl rfl rfl hS rfl hl.1 rfl (Nat.le_of_ble_eq_true rfl) dX6_passages_50 ⟨Nat.zero_le _, Nat.zero_le _⟩ (fun H locs hP hS => ?_)
          refine lv_icmp_gt (tgt := 119) hx hb dX6_passages_53 (by decide) (fun c53 => ?_) (fun c53 => ?_)
          · have c53 := (nI_ltI (by omega) (by omega)).mp c53
            refine lv_iload_n hx hb dX6_passages_119 rfl (lv_at hl 3 rfl) ?_
            exact hret _ _ 120 _ _ ((ff_N (n) (rn) (mn) (pn) (sn) 0, ff_Z ((nI 0)) (co), ff_A14 (KP) (KL) (KR) (KM) (KN) (KS) (KB) (KT) (KE) (KF) (KX) (KX) (KX) (KX))) (Or.inr ⟨⟨v, hv, rfl, w9, hw1, hw2, rfl⟩, by rw [cl_n (by omega), cl_n (by omega), ff_pas, show (ff_cnt v n) + 1 - w9 = j by omega], rfl⟩) hP hD hS dX6_passages_120
          · have c53 := mt (nI_ltI (by omega) (by omega)).mpr c53
            refine lv_iconst (v := nI 1) hx hb dX6_passages_56 (by decide) ?_
            refine lv_asi (y := bI (¬ ff_any (fun t => decide (w9 ≤ ff_run (ff_it KP KL v) t j ((ff_cnt v n) - j))) 0 = true)) (bI_1 (by simp [ff_any])) ?_
            refine lv_istore (lv' := [(5, .int (bI (¬ ff_any (fun t => decide (w9 ≤ ff_run (ff_it KP KL v) t j ((ff_cnt v n) - j))) 0 = true))), (0, .ref m0), (1, .int (nI v)), (2, .int (nI w9)), (3, .int (nI (ff_ct (fun j => !ff_came (ff_it KP KL v) (ff_cnt v n) w9 j) j))), (4, .int (nI j))]) hx hb dX6_passages_57 hl (by decide) rfl (fun ls hl => ?_)
            
            refine lv_iconst (v := nI 0) hx hb dX6_passages_59 (by decide) ?_
            refine lv_istore (lv' := [(6, .int (nI 0)), (5, .int (bI (¬ ff_any (fun t => decide (w9 ≤ ff_run (ff_it KP KL v) t j ((ff_cnt v n) - j))) 0 = true))), (0, .ref m0), (1, .int (nI v)), (2, .int (nI w9)), (3, .int (nI (ff_ct (fun j => !ff_came (ff_it KP KL v) (ff_cnt v n) w9 j) j))), (4, .int (nI j))]) hx hb dX6_passages_60 hl (by decide) rfl (fun ls hl => ?_)
            have lp_62 : ∀ (k : Nat) (i : Nat) (H : Heap) (locs : List Loc) (ls : Array Slot), (i ≤ j) → (j - i < k) → va_P D vwCl [(m0, .inr (6, [.int ((nI 0)), .int (nI n), .ref m1, .ref m2, .int (nI rn), .ref m3, .int (nI mn), .ref m4, .ref m5, .int (nI pn), .ref m6, .int (nI sn), .int co, .ref m7, .ref m8, .ref m9, .ref m10, .ref m11])), (m1, oI cI 60 KP), (m2, oI cI 60 KL), (m3, oI cI 5400 KR), (m4, oI cI 12 KM), (m5, oI cI 12 KN), (m6, oI cI 60 KS), (m7, oI cI 60 KB), (m8, oI cI 12 KT), (m9, oI cI 61 KE), (m10, oI cI 61 KF), (m11, oI cI 61 KX)] H → va_D A [(m0, .inr (6, [.int ((nI 0)), .int (nI n), .ref m1, .ref m2, .int (nI rn), .ref m3, .int (nI mn), .ref m4, .ref m5, .int (nI pn), .ref m6, .int (nI sn), .int co, .ref m7, .ref m8, .ref m9, .ref m10, .ref m11])), (m1, oI cI 60 KP), (m2, oI cI 60 KL), (m3, oI cI 5400 KR), (m4, oI cI 12 KM), (m5, oI cI 12 KN), (m6, oI cI 60 KS), (m7, oI cI 60 KB), (m8, oI cI 12 KT), (m9, oI cI 61 KE), (m10, oI cI 61 KF), (m11, oI cI 61 KX)] → va_S A s.heap H locs → lv_has ls 7 [(0, .ref m0), (1, .int (nI v)), (2, .int (nI w9)), (3, .int (nI (ff_ct (fun j => !ff_came (ff_it KP KL v) (ff_cnt v n) w9 j) j))), (4, .int (nI j)), (5, .int (bI (¬ ff_any (fun t => decide (w9 ≤ ff_run (ff_it KP KL v) t j ((ff_cnt v n) - j))) i = true))), (6, .int (nI i))] → W p l e (rr 2 0 0) s m args below meth c H locs 0 0 Q (F0 m 62 ls []) := by
              intro k
              induction k with
              | zero =>
                intro i H locs ls hi hk
                exact absurd hk (Nat.not_lt_zero _)
              | succ k ih_62 =>
                intro i H locs ls hi hk hP hD hS hl
                refine lv_iload hx hb dX6_passages_62 (lv_at hl 6 rfl) ?_
                refine lv_iload hx hb dX6_passages_64 (lv_at hl 4 rfl) ?_
                refine lv_icmp_ge (tgt := 100) hx hb dX6_passages_66 (by decide) (fun c66 => ?_) (fun c66 => ?_)
                · have c66 := (nI_leI (by omega) (by omega)).mp c66
                  obtain rfl : j = i := by omega
                  refine lv_iload_n hx hb dX6_passages_100 rfl (lv_at hl 3 rfl) ?_
                  refine lv_iload hx hb dX6_passages_101 (lv_at hl 5 rfl) ?_
                  refine lv_if_eq (tgt := 110) hx hb dX6_passages_103 (by decide) (fun c103 => ?_) (fun c103 => ?_)
                  · have c103 := bI_z.mp c103
                    have e9 : ff_ct (fun j => !ff_came (ff_it KP KL v) (ff_cnt v n) w9 j) (j + 1) = ff_ct (fun j => !ff_came (ff_it KP KL v) (ff_cnt v n) w9 j) j + 0 := ff_ct_f (fun h => c103 (ff_an_e h))
                    refine lv_iconst (v := nI 0) hx hb dX6_passages_110 (by decide) ?_
                    refine lv_iadd hx hb dX6_passages_111 ?_
                    refine lv_asi (nI_add _ _) ?_
                    refine lv_istore_n (lv' := [(3, .int (nI (ff_ct (fun j => !ff_came (ff_it KP KL v) (ff_cnt v n) w9 j) j + 0))), (0, .ref m0), (1, .int (nI v)), (2, .int (nI w9)), (4, .int (nI j)), (5, .int (bI (¬ ff_any (fun t => decide (w9 ≤ ff_run (ff_it KP KL v) t j ((ff_cnt v n) - j))) j = true))), (6, .int (nI j))]) hx hb dX6_passages_112 rfl hl (by decide) rfl (fun ls hl => ?_)
                    refine lv_iinc (v := nI (j + 1)) (lv' := [(4, .int (nI (j + 1))), (3, .int (nI (ff_ct (fun j => !ff_came (ff_it KP KL v) (ff_cnt v n) w9 j) j + 0))), (0, .ref m0), (1, .int (nI v)), (2, .int (nI w9)), (5, .int (bI (¬ ff_any (fun t => decide (w9 ≤ ff_run (ff_it KP KL v) t j ((ff_cnt v n) - j))) j = true))), (6, .int (nI j))]) hx hb dX6_passages_113 hl (k := 4) rfl (nI_1 _) (by decide) rfl (fun ls hl => ?_)
                    refine lv_goto (tgt := 44) hx hb dX6_passages_116 (by decide) ?_
                    rw [← e9] at hl
                    exact ih_44 (j + 1) _ _ _ (by omega) (by omega) hP hD hS (lv_sub hl [2, 3, 4, 1, 0] rfl)
                  · have c103 := bI_nz.mp c103
                    have e9 : ff_ct (fun j => !ff_came (ff_it KP KL v) (ff_cnt v n) w9 j) (j + 1) = ff_ct (fun j => !ff_came (ff_it KP KL v) (ff_cnt v n) w9 j) j + 1 := ff_ct_t (ff_an_i c103)
                    refine lv_iconst (v := nI 1) hx hb dX6_passages_106 (by decide) ?_
                    refine lv_goto (tgt := 111) hx hb dX6_passages_107 (by decide) ?_
                    refine lv_iadd hx hb dX6_passages_111 ?_
                    refine lv_asi (nI_add _ _) ?_
                    refine lv_istore_n (lv' := [(3, .int (nI (ff_ct (fun j => !ff_came (ff_it KP KL v) (ff_cnt v n) w9 j) j + 1))), (0, .ref m0), (1, .int (nI v)), (2, .int (nI w9)), (4, .int (nI j)), (5, .int (bI (¬ ff_any (fun t => decide (w9 ≤ ff_run (ff_it KP KL v) t j ((ff_cnt v n) - j))) j = true))), (6, .int (nI j))]) hx hb dX6_passages_112 rfl hl (by decide) rfl (fun ls hl => ?_)
                    refine lv_iinc (v := nI (j + 1)) (lv' := [(4, .int (nI (j + 1))), (3, .int (nI (ff_ct (fun j => !ff_came (ff_it KP KL v) (ff_cnt v n) w9 j) j + 1))), (0, .ref m0), (1, .int (nI v)), (2, .int (nI w9)), (5, .int (bI (¬ ff_any (fun t => decide (w9 ≤ ff_run (ff_it KP KL v) t j ((ff_cnt v n) - j))) j = true))), (6, .int (nI j))]) hx hb dX6_passages_113 hl (k := 4) rfl (nI_1 _) (by decide) rfl (fun ls hl => ?_)
                    refine lv_goto (tgt := 44) hx hb dX6_passages_116 (by decide) ?_
                    rw [← e9] at hl
                    exact ih_44 (j + 1) _ _ _ (by omega) (by omega) hP hD hS (lv_sub hl [2, 3, 4, 1, 0] rfl)
                · have c66 := mt (nI_leI (by omega) (by omega)).mpr c66
                  refine lv_iload hx hb dX6_passages_69 (lv_at hl 5 rfl) ?_
                  refine lv_if_eq (tgt := 91) hx hb dX6_passages_71 (by decide) (fun c71 => ?_) (fun c71 => ?_)
                  · have c71 := bI_z.mp c71
                    refine lv_iconst (v := nI 0) hx hb dX6_passages_91 (by decide) ?_
                    refine lv_asi (y := bI (¬ ff_any (fun t => decide (w9 ≤ ff_run (ff_it KP KL v) t j ((ff_cnt v n) - j))) (i + 1) = true)) (by first | exact bI_1 (ff_an_t c71 (by omega)) | exact bI_0 (ff_an_f (by omega)) | exact bI_0 (ff_an_g c71)) ?_
                    refine lv_istore (lv' := [(5, .int (bI (¬ ff_any (fun t => decide (w9 ≤ ff_run (ff_it KP KL v) t j ((ff_cnt v n) - j))) (i + 1) = true))), (0, .ref m0), (1, .int (nI v)), (2, .int (nI w9)), (3, .int (nI (ff_ct (fun j => !ff_came (ff_it KP KL v) (ff_cnt v n) w9 j) j))), (4, .int (nI j)), (6, .int (nI i))]) hx hb dX6_passages_92 hl (by decide) rfl (fun ls hl => ?_)
                    refine lv_iinc (v := nI (i + 1)) (lv' := [(6, .int (nI (i + 1))), (5, .int (bI (¬ ff_any (fun t => decide (w9 ≤ ff_run (ff_it KP KL v) t j ((ff_cnt v n) - j))) (i + 1) = true))), (0, .ref m0), (1, .int (nI v)), (2, .int (nI w9)), (3, .int (nI (ff_ct (fun j => !ff_came (ff_it KP KL v) (ff_cnt v n) w9 j) j))), (4, .int (nI j))]) hx hb dX6_passages_94 hl (k := 6) rfl (nI_1 _) (by decide) rfl (fun ls hl => ?_)
                    refine lv_goto (tgt := 62) hx hb dX6_passages_97 (by decide) ?_
                    exact ih_62 (i + 1) _ _ _ (by omega) (by omega) hP hD hS (lv_sub hl [2, 3, 4, 5, 6, 1, 0] rfl)
                  · have c71 := bI_nz.mp c71
                    refine lv_aload_n hx hb dX6_passages_74 rfl (lv_at hl 0 rfl) ?_
                    refine lv_iload_n hx hb dX6_passages_75 rfl (lv_at hl 1 rfl) ?_
                    refine lv_iload hx hb dX6_passages_76 (lv_at hl 6 rfl) ?_
                    refine lv_iload hx hb dX6_passages_78 (lv_at hl 4 rfl) ?_
                    refine Cp.callV (As := [.int (nI v), .int (nI i), .int (nI j)]) (rest := []) (cv_X6_96 hg ⟨Nat.le_of_ble_eq_true rfl, Nat.le_of_ble_eq_true rfl⟩) (k_common l D cI m0 m1 m2 m3 m4 m5 m6 m7 m8 m9 m10 m11 ((nI 0)) (co) (n) (rn) (mn) (pn) (sn) (KP) (KL) v (i) (j) hv hn (by omega) (by omega) hR) cx hK hP [0, 1, 2] rfl (rq := 0) rfl rfl rfl hS rfl hl.1 rfl (Nat.le_of_ble_eq_true rfl) dX6_passages_80 ⟨Nat.zero_le _, Nat.zero_le _⟩ (fun H locs hP hS => ?_)
                    have hrl := ff_run_le (ff_it KP KL v) ((ff_cnt v n) - j) i j
                    refine lv_iload_n hx hb dX6_passages_83 rfl (lv_at hl 2 rfl) ?_
                    refine lv_icmp_ge (tgt := 91) hx hb dX6_passages_84 (by decide) (fun c84 => ?_) (fun c84 => ?_)
                    · have c84 := (nI_leI (by omega) (by omega)).mp c84
                      refine lv_iconst (v := nI 0) hx hb dX6_passages_91 (by decide) ?_
                      refine lv_asi (y := bI (¬ ff_any (fun t => decide (w9 ≤ ff_run (ff_it KP KL v) t j ((ff_cnt v n) - j))) (i + 1) = true)) (by first | exact bI_1 (ff_an_t c71 (by omega)) | exact bI_0 (ff_an_f (by omega)) | exact bI_0 (ff_an_g c71)) ?_
                      refine lv_istore (lv' := [(5, .int (bI (¬ ff_any (fun t => decide (w9 ≤ ff_run (ff_it KP KL v) t j ((ff_cnt v n) - j))) (i + 1) = true))), (0, .ref m0), (1, .int (nI v)), (2, .int (nI w9)), (3, .int (nI (ff_ct (fun j => !ff_came (ff_it KP KL v) (ff_cnt v n) w9 j) j))), (4, .int (nI j)), (6, .int (nI i))]) hx hb dX6_passages_92 hl (by decide) rfl (fun ls hl => ?_)
                      refine lv_iinc (v := nI (i + 1)) (lv' := [(6, .int (nI (i + 1))), (5, .int (bI (¬ ff_any (fun t => decide (w9 ≤ ff_run (ff_it KP KL v) t j ((ff_cnt v n) - j))) (i + 1) = true))), (0, .ref m0), (1, .int (nI v)), (2, .int (nI w9)), (3, .int (nI (ff_ct (fun j => !ff_came (ff_it KP KL v) (ff_cnt v n) w9 j) j))), (4, .int (nI j))]) hx hb dX6_passages_94 hl (k := 6) rfl (nI_1 _) (by decide) rfl (fun ls hl => ?_)
                      refine lv_goto (tgt := 62) hx hb dX6_passages_97 (by decide) ?_
                      exact ih_62 (i + 1) _ _ _ (by omega) (by omega) hP hD hS (lv_sub hl [2, 3, 4, 5, 6, 1, 0] rfl)
                    · have c84 := mt (nI_leI (by omega) (by omega)).mpr c84
                      refine lv_iconst (v := nI 1) hx hb dX6_passages_87 (by decide) ?_
                      refine lv_goto (tgt := 92) hx hb dX6_passages_88 (by decide) ?_
                      refine lv_asi (y := bI (¬ ff_any (fun t => decide (w9 ≤ ff_run (ff_it KP KL v) t j ((ff_cnt v n) - j))) (i + 1) = true)) (by first | exact bI_1 (ff_an_t c71 (by omega)) | exact bI_0 (ff_an_f (by omega)) | exact bI_0 (ff_an_g c71)) ?_
                      refine lv_istore (lv' := [(5, .int (bI (¬ ff_any (fun t => decide (w9 ≤ ff_run (ff_it KP KL v) t j ((ff_cnt v n) - j))) (i + 1) = true))), (0, .ref m0), (1, .int (nI v)), (2, .int (nI w9)), (3, .int (nI (ff_ct (fun j => !ff_came (ff_it KP KL v) (ff_cnt v n) w9 j) j))), (4, .int (nI j)), (6, .int (nI i))]) hx hb dX6_passages_92 hl (by decide) rfl (fun ls hl => ?_)
                      refine lv_iinc (v := nI (i + 1)) (lv' := [(6, .int (nI (i + 1))), (5, .int (bI (¬ ff_any (fun t => decide (w9 ≤ ff_run (ff_it KP KL v) t j ((ff_cnt v n) - j))) (i + 1) = true))), (0, .ref m0), (1, .int (nI v)), (2, .int (nI w9)), (3, .int (nI (ff_ct (fun j => !ff_came (ff_it KP KL v) (ff_cnt v n) w9 j) j))), (4, .int (nI j))]) hx hb dX6_passages_94 hl (k := 6) rfl (nI_1 _) (by decide) rfl (fun ls hl => ?_)
                      refine lv_goto (tgt := 62) hx hb dX6_passages_97 (by decide) ?_
                      exact ih_62 (i + 1) _ _ _ (by omega) (by omega) hP hD hS (lv_sub hl [2, 3, 4, 5, 6, 1, 0] rfl)
            exact lp_62 (_ + 1) (0) _ _ _ (Nat.zero_le _) (Nat.lt_succ_self _) hP hD hS (lv_sub hl [2, 3, 4, 5, 6, 1, 0] rfl)
      exact lp_44 (_ + 1) (0) _ _ _ (Nat.zero_le _) (Nat.lt_succ_self _) hP hD hS (lv_sub hl [2, 3, 4, 1, 0] rfl)

set_option maxHeartbeats 4000000 in
set_option maxRecDepth 100000 in
theorem c_alike (l : Launch) (D : va_G) (cI : ClassId) (m0 m1 m2 m3 m4 m5 m6 m7 m8 m9 m10 m11 : Nat) (th co : Int32) (n rn mn pn sn : Nat) (KP KL KR KM KN KS KB KT KE KF KX : Nat → Int32) (hn : n ≤ 60) (hmn : mn ≤ 12) (vw i j q : Int32) (hR : ∀ t, t < n → 0 ≤ (KP t).toInt ∧ (KP t).toInt ≤ 127) : Ci l yX6_alike cX6_alike 8 (some .int) 2 0 0 D (tI cI) [.ref m0, .int vw, .int i, .int j, .int q] [(m0, .inr (6, [.int th, .int (nI n), .ref m1, .ref m2, .int (nI rn), .ref m3, .int (nI mn), .ref m4, .ref m5, .int (nI pn), .ref m6, .int (nI sn), .int co, .ref m7, .ref m8, .ref m9, .ref m10, .ref m11])), (m1, oI cI 60 KP), (m2, oI cI 60 KL), (m3, oI cI 5400 KR), (m4, oI cI 12 KM), (m5, oI cI 12 KN), (m6, oI cI 60 KS), (m7, oI cI 60 KB), (m8, oI cI 12 KT), (m9, oI cI 61 KE), (m10, oI cI 61 KF), (m11, oI cI 61 KX)] (S := ff_S) (fun r u => (¬ okAl n vw i j q ∧ r = nI 0 ∧ u = (ff_N (n) (rn) (mn) (pn) (sn) 0, ff_Z ((nI 1)) (co), ff_A14 (KP) (KL) (KR) (KM) (KN) (KS) (KB) (KT) (KE) (KF) (KX) (KX) (KX) (KX))) ∨ (okAl n vw i j q ∧ q = 0 ∧ r = nI 0 ∧ u = (ff_N (n) (rn) (mn) (pn) (sn) 0, ff_Z ((nI 2)) (co), ff_A14 (KP) (KL) (KR) (KM) (KN) (KS) (KB) (KT) (KE) (KF) (KX) (KX) (KX) (KX))) ∨ (okAl n vw i j q ∧ ¬ q = 0 ∧ r = nI (100 * ff_same (ff_it KP KL (cl vw)) (cl i) (cl j) (cl q)) / q ∧ u = (ff_N (n) (rn) (mn) (pn) (sn) 0, ff_Z ((nI 0)) (co), ff_A14 (KP) (KL) (KR) (KM) (KN) (KS) (KB) (KT) (KE) (KF) (KX) (KX) (KX) (KX)))) (fun u => [(m0, .inr (6, [.int ((u.2.1 0)), .int (nI (u.1 0)), .ref m1, .ref m2, .int (nI (u.1 1)), .ref m3, .int (nI (u.1 2)), .ref m4, .ref m5, .int (nI (u.1 3)), .ref m6, .int (nI (u.1 4)), .int ((u.2.1 1)), .ref m7, .ref m8, .ref m9, .ref m10, .ref m11])), (m1, oI cI 60 (u.2.2 0)), (m2, oI cI 60 (u.2.2 1)), (m3, oI cI 5400 (u.2.2 2)), (m4, oI cI 12 (u.2.2 3)), (m5, oI cI 12 (u.2.2 4)), (m6, oI cI 60 (u.2.2 5)), (m7, oI cI 60 (u.2.2 6)), (m8, oI cI 12 (u.2.2 7)), (m9, oI cI 61 (u.2.2 8)), (m10, oI cI 61 (u.2.2 9)), (m11, oI cI 61 (u.2.2 10))]) := by
  refine Ci.of (own := RX6) (lv := [(0, .ref m0), (1, .int vw), (2, .int i), (3, .int j), (4, .int q)]) (by decide +kernel) rfl (Nat.le_of_ble_eq_true rfl) rfl (fun x u h => vp_nar_int _) ?_
  intro p e s m args below meth c Q A cx hK hP hD hA hret ls hl
  obtain ⟨hx, hb, hml, hown, hg⟩ := id cx
  have hS : va_S A s.heap s.heap [] := va_S.rf
  refine lv_aload_n hx hb dX6_alike_0 rfl (lv_at hl 0 rfl) ?_
  refine lv_iconst (v := nI 0) hx hb dX6_alike_1 (by decide) ?_
  refine pf_X6_46 hx hb hg hown hK hP hD hS 0 rfl (Nat.le_of_ble_eq_true rfl) dX6_alike_2 (fun H locs hP hD hS => ?_)
  have hP : va_P D vwCl [(m0, .inr (6, [.int (nI 0), .int (nI n), .ref m1, .ref m2, .int (nI rn), .ref m3, .int (nI mn), .ref m4, .ref m5, .int (nI pn), .ref m6, .int (nI sn), .int co, .ref m7, .ref m8, .ref m9, .ref m10, .ref m11])), (m1, oI cI 60 KP), (m2, oI cI 60 KL), (m3, oI cI 5400 KR), (m4, oI cI 12 KM), (m5, oI cI 12 KN), (m6, oI cI 60 KS), (m7, oI cI 60 KB), (m8, oI cI 12 KT), (m9, oI cI 61 KE), (m10, oI cI 61 KF), (m11, oI cI 61 KX)] H := hP
  have hD : va_D A [(m0, .inr (6, [.int (nI 0), .int (nI n), .ref m1, .ref m2, .int (nI rn), .ref m3, .int (nI mn), .ref m4, .ref m5, .int (nI pn), .ref m6, .int (nI sn), .int co, .ref m7, .ref m8, .ref m9, .ref m10, .ref m11])), (m1, oI cI 60 KP), (m2, oI cI 60 KL), (m3, oI cI 5400 KR), (m4, oI cI 12 KM), (m5, oI cI 12 KN), (m6, oI cI 60 KS), (m7, oI cI 60 KB), (m8, oI cI 12 KT), (m9, oI cI 61 KE), (m10, oI cI 61 KF), (m11, oI cI 61 KX)] := hD
  refine lv_iload_n hx hb dX6_alike_5 rfl (lv_at hl 1 rfl) ?_
  refine Cp.callS (As := [.int vw]) (rest := []) (cv_X6_82 hg ⟨Nat.le_of_ble_eq_true rfl, Nat.le_of_ble_eq_true rfl⟩) (k_MisView l D cI [] vw) cx hK hP [] rfl hS rfl hl.1 rfl (Nat.le_of_ble_eq_true rfl) dX6_alike_6 ⟨Nat.zero_le _, Nat.zero_le _⟩ (fun H locs hP hS => ?_)
  refine lv_if_eq (tgt := 61) hx hb dX6_alike_9 (by decide) (fun c9 => ?_) (fun c9 => ?_)
  · have c9 := bI_z.mp c9
    refine lv_iconst (v := nI 0) hx hb dX6_alike_61 (by decide) ?_
    refine lv_istore (lv' := [(5, .int (nI 0)), (0, .ref m0), (1, .int vw), (2, .int i), (3, .int j), (4, .int q)]) hx hb dX6_alike_62 hl (by decide) rfl (fun ls hl => ?_)
    refine lv_aload_n hx hb dX6_alike_64 rfl (lv_at hl 1 rfl) ?_
    refine lv_iload hx hb dX6_alike_65 (lv_at hl 0 rfl) ?_
    refine lv_iconst (v := nI 1) hx hb dX6_alike_67 (by decide) ?_
    refine Ci.callV (As := [.int (nI 0), .int (nI 1)]) (rest := []) (wr := [(m1, oI cI 60 KP), (m2, oI cI 60 KL), (m3, oI cI 5400 KR), (m4, oI cI 12 KM), (m5, oI cI 12 KN), (m6, oI cI 60 KS), (m7, oI cI 60 KB), (m8, oI cI 12 KT), (m9, oI cI 61 KE), (m10, oI cI 61 KF), (m11, oI cI 61 KX)]) (wn := (fun _ => [(m0, .inr (6, [.int ((nI 1)), .int (nI n), .ref m1, .ref m2, .int (nI rn), .ref m3, .int (nI mn), .ref m4, .ref m5, .int (nI pn), .ref m6, .int (nI sn), .int co, .ref m7, .ref m8, .ref m9, .ref m10, .ref m11])), (m1, oI cI 60 KP), (m2, oI cI 60 KL), (m3, oI cI 5400 KR), (m4, oI cI 12 KM), (m5, oI cI 12 KN), (m6, oI cI 60 KS), (m7, oI cI 60 KB), (m8, oI cI 12 KT), (m9, oI cI 61 KE), (m10, oI cI 61 KF), (m11, oI cI 61 KX)])) (cv_X6_76 hg ⟨Nat.le_of_ble_eq_true rfl, Nat.le_of_ble_eq_true rfl⟩) (k_go0 l D cI m0 (.int (nI n)) (.ref m1) (.ref m2) (.int (nI rn)) (.ref m3) (.int (nI mn)) (.ref m4) (.ref m5) (.int (nI pn)) (.ref m6) (.int (nI sn)) (.int co) (.ref m7) (.ref m8) (.ref m9) (.ref m10) (.ref m11) 1 (by decide) (by decide)) cx hK hP hD hA [0] [1, 2, 3, 4, 5, 6, 7, 8, 9, 10, 11] [11, 0, 1, 2, 3, 4, 5, 6, 7, 8, 9, 10] rfl rfl (by decide) (fun _ => rfl) (rq := 0) rfl rfl rfl hS rfl hl.1 rfl (Nat.le_of_ble_eq_true rfl) dX6_alike_68 ⟨Nat.le_refl _, Nat.le_refl _⟩ (fun H locs r68 _ p68 hP hD hS => ?_)
    subst p68
    refine lv_if_eq (tgt := 92) hx hb dX6_alike_71 (by decide) (fun _ => ?_) (fun h9 => absurd (by decide) h9)
    refine lv_iconst (v := nI 0) hx hb dX6_alike_92 (by decide) ?_
    exact hret _ _ 93 _ _ ((ff_N (n) (rn) (mn) (pn) (sn) 0, ff_Z ((nI 1)) (co), ff_A14 (KP) (KL) (KR) (KM) (KN) (KS) (KB) (KT) (KE) (KF) (KX) (KX) (KX) (KX))) (by first | exact Or.inr (Or.inl ⟨⟨v, hv, rfl, b1, b2, b3, rfl, rfl, rfl, by omega, by omega⟩, (nz_eq (by omega)).mpr c77, rfl, rfl⟩) | exact Or.inl ⟨fun h => by obtain ⟨v9, hv9, e9, a9, b9, m9, e1, e2, e3, h1, h2⟩ := h; have hcn9 := ff_cnt_le v9 n; first | exact c9 (by rw [e9]; exact ff_le hv9 (by decide)) | (rw [e3] at c14; exact absurd c14 (nI_pos (by omega))) | (rw [e1] at c18; exact absurd c18 (nI_pos (by omega))) | (rw [e2] at c22; exact absurd c22 (nI_pos (by omega))) | (obtain rfl := nI_inj (by omega) (by omega) e9; obtain rfl := nI_inj (by omega) (by omega) e1; obtain rfl := nI_inj (by omega) (by omega) e2; obtain rfl := nI_inj (by omega) (by omega) e3; omega), rfl, rfl⟩) hP hD hS dX6_alike_93
  · have c9 := bI_nz.mp c9
    obtain ⟨v, hv, rfl⟩ := ff_of (by decide) c9
    refine lv_iload hx hb dX6_alike_12 (lv_at hl 4 rfl) ?_
    refine lv_if_lt (tgt := 61) hx hb dX6_alike_14 (by decide) (fun c14 => ?_) (fun c14 => ?_)
    · skip
      refine lv_iconst (v := nI 0) hx hb dX6_alike_61 (by decide) ?_
      refine lv_istore (lv' := [(5, .int (nI 0)), (0, .ref m0), (1, .int (nI v)), (2, .int i), (3, .int j), (4, .int q)]) hx hb dX6_alike_62 hl (by decide) rfl (fun ls hl => ?_)
      refine lv_aload_n hx hb dX6_alike_64 rfl (lv_at hl 1 rfl) ?_
      refine lv_iload hx hb dX6_alike_65 (lv_at hl 0 rfl) ?_
      refine lv_iconst (v := nI 1) hx hb dX6_alike_67 (by decide) ?_
      refine Ci.callV (As := [.int (nI 0), .int (nI 1)]) (rest := []) (wr := [(m1, oI cI 60 KP), (m2, oI cI 60 KL), (m3, oI cI 5400 KR), (m4, oI cI 12 KM), (m5, oI cI 12 KN), (m6, oI cI 60 KS), (m7, oI cI 60 KB), (m8, oI cI 12 KT), (m9, oI cI 61 KE), (m10, oI cI 61 KF), (m11, oI cI 61 KX)]) (wn := (fun _ => [(m0, .inr (6, [.int ((nI 1)), .int (nI n), .ref m1, .ref m2, .int (nI rn), .ref m3, .int (nI mn), .ref m4, .ref m5, .int (nI pn), .ref m6, .int (nI sn), .int co, .ref m7, .ref m8, .ref m9, .ref m10, .ref m11])), (m1, oI cI 60 KP), (m2, oI cI 60 KL), (m3, oI cI 5400 KR), (m4, oI cI 12 KM), (m5, oI cI 12 KN), (m6, oI cI 60 KS), (m7, oI cI 60 KB), (m8, oI cI 12 KT), (m9, oI cI 61 KE), (m10, oI cI 61 KF), (m11, oI cI 61 KX)])) (cv_X6_76 hg ⟨Nat.le_of_ble_eq_true rfl, Nat.le_of_ble_eq_true rfl⟩) (k_go0 l D cI m0 (.int (nI n)) (.ref m1) (.ref m2) (.int (nI rn)) (.ref m3) (.int (nI mn)) (.ref m4) (.ref m5) (.int (nI pn)) (.ref m6) (.int (nI sn)) (.int co) (.ref m7) (.ref m8) (.ref m9) (.ref m10) (.ref m11) 1 (by decide) (by decide)) cx hK hP hD hA [0] [1, 2, 3, 4, 5, 6, 7, 8, 9, 10, 11] [11, 0, 1, 2, 3, 4, 5, 6, 7, 8, 9, 10] rfl rfl (by decide) (fun _ => rfl) (rq := 0) rfl rfl rfl hS rfl hl.1 rfl (Nat.le_of_ble_eq_true rfl) dX6_alike_68 ⟨Nat.le_refl _, Nat.le_refl _⟩ (fun H locs r68 _ p68 hP hD hS => ?_)
      subst p68
      refine lv_if_eq (tgt := 92) hx hb dX6_alike_71 (by decide) (fun _ => ?_) (fun h9 => absurd (by decide) h9)
      refine lv_iconst (v := nI 0) hx hb dX6_alike_92 (by decide) ?_
      exact hret _ _ 93 _ _ ((ff_N (n) (rn) (mn) (pn) (sn) 0, ff_Z ((nI 1)) (co), ff_A14 (KP) (KL) (KR) (KM) (KN) (KS) (KB) (KT) (KE) (KF) (KX) (KX) (KX) (KX))) (by first | exact Or.inr (Or.inl ⟨⟨v, hv, rfl, b1, b2, b3, rfl, rfl, rfl, by omega, by omega⟩, (nz_eq (by omega)).mpr c77, rfl, rfl⟩) | exact Or.inl ⟨fun h => by obtain ⟨v9, hv9, e9, a9, b9, m9, e1, e2, e3, h1, h2⟩ := h; have hcn9 := ff_cnt_le v9 n; first | exact c9 (by rw [e9]; exact ff_le hv9 (by decide)) | (rw [e3] at c14; exact absurd c14 (nI_pos (by omega))) | (rw [e1] at c18; exact absurd c18 (nI_pos (by omega))) | (rw [e2] at c22; exact absurd c22 (nI_pos (by omega))) | (obtain rfl := nI_inj (by omega) (by omega) e9; obtain rfl := nI_inj (by omega) (by omega) e1; obtain rfl := nI_inj (by omega) (by omega) e2; obtain rfl := nI_inj (by omega) (by omega) e3; omega), rfl, rfl⟩) hP hD hS dX6_alike_93
    · skip
      refine lv_iload_n hx hb dX6_alike_17 rfl (lv_at hl 2 rfl) ?_
      refine lv_if_lt (tgt := 61) hx hb dX6_alike_18 (by decide) (fun c18 => ?_) (fun c18 => ?_)
      · skip
        refine lv_iconst (v := nI 0) hx hb dX6_alike_61 (by decide) ?_
        refine lv_istore (lv' := [(5, .int (nI 0)), (0, .ref m0), (1, .int (nI v)), (2, .int i), (3, .int j), (4, .int q)]) hx hb dX6_alike_62 hl (by decide) rfl (fun ls hl => ?_)
        refine lv_aload_n hx hb dX6_alike_64 rfl (lv_at hl 1 rfl) ?_
        refine lv_iload hx hb dX6_alike_65 (lv_at hl 0 rfl) ?_
        refine lv_iconst (v := nI 1) hx hb dX6_alike_67 (by decide) ?_
        refine Ci.callV (As := [.int (nI 0), .int (nI 1)]) (rest := []) (wr := [(m1, oI cI 60 KP), (m2, oI cI 60 KL), (m3, oI cI 5400 KR), (m4, oI cI 12 KM), (m5, oI cI 12 KN), (m6, oI cI 60 KS), (m7, oI cI 60 KB), (m8, oI cI 12 KT), (m9, oI cI 61 KE), (m10, oI cI 61 KF), (m11, oI cI 61 KX)]) (wn := (fun _ => [(m0, .inr (6, [.int ((nI 1)), .int (nI n), .ref m1, .ref m2, .int (nI rn), .ref m3, .int (nI mn), .ref m4, .ref m5, .int (nI pn), .ref m6, .int (nI sn), .int co, .ref m7, .ref m8, .ref m9, .ref m10, .ref m11])), (m1, oI cI 60 KP), (m2, oI cI 60 KL), (m3, oI cI 5400 KR), (m4, oI cI 12 KM), (m5, oI cI 12 KN), (m6, oI cI 60 KS), (m7, oI cI 60 KB), (m8, oI cI 12 KT), (m9, oI cI 61 KE), (m10, oI cI 61 KF), (m11, oI cI 61 KX)])) (cv_X6_76 hg ⟨Nat.le_of_ble_eq_true rfl, Nat.le_of_ble_eq_true rfl⟩) (k_go0 l D cI m0 (.int (nI n)) (.ref m1) (.ref m2) (.int (nI rn)) (.ref m3) (.int (nI mn)) (.ref m4) (.ref m5) (.int (nI pn)) (.ref m6) (.int (nI sn)) (.int co) (.ref m7) (.ref m8) (.ref m9) (.ref m10) (.ref m11) 1 (by decide) (by decide)) cx hK hP hD hA [0] [1, 2, 3, 4, 5, 6, 7, 8, 9, 10, 11] [11, 0, 1, 2, 3, 4, 5, 6, 7, 8, 9, 10] rfl rfl (by decide) (fun _ => rfl) (rq := 0) rfl rfl rfl hS rfl hl.1 rfl (Nat.le_of_ble_eq_true rfl) dX6_alike_68 ⟨Nat.le_refl _, Nat.le_refl _⟩ (fun H locs r68 _ p68 hP hD hS => ?_)
        subst p68
        refine lv_if_eq (tgt := 92) hx hb dX6_alike_71 (by decide) (fun _ => ?_) (fun h9 => absurd (by decide) h9)
        refine lv_iconst (v := nI 0) hx hb dX6_alike_92 (by decide) ?_
        exact hret _ _ 93 _ _ ((ff_N (n) (rn) (mn) (pn) (sn) 0, ff_Z ((nI 1)) (co), ff_A14 (KP) (KL) (KR) (KM) (KN) (KS) (KB) (KT) (KE) (KF) (KX) (KX) (KX) (KX))) (by first | exact Or.inr (Or.inl ⟨⟨v, hv, rfl, b1, b2, b3, rfl, rfl, rfl, by omega, by omega⟩, (nz_eq (by omega)).mpr c77, rfl, rfl⟩) | exact Or.inl ⟨fun h => by obtain ⟨v9, hv9, e9, a9, b9, m9, e1, e2, e3, h1, h2⟩ := h; have hcn9 := ff_cnt_le v9 n; first | exact c9 (by rw [e9]; exact ff_le hv9 (by decide)) | (rw [e3] at c14; exact absurd c14 (nI_pos (by omega))) | (rw [e1] at c18; exact absurd c18 (nI_pos (by omega))) | (rw [e2] at c22; exact absurd c22 (nI_pos (by omega))) | (obtain rfl := nI_inj (by omega) (by omega) e9; obtain rfl := nI_inj (by omega) (by omega) e1; obtain rfl := nI_inj (by omega) (by omega) e2; obtain rfl := nI_inj (by omega) (by omega) e3; omega), rfl, rfl⟩) hP hD hS dX6_alike_93
      · skip
        refine lv_iload_n hx hb dX6_alike_21 rfl (lv_at hl 3 rfl) ?_
        refine lv_if_lt (tgt := 61) hx hb dX6_alike_22 (by decide) (fun c22 => ?_) (fun c22 => ?_)
        · skip
          refine lv_iconst (v := nI 0) hx hb dX6_alike_61 (by decide) ?_
          refine lv_istore (lv' := [(5, .int (nI 0)), (0, .ref m0), (1, .int (nI v)), (2, .int i), (3, .int j), (4, .int q)]) hx hb dX6_alike_62 hl (by decide) rfl (fun ls hl => ?_)
          refine lv_aload_n hx hb dX6_alike_64 rfl (lv_at hl 1 rfl) ?_
          refine lv_iload hx hb dX6_alike_65 (lv_at hl 0 rfl) ?_
          refine lv_iconst (v := nI 1) hx hb dX6_alike_67 (by decide) ?_
          refine Ci.callV (As := [.int (nI 0), .int (nI 1)]) (rest := []) (wr := [(m1, oI cI 60 KP), (m2, oI cI 60 KL), (m3, oI cI 5400 KR), (m4, oI cI 12 KM), (m5, oI cI 12 KN), (m6, oI cI 60 KS), (m7, oI cI 60 KB), (m8, oI cI 12 KT), (m9, oI cI 61 KE), (m10, oI cI 61 KF), (m11, oI cI 61 KX)]) (wn := (fun _ => [(m0, .inr (6, [.int ((nI 1)), .int (nI n), .ref m1, .ref m2, .int (nI rn), .ref m3, .int (nI mn), .ref m4, .ref m5, .int (nI pn), .ref m6, .int (nI sn), .int co, .ref m7, .ref m8, .ref m9, .ref m10, .ref m11])), (m1, oI cI 60 KP), (m2, oI cI 60 KL), (m3, oI cI 5400 KR), (m4, oI cI 12 KM), (m5, oI cI 12 KN), (m6, oI cI 60 KS), (m7, oI cI 60 KB), (m8, oI cI 12 KT), (m9, oI cI 61 KE), (m10, oI cI 61 KF), (m11, oI cI 61 KX)])) (cv_X6_76 hg ⟨Nat.le_of_ble_eq_true rfl, Nat.le_of_ble_eq_true rfl⟩) (k_go0 l D cI m0 (.int (nI n)) (.ref m1) (.ref m2) (.int (nI rn)) (.ref m3) (.int (nI mn)) (.ref m4) (.ref m5) (.int (nI pn)) (.ref m6) (.int (nI sn)) (.int co) (.ref m7) (.ref m8) (.ref m9) (.ref m10) (.ref m11) 1 (by decide) (by decide)) cx hK hP hD hA [0] [1, 2, 3, 4, 5, 6, 7, 8, 9, 10, 11] [11, 0, 1, 2, 3, 4, 5, 6, 7, 8, 9, 10] rfl rfl (by decide) (fun _ => rfl) (rq := 0) rfl rfl rfl hS rfl hl.1 rfl (Nat.le_of_ble_eq_true rfl) dX6_alike_68 ⟨Nat.le_refl _, Nat.le_refl _⟩ (fun H locs r68 _ p68 hP hD hS => ?_)
          subst p68
          refine lv_if_eq (tgt := 92) hx hb dX6_alike_71 (by decide) (fun _ => ?_) (fun h9 => absurd (by decide) h9)
          refine lv_iconst (v := nI 0) hx hb dX6_alike_92 (by decide) ?_
          exact hret _ _ 93 _ _ ((ff_N (n) (rn) (mn) (pn) (sn) 0, ff_Z ((nI 1)) (co), ff_A14 (KP) (KL) (KR) (KM) (KN) (KS) (KB) (KT) (KE) (KF) (KX) (KX) (KX) (KX))) (by first | exact Or.inr (Or.inl ⟨⟨v, hv, rfl, b1, b2, b3, rfl, rfl, rfl, by omega, by omega⟩, (nz_eq (by omega)).mpr c77, rfl, rfl⟩) | exact Or.inl ⟨fun h => by obtain ⟨v9, hv9, e9, a9, b9, m9, e1, e2, e3, h1, h2⟩ := h; have hcn9 := ff_cnt_le v9 n; first | exact c9 (by rw [e9]; exact ff_le hv9 (by decide)) | (rw [e3] at c14; exact absurd c14 (nI_pos (by omega))) | (rw [e1] at c18; exact absurd c18 (nI_pos (by omega))) | (rw [e2] at c22; exact absurd c22 (nI_pos (by omega))) | (obtain rfl := nI_inj (by omega) (by omega) e9; obtain rfl := nI_inj (by omega) (by omega) e1; obtain rfl := nI_inj (by omega) (by omega) e2; obtain rfl := nI_inj (by omega) (by omega) e3; omega), rfl, rfl⟩) hP hD hS dX6_alike_93
        · skip
          obtain ⟨b3, hb3, rfl⟩ := nI_of c14
          obtain ⟨b1, hb1, rfl⟩ := nI_of c18
          obtain ⟨b2, hb2, rfl⟩ := nI_of c22
          have hcn := ff_cnt_le v n
          refine lv_iload_n hx hb dX6_alike_25 rfl (lv_at hl 2 rfl) ?_
          refine lv_i2l hx hb dX6_alike_26 rfl ?_
          refine lv_iload hx hb dX6_alike_27 (lv_at hl 4 rfl) ?_
          refine lv_i2l hx hb dX6_alike_29 rfl ?_
          refine lv_ladd hx hb dX6_alike_30 ?_
          refine lv_aload_n hx hb dX6_alike_31 rfl (lv_at hl 0 rfl) ?_
          refine lv_iload_n hx hb dX6_alike_32 rfl (lv_at hl 1 rfl) ?_
          refine Cp.callV (As := [.int (nI v)]) (rest := [.long (((Int32.toInt64 (nI b1)) + (Int32.toInt64 (nI b3))))]) (cv_X6_86 hg ⟨Nat.le_of_ble_eq_true rfl, Nat.le_of_ble_eq_true rfl⟩) (k_many l D cI m0 m1 m2 m3 m4 m5 m6 m7 m8 m9 m10 m11 (nI 0) (co) (n) (rn) (mn) (pn) (sn) v hv hn) cx hK hP [0] rfl (rq := 0) rfl rfl rfl hS rfl hl.1 rfl (Nat.le_of_ble_eq_true rfl) dX6_alike_33 ⟨Nat.zero_le _, Nat.zero_le _⟩ (fun H locs hP hS => ?_)
          refine lv_i2l hx hb dX6_alike_36 rfl ?_
          refine W.lcmp hx hb dX6_alike_37 ?_
          refine lv_if_gt (tgt := 61) hx hb dX6_alike_38 (by decide) (fun c38 => ?_) (fun c38 => ?_)
          · have c38 := lc_gt.mp c38
            have c38 := (l_sum9 hb1 hb3 (by omega)).mp c38
            refine lv_iconst (v := nI 0) hx hb dX6_alike_61 (by decide) ?_
            refine lv_istore (lv' := [(5, .int (nI 0)), (0, .ref m0), (1, .int (nI v)), (2, .int (nI b1)), (3, .int (nI b2)), (4, .int (nI b3))]) hx hb dX6_alike_62 hl (by decide) rfl (fun ls hl => ?_)
            refine lv_aload_n hx hb dX6_alike_64 rfl (lv_at hl 1 rfl) ?_
            refine lv_iload hx hb dX6_alike_65 (lv_at hl 0 rfl) ?_
            refine lv_iconst (v := nI 1) hx hb dX6_alike_67 (by decide) ?_
            refine Ci.callV (As := [.int (nI 0), .int (nI 1)]) (rest := []) (wr := [(m1, oI cI 60 KP), (m2, oI cI 60 KL), (m3, oI cI 5400 KR), (m4, oI cI 12 KM), (m5, oI cI 12 KN), (m6, oI cI 60 KS), (m7, oI cI 60 KB), (m8, oI cI 12 KT), (m9, oI cI 61 KE), (m10, oI cI 61 KF), (m11, oI cI 61 KX)]) (wn := (fun _ => [(m0, .inr (6, [.int ((nI 1)), .int (nI n), .ref m1, .ref m2, .int (nI rn), .ref m3, .int (nI mn), .ref m4, .ref m5, .int (nI pn), .ref m6, .int (nI sn), .int co, .ref m7, .ref m8, .ref m9, .ref m10, .ref m11])), (m1, oI cI 60 KP), (m2, oI cI 60 KL), (m3, oI cI 5400 KR), (m4, oI cI 12 KM), (m5, oI cI 12 KN), (m6, oI cI 60 KS), (m7, oI cI 60 KB), (m8, oI cI 12 KT), (m9, oI cI 61 KE), (m10, oI cI 61 KF), (m11, oI cI 61 KX)])) (cv_X6_76 hg ⟨Nat.le_of_ble_eq_true rfl, Nat.le_of_ble_eq_true rfl⟩) (k_go0 l D cI m0 (.int (nI n)) (.ref m1) (.ref m2) (.int (nI rn)) (.ref m3) (.int (nI mn)) (.ref m4) (.ref m5) (.int (nI pn)) (.ref m6) (.int (nI sn)) (.int co) (.ref m7) (.ref m8) (.ref m9) (.ref m10) (.ref m11) 1 (by decide) (by decide)) cx hK hP hD hA [0] [1, 2, 3, 4, 5, 6, 7, 8, 9, 10, 11] [11, 0, 1, 2, 3, 4, 5, 6, 7, 8, 9, 10] rfl rfl (by decide) (fun _ => rfl) (rq := 0) rfl rfl rfl hS rfl hl.1 rfl (Nat.le_of_ble_eq_true rfl) dX6_alike_68 ⟨Nat.le_refl _, Nat.le_refl _⟩ (fun H locs r68 _ p68 hP hD hS => ?_)
            subst p68
            refine lv_if_eq (tgt := 92) hx hb dX6_alike_71 (by decide) (fun _ => ?_) (fun h9 => absurd (by decide) h9)
            refine lv_iconst (v := nI 0) hx hb dX6_alike_92 (by decide) ?_
            exact hret _ _ 93 _ _ ((ff_N (n) (rn) (mn) (pn) (sn) 0, ff_Z ((nI 1)) (co), ff_A14 (KP) (KL) (KR) (KM) (KN) (KS) (KB) (KT) (KE) (KF) (KX) (KX) (KX) (KX))) (by first | exact Or.inr (Or.inl ⟨⟨v, hv, rfl, b1, b2, b3, rfl, rfl, rfl, by omega, by omega⟩, (nz_eq (by omega)).mpr c77, rfl, rfl⟩) | exact Or.inl ⟨fun h => by obtain ⟨v9, hv9, e9, a9, b9, m9, e1, e2, e3, h1, h2⟩ := h; have hcn9 := ff_cnt_le v9 n; first | exact c9 (by rw [e9]; exact ff_le hv9 (by decide)) | (rw [e3] at c14; exact absurd c14 (nI_pos (by omega))) | (rw [e1] at c18; exact absurd c18 (nI_pos (by omega))) | (rw [e2] at c22; exact absurd c22 (nI_pos (by omega))) | (obtain rfl := nI_inj (by omega) (by omega) e9; obtain rfl := nI_inj (by omega) (by omega) e1; obtain rfl := nI_inj (by omega) (by omega) e2; obtain rfl := nI_inj (by omega) (by omega) e3; omega), rfl, rfl⟩) hP hD hS dX6_alike_93
          · have c38 := mt lc_gt.mpr c38
            have c38 := mt (l_sum9 hb1 hb3 (by omega)).mpr c38
            refine lv_iload_n hx hb dX6_alike_41 rfl (lv_at hl 3 rfl) ?_
            refine lv_i2l hx hb dX6_alike_42 rfl ?_
            refine lv_iload hx hb dX6_alike_43 (lv_at hl 4 rfl) ?_
            refine lv_i2l hx hb dX6_alike_45 rfl ?_
            refine lv_ladd hx hb dX6_alike_46 ?_
            refine lv_aload_n hx hb dX6_alike_47 rfl (lv_at hl 0 rfl) ?_
            refine lv_iload_n hx hb dX6_alike_48 rfl (lv_at hl 1 rfl) ?_
            refine Cp.callV (As := [.int (nI v)]) (rest := [.long (((Int32.toInt64 (nI b2)) + (Int32.toInt64 (nI b3))))]) (cv_X6_86 hg ⟨Nat.le_of_ble_eq_true rfl, Nat.le_of_ble_eq_true rfl⟩) (k_many l D cI m0 m1 m2 m3 m4 m5 m6 m7 m8 m9 m10 m11 (nI 0) (co) (n) (rn) (mn) (pn) (sn) v hv hn) cx hK hP [0] rfl (rq := 0) rfl rfl rfl hS rfl hl.1 rfl (Nat.le_of_ble_eq_true rfl) dX6_alike_49 ⟨Nat.zero_le _, Nat.zero_le _⟩ (fun H locs hP hS => ?_)
            refine lv_i2l hx hb dX6_alike_52 rfl ?_
            refine W.lcmp hx hb dX6_alike_53 ?_
            refine lv_if_gt (tgt := 61) hx hb dX6_alike_54 (by decide) (fun c54 => ?_) (fun c54 => ?_)
            · have c54 := lc_gt.mp c54
              have c54 := (l_sum9 hb2 hb3 (by omega)).mp c54
              refine lv_iconst (v := nI 0) hx hb dX6_alike_61 (by decide) ?_
              refine lv_istore (lv' := [(5, .int (nI 0)), (0, .ref m0), (1, .int (nI v)), (2, .int (nI b1)), (3, .int (nI b2)), (4, .int (nI b3))]) hx hb dX6_alike_62 hl (by decide) rfl (fun ls hl => ?_)
              refine lv_aload_n hx hb dX6_alike_64 rfl (lv_at hl 1 rfl) ?_
              refine lv_iload hx hb dX6_alike_65 (lv_at hl 0 rfl) ?_
              refine lv_iconst (v := nI 1) hx hb dX6_alike_67 (by decide) ?_
              refine Ci.callV (As := [.int (nI 0), .int (nI 1)]) (rest := []) (wr := [(m1, oI cI 60 KP), (m2, oI cI 60 KL), (m3, oI cI 5400 KR), (m4, oI cI 12 KM), (m5, oI cI 12 KN), (m6, oI cI 60 KS), (m7, oI cI 60 KB), (m8, oI cI 12 KT), (m9, oI cI 61 KE), (m10, oI cI 61 KF), (m11, oI cI 61 KX)]) (wn := (fun _ => [(m0, .inr (6, [.int ((nI 1)), .int (nI n), .ref m1, .ref m2, .int (nI rn), .ref m3, .int (nI mn), .ref m4, .ref m5, .int (nI pn), .ref m6, .int (nI sn), .int co, .ref m7, .ref m8, .ref m9, .ref m10, .ref m11])), (m1, oI cI 60 KP), (m2, oI cI 60 KL), (m3, oI cI 5400 KR), (m4, oI cI 12 KM), (m5, oI cI 12 KN), (m6, oI cI 60 KS), (m7, oI cI 60 KB), (m8, oI cI 12 KT), (m9, oI cI 61 KE), (m10, oI cI 61 KF), (m11, oI cI 61 KX)])) (cv_X6_76 hg ⟨Nat.le_of_ble_eq_true rfl, Nat.le_of_ble_eq_true rfl⟩) (k_go0 l D cI m0 (.int (nI n)) (.ref m1) (.ref m2) (.int (nI rn)) (.ref m3) (.int (nI mn)) (.ref m4) (.ref m5) (.int (nI pn)) (.ref m6) (.int (nI sn)) (.int co) (.ref m7) (.ref m8) (.ref m9) (.ref m10) (.ref m11) 1 (by decide) (by decide)) cx hK hP hD hA [0] [1, 2, 3, 4, 5, 6, 7, 8, 9, 10, 11] [11, 0, 1, 2, 3, 4, 5, 6, 7, 8, 9, 10] rfl rfl (by decide) (fun _ => rfl) (rq := 0) rfl rfl rfl hS rfl hl.1 rfl (Nat.le_of_ble_eq_true rfl) dX6_alike_68 ⟨Nat.le_refl _, Nat.le_refl _⟩ (fun H locs r68 _ p68 hP hD hS => ?_)
              subst p68
              refine lv_if_eq (tgt := 92) hx hb dX6_alike_71 (by decide) (fun _ => ?_) (fun h9 => absurd (by decide) h9)
              refine lv_iconst (v := nI 0) hx hb dX6_alike_92 (by decide) ?_
              exact hret _ _ 93 _ _ ((ff_N (n) (rn) (mn) (pn) (sn) 0, ff_Z ((nI 1)) (co), ff_A14 (KP) (KL) (KR) (KM) (KN) (KS) (KB) (KT) (KE) (KF) (KX) (KX) (KX) (KX))) (by first | exact Or.inr (Or.inl ⟨⟨v, hv, rfl, b1, b2, b3, rfl, rfl, rfl, by omega, by omega⟩, (nz_eq (by omega)).mpr c77, rfl, rfl⟩) | exact Or.inl ⟨fun h => by obtain ⟨v9, hv9, e9, a9, b9, m9, e1, e2, e3, h1, h2⟩ := h; have hcn9 := ff_cnt_le v9 n; first | exact c9 (by rw [e9]; exact ff_le hv9 (by decide)) | (rw [e3] at c14; exact absurd c14 (nI_pos (by omega))) | (rw [e1] at c18; exact absurd c18 (nI_pos (by omega))) | (rw [e2] at c22; exact absurd c22 (nI_pos (by omega))) | (obtain rfl := nI_inj (by omega) (by omega) e9; obtain rfl := nI_inj (by omega) (by omega) e1; obtain rfl := nI_inj (by omega) (by omega) e2; obtain rfl := nI_inj (by omega) (by omega) e3; omega), rfl, rfl⟩) hP hD hS dX6_alike_93
            · have c54 := mt lc_gt.mpr c54
              have c54 := mt (l_sum9 hb2 hb3 (by omega)).mpr c54
              refine lv_iconst (v := nI 1) hx hb dX6_alike_57 (by decide) ?_
              refine lv_goto (tgt := 62) hx hb dX6_alike_58 (by decide) ?_
              refine lv_istore (lv' := [(5, .int (nI 1)), (0, .ref m0), (1, .int (nI v)), (2, .int (nI b1)), (3, .int (nI b2)), (4, .int (nI b3))]) hx hb dX6_alike_62 hl (by decide) rfl (fun ls hl => ?_)
              refine lv_aload_n hx hb dX6_alike_64 rfl (lv_at hl 1 rfl) ?_
              refine lv_iload hx hb dX6_alike_65 (lv_at hl 0 rfl) ?_
              refine lv_iconst (v := nI 1) hx hb dX6_alike_67 (by decide) ?_
              refine Ci.callV (As := [.int (nI 1), .int (nI 1)]) (rest := []) (wr := [(m1, oI cI 60 KP), (m2, oI cI 60 KL), (m3, oI cI 5400 KR), (m4, oI cI 12 KM), (m5, oI cI 12 KN), (m6, oI cI 60 KS), (m7, oI cI 60 KB), (m8, oI cI 12 KT), (m9, oI cI 61 KE), (m10, oI cI 61 KF), (m11, oI cI 61 KX)]) (wn := (fun _ => [(m0, .inr (6, [.int (nI 0), .int (nI n), .ref m1, .ref m2, .int (nI rn), .ref m3, .int (nI mn), .ref m4, .ref m5, .int (nI pn), .ref m6, .int (nI sn), .int co, .ref m7, .ref m8, .ref m9, .ref m10, .ref m11])), (m1, oI cI 60 KP), (m2, oI cI 60 KL), (m3, oI cI 5400 KR), (m4, oI cI 12 KM), (m5, oI cI 12 KN), (m6, oI cI 60 KS), (m7, oI cI 60 KB), (m8, oI cI 12 KT), (m9, oI cI 61 KE), (m10, oI cI 61 KF), (m11, oI cI 61 KX)])) (cv_X6_76 hg ⟨Nat.le_of_ble_eq_true rfl, Nat.le_of_ble_eq_true rfl⟩) (k_go1 l D cI m0 (.int (nI n)) (.ref m1) (.ref m2) (.int (nI rn)) (.ref m3) (.int (nI mn)) (.ref m4) (.ref m5) (.int (nI pn)) (.ref m6) (.int (nI sn)) (.int co) (.ref m7) (.ref m8) (.ref m9) (.ref m10) (.ref m11) (nI 1)) cx hK hP hD hA [0] [1, 2, 3, 4, 5, 6, 7, 8, 9, 10, 11] [11, 0, 1, 2, 3, 4, 5, 6, 7, 8, 9, 10] rfl rfl (by decide) (fun _ => rfl) (rq := 0) rfl rfl rfl hS rfl hl.1 rfl (Nat.le_of_ble_eq_true rfl) dX6_alike_68 ⟨Nat.le_refl _, Nat.le_refl _⟩ (fun H locs r68 _ p68 hP hD hS => ?_)
              subst p68
              refine lv_if_eq (tgt := 92) hx hb dX6_alike_71 (by decide) (fun h9 => absurd h9 (by decide)) (fun _ => ?_)
              refine lv_aload_n hx hb dX6_alike_74 rfl (lv_at hl 1 rfl) ?_
              refine lv_iload hx hb dX6_alike_75 (lv_at hl 5 rfl) ?_
              refine lv_if_eq (tgt := 84) hx hb dX6_alike_77 (by decide) (fun c77 => ?_) (fun c77 => ?_)
              · have c77 := (nz_eq (by omega)).mp c77
                refine lv_iconst (v := nI 0) hx hb dX6_alike_84 (by decide) ?_
                refine lv_iconst (v := nI 2) hx hb dX6_alike_85 (by decide) ?_
                refine Ci.callV (As := [.int (nI 0), .int (nI 2)]) (rest := []) (wr := [(m1, oI cI 60 KP), (m2, oI cI 60 KL), (m3, oI cI 5400 KR), (m4, oI cI 12 KM), (m5, oI cI 12 KN), (m6, oI cI 60 KS), (m7, oI cI 60 KB), (m8, oI cI 12 KT), (m9, oI cI 61 KE), (m10, oI cI 61 KF), (m11, oI cI 61 KX)]) (wn := (fun _ => [(m0, .inr (6, [.int ((nI 2)), .int (nI n), .ref m1, .ref m2, .int (nI rn), .ref m3, .int (nI mn), .ref m4, .ref m5, .int (nI pn), .ref m6, .int (nI sn), .int co, .ref m7, .ref m8, .ref m9, .ref m10, .ref m11])), (m1, oI cI 60 KP), (m2, oI cI 60 KL), (m3, oI cI 5400 KR), (m4, oI cI 12 KM), (m5, oI cI 12 KN), (m6, oI cI 60 KS), (m7, oI cI 60 KB), (m8, oI cI 12 KT), (m9, oI cI 61 KE), (m10, oI cI 61 KF), (m11, oI cI 61 KX)])) (cv_X6_76 hg ⟨Nat.le_of_ble_eq_true rfl, Nat.le_of_ble_eq_true rfl⟩) (k_go0 l D cI m0 (.int (nI n)) (.ref m1) (.ref m2) (.int (nI rn)) (.ref m3) (.int (nI mn)) (.ref m4) (.ref m5) (.int (nI pn)) (.ref m6) (.int (nI sn)) (.int co) (.ref m7) (.ref m8) (.ref m9) (.ref m10) (.ref m11) 2 (by decide) (by decide)) cx hK hP hD hA [0] [1, 2, 3, 4, 5, 6, 7, 8, 9, 10, 11] [11, 0, 1, 2, 3, 4, 5, 6, 7, 8, 9, 10] rfl rfl (by decide) (fun _ => rfl) (rq := 0) rfl rfl rfl hS rfl hl.1 rfl (Nat.le_of_ble_eq_true rfl) dX6_alike_86 ⟨Nat.le_refl _, Nat.le_refl _⟩ (fun H locs r86 _ p86 hP hD hS => ?_)
                subst p86
                refine lv_if_ne (tgt := 94) hx hb dX6_alike_89 (by decide) (fun h9 => absurd (by decide) h9) (fun _ => ?_)
                refine lv_iconst (v := nI 0) hx hb dX6_alike_92 (by decide) ?_
                exact hret _ _ 93 _ _ ((ff_N (n) (rn) (mn) (pn) (sn) 0, ff_Z ((nI 2)) (co), ff_A14 (KP) (KL) (KR) (KM) (KN) (KS) (KB) (KT) (KE) (KF) (KX) (KX) (KX) (KX))) (by first | exact Or.inr (Or.inl ⟨⟨v, hv, rfl, b1, b2, b3, rfl, rfl, rfl, by omega, by omega⟩, (nz_eq (by omega)).mpr c77, rfl, rfl⟩) | exact Or.inl ⟨fun h => by obtain ⟨v9, hv9, e9, a9, b9, m9, e1, e2, e3, h1, h2⟩ := h; have hcn9 := ff_cnt_le v9 n; first | exact c9 (by rw [e9]; exact ff_le hv9 (by decide)) | (rw [e3] at c14; exact absurd c14 (nI_pos (by omega))) | (rw [e1] at c18; exact absurd c18 (nI_pos (by omega))) | (rw [e2] at c22; exact absurd c22 (nI_pos (by omega))) | (obtain rfl := nI_inj (by omega) (by omega) e9; obtain rfl := nI_inj (by omega) (by omega) e1; obtain rfl := nI_inj (by omega) (by omega) e2; obtain rfl := nI_inj (by omega) (by omega) e3; omega), rfl, rfl⟩) hP hD hS dX6_alike_93
              · have c77 := mt (nz_eq (by omega)).mpr c77
                refine lv_iconst (v := nI 1) hx hb dX6_alike_80 (by decide) ?_
                refine lv_goto (tgt := 85) hx hb dX6_alike_81 (by decide) ?_
                refine lv_iconst (v := nI 2) hx hb dX6_alike_85 (by decide) ?_
                refine Ci.callV (As := [.int (nI 1), .int (nI 2)]) (rest := []) (wr := [(m1, oI cI 60 KP), (m2, oI cI 60 KL), (m3, oI cI 5400 KR), (m4, oI cI 12 KM), (m5, oI cI 12 KN), (m6, oI cI 60 KS), (m7, oI cI 60 KB), (m8, oI cI 12 KT), (m9, oI cI 61 KE), (m10, oI cI 61 KF), (m11, oI cI 61 KX)]) (wn := (fun _ => [(m0, .inr (6, [.int (nI 0), .int (nI n), .ref m1, .ref m2, .int (nI rn), .ref m3, .int (nI mn), .ref m4, .ref m5, .int (nI pn), .ref m6, .int (nI sn), .int co, .ref m7, .ref m8, .ref m9, .ref m10, .ref m11])), (m1, oI cI 60 KP), (m2, oI cI 60 KL), (m3, oI cI 5400 KR), (m4, oI cI 12 KM), (m5, oI cI 12 KN), (m6, oI cI 60 KS), (m7, oI cI 60 KB), (m8, oI cI 12 KT), (m9, oI cI 61 KE), (m10, oI cI 61 KF), (m11, oI cI 61 KX)])) (cv_X6_76 hg ⟨Nat.le_of_ble_eq_true rfl, Nat.le_of_ble_eq_true rfl⟩) (k_go1 l D cI m0 (.int (nI n)) (.ref m1) (.ref m2) (.int (nI rn)) (.ref m3) (.int (nI mn)) (.ref m4) (.ref m5) (.int (nI pn)) (.ref m6) (.int (nI sn)) (.int co) (.ref m7) (.ref m8) (.ref m9) (.ref m10) (.ref m11) (nI 2)) cx hK hP hD hA [0] [1, 2, 3, 4, 5, 6, 7, 8, 9, 10, 11] [11, 0, 1, 2, 3, 4, 5, 6, 7, 8, 9, 10] rfl rfl (by decide) (fun _ => rfl) (rq := 0) rfl rfl rfl hS rfl hl.1 rfl (Nat.le_of_ble_eq_true rfl) dX6_alike_86 ⟨Nat.le_refl _, Nat.le_refl _⟩ (fun H locs r86 _ p86 hP hD hS => ?_)
                subst p86
                refine lv_if_ne (tgt := 94) hx hb dX6_alike_89 (by decide) (fun _ => ?_) (fun h9 => absurd h9 (by decide))
                refine lv_iconst (v := nI 0) hx hb dX6_alike_94 (by decide) ?_
                refine lv_istore (lv' := [(6, .int (nI 0)), (5, .int (nI 1)), (0, .ref m0), (1, .int (nI v)), (2, .int (nI b1)), (3, .int (nI b2)), (4, .int (nI b3))]) hx hb dX6_alike_95 hl (by decide) rfl (fun ls hl => ?_)
                refine lv_iconst (v := nI 0) hx hb dX6_alike_97 (by decide) ?_
                refine lv_istore (lv' := [(7, .int (nI 0)), (6, .int (nI 0)), (5, .int (nI 1)), (0, .ref m0), (1, .int (nI v)), (2, .int (nI b1)), (3, .int (nI b2)), (4, .int (nI b3))]) hx hb dX6_alike_98 hl (by decide) rfl (fun ls hl => ?_)
                have lp_100 : ∀ (k : Nat) (t : Nat) (H : Heap) (locs : List Loc) (ls : Array Slot), (t ≤ b3) → (b3 - t < k) → va_P D vwCl [(m0, .inr (6, [.int ((nI 0)), .int (nI n), .ref m1, .ref m2, .int (nI rn), .ref m3, .int (nI mn), .ref m4, .ref m5, .int (nI pn), .ref m6, .int (nI sn), .int co, .ref m7, .ref m8, .ref m9, .ref m10, .ref m11])), (m1, oI cI 60 KP), (m2, oI cI 60 KL), (m3, oI cI 5400 KR), (m4, oI cI 12 KM), (m5, oI cI 12 KN), (m6, oI cI 60 KS), (m7, oI cI 60 KB), (m8, oI cI 12 KT), (m9, oI cI 61 KE), (m10, oI cI 61 KF), (m11, oI cI 61 KX)] H → va_D A [(m0, .inr (6, [.int ((nI 0)), .int (nI n), .ref m1, .ref m2, .int (nI rn), .ref m3, .int (nI mn), .ref m4, .ref m5, .int (nI pn), .ref m6, .int (nI sn), .int co, .ref m7, .ref m8, .ref m9, .ref m10, .ref m11])), (m1, oI cI 60 KP), (m2, oI cI 60 KL), (m3, oI cI 5400 KR), (m4, oI cI 12 KM), (m5, oI cI 12 KN), (m6, oI cI 60 KS), (m7, oI cI 60 KB), (m8, oI cI 12 KT), (m9, oI cI 61 KE), (m10, oI cI 61 KF), (m11, oI cI 61 KX)] → va_S A s.heap H locs → lv_has ls 8 [(0, .ref m0), (1, .int (nI v)), (2, .int (nI b1)), (3, .int (nI b2)), (4, .int (nI b3)), (6, .int (nI (ff_same (ff_it KP KL v) b1 b2 t))), (7, .int (nI t))] → W p l e (rr 2 0 0) s m args below meth c H locs 0 0 Q (F0 m 100 ls []) := by
                  intro k
                  induction k with
                  | zero =>
                    intro t H locs ls ht hk
                    exact absurd hk (Nat.not_lt_zero _)
                  | succ k ih_100 =>
                    intro t H locs ls ht hk hP hD hS hl
                    refine lv_iload hx hb dX6_alike_100 (lv_at hl 6 rfl) ?_
                    refine lv_iload hx hb dX6_alike_102 (lv_at hl 4 rfl) ?_
                    refine lv_icmp_ge (tgt := 144) hx hb dX6_alike_104 (by decide) (fun c104 => ?_) (fun c104 => ?_)
                    · have c104 := (nI_leI (by omega) (by omega)).mp c104
                      obtain rfl : t = b3 := by omega
                      refine lv_bipush (v := nI 100) hx hb dX6_alike_144 (by decide) ?_
                      refine lv_iload hx hb dX6_alike_146 (lv_at hl 5 rfl) ?_
                      refine lv_imul hx hb dX6_alike_148 ?_
                      refine lv_asi (pk_mul _ _) ?_
                      refine lv_iload hx hb dX6_alike_149 (lv_at hl 4 rfl) ?_
                      refine lv_idiv hx hb dX6_alike_151 (fun h9 => c77 ((nz_eq (by omega)).mp h9)) ?_
                      exact hret _ _ 152 _ _ ((ff_N (n) (rn) (mn) (pn) (sn) 0, ff_Z ((nI 0)) (co), ff_A14 (KP) (KL) (KR) (KM) (KN) (KS) (KB) (KT) (KE) (KF) (KX) (KX) (KX) (KX))) (Or.inr (Or.inr ⟨⟨v, hv, rfl, b1, b2, t, rfl, rfl, rfl, by omega, by omega⟩, fun h9 => c77 ((nz_eq (by omega)).mp h9), by rw [cl_n (by omega), cl_n (by omega), cl_n (by omega), cl_n (by omega)], rfl⟩)) hP hD hS dX6_alike_152
                    · have c104 := mt (nI_leI (by omega) (by omega)).mpr c104
                      refine lv_iload hx hb dX6_alike_107 (lv_at hl 5 rfl) ?_
                      refine lv_aload_n hx hb dX6_alike_109 rfl (lv_at hl 0 rfl) ?_
                      refine lv_iload_n hx hb dX6_alike_110 rfl (lv_at hl 1 rfl) ?_
                      refine lv_iload_n hx hb dX6_alike_111 rfl (lv_at hl 2 rfl) ?_
                      refine lv_iload hx hb dX6_alike_112 (lv_at hl 6 rfl) ?_
                      refine lv_iadd hx hb dX6_alike_114 ?_
                      refine lv_asi (nI_add _ _) ?_
                      refine Cp.callV (As := [.int (nI v), .int (nI (b1 + t))]) (rest := [.int (nI (ff_same (ff_it KP KL v) b1 b2 t))]) (cv_X6_90 hg ⟨Nat.le_of_ble_eq_true rfl, Nat.le_of_ble_eq_true rfl⟩) (k_itemOf l D cI m0 m1 m2 m3 m4 m5 m6 m7 m8 m9 m10 m11 ((nI 0)) (co) (n) (rn) (mn) (pn) (sn) (KP) (KL) v (b1 + t) hv hn (by omega) hR) cx hK hP [0, 1, 2] rfl (rq := 0) rfl rfl rfl hS rfl hl.1 rfl (Nat.le_of_ble_eq_true rfl) dX6_alike_115 ⟨Nat.zero_le _, Nat.zero_le _⟩ (fun H locs hP hS => ?_)
                      refine lv_aload_n hx hb dX6_alike_118 rfl (lv_at hl 0 rfl) ?_
                      refine lv_iload_n hx hb dX6_alike_119 rfl (lv_at hl 1 rfl) ?_
                      refine lv_iload_n hx hb dX6_alike_120 rfl (lv_at hl 3 rfl) ?_
                      refine lv_iload hx hb dX6_alike_121 (lv_at hl 6 rfl) ?_
                      refine lv_iadd hx hb dX6_alike_123 ?_
                      refine lv_asi (nI_add _ _) ?_
                      refine Cp.callV (As := [.int (nI v), .int (nI (b2 + t))]) (rest := [.int ((ff_it (KP) (KL) v (b1 + t))), .int (nI (ff_same (ff_it KP KL v) b1 b2 t))]) (cv_X6_90 hg ⟨Nat.le_of_ble_eq_true rfl, Nat.le_of_ble_eq_true rfl⟩) (k_itemOf l D cI m0 m1 m2 m3 m4 m5 m6 m7 m8 m9 m10 m11 ((nI 0)) (co) (n) (rn) (mn) (pn) (sn) (KP) (KL) v (b2 + t) hv hn (by omega) hR) cx hK hP [0, 1, 2] rfl (rq := 0) rfl rfl rfl hS rfl hl.1 rfl (Nat.le_of_ble_eq_true rfl) dX6_alike_124 ⟨Nat.zero_le _, Nat.zero_le _⟩ (fun H locs hP hS => ?_)
                      refine lv_icmp_ne (tgt := 134) hx hb dX6_alike_127 (by decide) (fun c127 => ?_) (fun c127 => ?_)
                      · skip
                        have e9 : ff_same (ff_it KP KL v) b1 b2 (t + 1) = ff_same (ff_it KP KL v) b1 b2 t + 0 := ff_ct_f (by simp [c127])
                        refine lv_iconst (v := nI 0) hx hb dX6_alike_134 (by decide) ?_
                        refine lv_iadd hx hb dX6_alike_135 ?_
                        refine lv_asi (nI_add _ _) ?_
                        refine lv_istore (lv' := [(6, .int (nI (ff_same (ff_it KP KL v) b1 b2 t + 0))), (0, .ref m0), (1, .int (nI v)), (2, .int (nI b1)), (3, .int (nI b2)), (4, .int (nI b3)), (7, .int (nI t))]) hx hb dX6_alike_136 hl (by decide) rfl (fun ls hl => ?_)
                        refine lv_iinc (v := nI (t + 1)) (lv' := [(7, .int (nI (t + 1))), (6, .int (nI (ff_same (ff_it KP KL v) b1 b2 t + 0))), (0, .ref m0), (1, .int (nI v)), (2, .int (nI b1)), (3, .int (nI b2)), (4, .int (nI b3))]) hx hb dX6_alike_138 hl (k := 6) rfl (nI_1 _) (by decide) rfl (fun ls hl => ?_)
                        refine lv_goto (tgt := 100) hx hb dX6_alike_141 (by decide) ?_
                        rw [← e9] at hl
                        exact ih_100 (t + 1) _ _ _ (by omega) (by omega) hP hD hS (lv_sub hl [2, 3, 4, 5, 6, 1, 0] rfl)
                      · skip
                        have e9 : ff_same (ff_it KP KL v) b1 b2 (t + 1) = ff_same (ff_it KP KL v) b1 b2 t + 1 := ff_ct_t (by simp [c127])
                        refine lv_iconst (v := nI 1) hx hb dX6_alike_130 (by decide) ?_
                        refine lv_goto (tgt := 135) hx hb dX6_alike_131 (by decide) ?_
                        refine lv_iadd hx hb dX6_alike_135 ?_
                        refine lv_asi (nI_add _ _) ?_
                        refine lv_istore (lv' := [(6, .int (nI (ff_same (ff_it KP KL v) b1 b2 t + 1))), (0, .ref m0), (1, .int (nI v)), (2, .int (nI b1)), (3, .int (nI b2)), (4, .int (nI b3)), (7, .int (nI t))]) hx hb dX6_alike_136 hl (by decide) rfl (fun ls hl => ?_)
                        refine lv_iinc (v := nI (t + 1)) (lv' := [(7, .int (nI (t + 1))), (6, .int (nI (ff_same (ff_it KP KL v) b1 b2 t + 1))), (0, .ref m0), (1, .int (nI v)), (2, .int (nI b1)), (3, .int (nI b2)), (4, .int (nI b3))]) hx hb dX6_alike_138 hl (k := 6) rfl (nI_1 _) (by decide) rfl (fun ls hl => ?_)
                        refine lv_goto (tgt := 100) hx hb dX6_alike_141 (by decide) ?_
                        rw [← e9] at hl
                        exact ih_100 (t + 1) _ _ _ (by omega) (by omega) hP hD hS (lv_sub hl [2, 3, 4, 5, 6, 1, 0] rfl)
                exact lp_100 (_ + 1) (0) _ _ _ (Nat.zero_le _) (Nat.lt_succ_self _) hP hD hS (lv_sub hl [3, 4, 5, 6, 7, 1, 0] rfl)

set_option maxHeartbeats 4000000 in
set_option maxRecDepth 100000 in
theorem c_motive (l : Launch) (D : va_G) (cI : ClassId) (m0 m1 m2 m3 m4 m5 m6 m7 m8 m9 m10 m11 : Nat) (th co : Int32) (n rn mn pn sn : Nat) (KP KL KR KM KN KS KB KT KE KF KX : Nat → Int32) (hn : n ≤ 60) (hmn : mn ≤ 12) (fr q : Int32) : Ci l yX6_motive cX6_motive 4 (some .int) 2 0 0 D (tI cI) [.ref m0, .int fr, .int q] [(m0, .inr (6, [.int th, .int (nI n), .ref m1, .ref m2, .int (nI rn), .ref m3, .int (nI mn), .ref m4, .ref m5, .int (nI pn), .ref m6, .int (nI sn), .int co, .ref m7, .ref m8, .ref m9, .ref m10, .ref m11])), (m1, oI cI 60 KP), (m2, oI cI 60 KL), (m3, oI cI 5400 KR), (m4, oI cI 12 KM), (m5, oI cI 12 KN), (m6, oI cI 60 KS), (m7, oI cI 60 KB), (m8, oI cI 12 KT), (m9, oI cI 61 KE), (m10, oI cI 61 KF), (m11, oI cI 61 KX)] (S := ff_S) (fun r u => (¬ okMo n fr q ∧ r = nI 0 ∧ u = (ff_N (n) (rn) (mn) (pn) (sn) 0, ff_Z ((nI 1)) (co), ff_A14 (KP) (KL) (KR) (KM) (KN) (KS) (KB) (KT) (KE) (KF) (KX) (KX) (KX) (KX))) ∨ (okMo n fr q ∧ r = KP (cl fr) ∧ u = (ff_N (n) (rn) (cl q) (pn) (sn) 0, ff_Z ((nI 0)) (co), ff_A14 (KP) (KL) (KR) (ff_fill (fun i => KP (cl fr + i)) KM (cl q)) (ff_fill (fun i => KL (cl fr + i)) KN (cl q)) (KS) (KB) (KT) (KE) (KF) (KX) (KX) (KX) (KX)))) (fun u => [(m0, .inr (6, [.int ((u.2.1 0)), .int (nI (u.1 0)), .ref m1, .ref m2, .int (nI (u.1 1)), .ref m3, .int (nI (u.1 2)), .ref m4, .ref m5, .int (nI (u.1 3)), .ref m6, .int (nI (u.1 4)), .int ((u.2.1 1)), .ref m7, .ref m8, .ref m9, .ref m10, .ref m11])), (m1, oI cI 60 (u.2.2 0)), (m2, oI cI 60 (u.2.2 1)), (m3, oI cI 5400 (u.2.2 2)), (m4, oI cI 12 (u.2.2 3)), (m5, oI cI 12 (u.2.2 4)), (m6, oI cI 60 (u.2.2 5)), (m7, oI cI 60 (u.2.2 6)), (m8, oI cI 12 (u.2.2 7)), (m9, oI cI 61 (u.2.2 8)), (m10, oI cI 61 (u.2.2 9)), (m11, oI cI 61 (u.2.2 10))]) := by
  refine Ci.of (own := RX6) (lv := [(0, .ref m0), (1, .int fr), (2, .int q)]) (by decide +kernel) rfl (Nat.le_of_ble_eq_true rfl) rfl (fun x u h => vp_nar_int _) ?_
  intro p e s m args below meth c Q A cx hK hP hD hA hret ls hl
  obtain ⟨hx, hb, hml, hown, hg⟩ := id cx
  have hS : va_S A s.heap s.heap [] := va_S.rf
  refine lv_aload_n hx hb dX6_motive_0 rfl (lv_at hl 0 rfl) ?_
  refine lv_iconst (v := nI 0) hx hb dX6_motive_1 (by decide) ?_
  refine pf_X6_46 hx hb hg hown hK hP hD hS 0 rfl (Nat.le_of_ble_eq_true rfl) dX6_motive_2 (fun H locs hP hD hS => ?_)
  have hP : va_P D vwCl [(m0, .inr (6, [.int (nI 0), .int (nI n), .ref m1, .ref m2, .int (nI rn), .ref m3, .int (nI mn), .ref m4, .ref m5, .int (nI pn), .ref m6, .int (nI sn), .int co, .ref m7, .ref m8, .ref m9, .ref m10, .ref m11])), (m1, oI cI 60 KP), (m2, oI cI 60 KL), (m3, oI cI 5400 KR), (m4, oI cI 12 KM), (m5, oI cI 12 KN), (m6, oI cI 60 KS), (m7, oI cI 60 KB), (m8, oI cI 12 KT), (m9, oI cI 61 KE), (m10, oI cI 61 KF), (m11, oI cI 61 KX)] H := hP
  have hD : va_D A [(m0, .inr (6, [.int (nI 0), .int (nI n), .ref m1, .ref m2, .int (nI rn), .ref m3, .int (nI mn), .ref m4, .ref m5, .int (nI pn), .ref m6, .int (nI sn), .int co, .ref m7, .ref m8, .ref m9, .ref m10, .ref m11])), (m1, oI cI 60 KP), (m2, oI cI 60 KL), (m3, oI cI 5400 KR), (m4, oI cI 12 KM), (m5, oI cI 12 KN), (m6, oI cI 60 KS), (m7, oI cI 60 KB), (m8, oI cI 12 KT), (m9, oI cI 61 KE), (m10, oI cI 61 KF), (m11, oI cI 61 KX)] := hD
  refine lv_aload_n hx hb dX6_motive_5 rfl (lv_at hl 0 rfl) ?_
  refine lv_iload_n hx hb dX6_motive_6 rfl (lv_at hl 2 rfl) ?_
  refine lv_i2l hx hb dX6_motive_7 rfl ?_
  refine lv_lconst (v := 1) hx hb dX6_motive_8 (by decide) ?_
  refine lv_ldc2 (v := 12) hx hb hown (hg _ wd_cl_X6_102) dX6_motive_9 ?_
  refine Cp.callS (As := [.long ((Int32.toInt64 (q))), .long ((1 : Int64)), .long ((12 : Int64))]) (rest := [.ref m0]) (cv_X6_70 hg ⟨Nat.le_of_ble_eq_true rfl, Nat.le_of_ble_eq_true rfl⟩) (k_isIn32 l D cI [] (q) (nI 1) (nI 12) _ _ (by decide) (by decide)) cx hK hP [] rfl hS rfl hl.1 rfl (Nat.le_of_ble_eq_true rfl) dX6_motive_12 ⟨Nat.zero_le _, Nat.zero_le _⟩ (fun H locs hP hS => ?_)
  refine lv_if_eq (tgt := 40) hx hb dX6_motive_15 (by decide) (fun c15 => ?_) (fun c15 => ?_)
  · have c15 := bI_z.mp c15
    refine lv_iconst (v := nI 0) hx hb dX6_motive_40 (by decide) ?_
    refine lv_iconst (v := nI 1) hx hb dX6_motive_41 (by decide) ?_
    refine Ci.callV (As := [.int (nI 0), .int (nI 1)]) (rest := []) (wr := [(m1, oI cI 60 KP), (m2, oI cI 60 KL), (m3, oI cI 5400 KR), (m4, oI cI 12 KM), (m5, oI cI 12 KN), (m6, oI cI 60 KS), (m7, oI cI 60 KB), (m8, oI cI 12 KT), (m9, oI cI 61 KE), (m10, oI cI 61 KF), (m11, oI cI 61 KX)]) (wn := (fun _ => [(m0, .inr (6, [.int ((nI 1)), .int (nI n), .ref m1, .ref m2, .int (nI rn), .ref m3, .int (nI mn), .ref m4, .ref m5, .int (nI pn), .ref m6, .int (nI sn), .int co, .ref m7, .ref m8, .ref m9, .ref m10, .ref m11])), (m1, oI cI 60 KP), (m2, oI cI 60 KL), (m3, oI cI 5400 KR), (m4, oI cI 12 KM), (m5, oI cI 12 KN), (m6, oI cI 60 KS), (m7, oI cI 60 KB), (m8, oI cI 12 KT), (m9, oI cI 61 KE), (m10, oI cI 61 KF), (m11, oI cI 61 KX)])) (cv_X6_76 hg ⟨Nat.le_of_ble_eq_true rfl, Nat.le_of_ble_eq_true rfl⟩) (k_go0 l D cI m0 (.int (nI n)) (.ref m1) (.ref m2) (.int (nI rn)) (.ref m3) (.int (nI mn)) (.ref m4) (.ref m5) (.int (nI pn)) (.ref m6) (.int (nI sn)) (.int co) (.ref m7) (.ref m8) (.ref m9) (.ref m10) (.ref m11) 1 (by decide) (by decide)) cx hK hP hD hA [0] [1, 2, 3, 4, 5, 6, 7, 8, 9, 10, 11] [11, 0, 1, 2, 3, 4, 5, 6, 7, 8, 9, 10] rfl rfl (by decide) (fun _ => rfl) (rq := 0) rfl rfl rfl hS rfl hl.1 rfl (Nat.le_of_ble_eq_true rfl) dX6_motive_42 ⟨Nat.le_refl _, Nat.le_refl _⟩ (fun H locs r42 _ p42 hP hD hS => ?_)
    subst p42
    refine lv_if_ne (tgt := 50) hx hb dX6_motive_45 (by decide) (fun h9 => absurd (by decide) h9) (fun _ => ?_)
    refine lv_iconst (v := nI 0) hx hb dX6_motive_48 (by decide) ?_
    exact hret _ _ 49 _ _ ((ff_N (n) (rn) (mn) (pn) (sn) 0, ff_Z ((nI 1)) (co), ff_A14 (KP) (KL) (KR) (KM) (KN) (KS) (KB) (KT) (KE) (KF) (KX) (KX) (KX) (KX))) (Or.inl ⟨fun h => by obtain ⟨a9, m9, h1, h2, e1, e2, h3⟩ := h; first | exact c15 (by rw [e1]; exact ff_le1 h1 h2 (by decide)) | (rw [e2] at c19; exact absurd c19 (nI_pos (by omega))) | (obtain rfl := nI_inj (by omega) (by omega) e1; obtain rfl := nI_inj (by omega) (by omega) e2; omega), rfl, rfl⟩) hP hD hS dX6_motive_49
  · have c15 := bI_nz.mp c15
    obtain ⟨b3, hb31, hb32, rfl⟩ := ff_of1 (by decide) c15
    refine lv_iload_n hx hb dX6_motive_18 rfl (lv_at hl 1 rfl) ?_
    refine lv_if_lt (tgt := 40) hx hb dX6_motive_19 (by decide) (fun c19 => ?_) (fun c19 => ?_)
    · skip
      refine lv_iconst (v := nI 0) hx hb dX6_motive_40 (by decide) ?_
      refine lv_iconst (v := nI 1) hx hb dX6_motive_41 (by decide) ?_
      refine Ci.callV (As := [.int (nI 0), .int (nI 1)]) (rest := []) (wr := [(m1, oI cI 60 KP), (m2, oI cI 60 KL), (m3, oI cI 5400 KR), (m4, oI cI 12 KM), (m5, oI cI 12 KN), (m6, oI cI 60 KS), (m7, oI cI 60 KB), (m8, oI cI 12 KT), (m9, oI cI 61 KE), (m10, oI cI 61 KF), (m11, oI cI 61 KX)]) (wn := (fun _ => [(m0, .inr (6, [.int ((nI 1)), .int (nI n), .ref m1, .ref m2, .int (nI rn), .ref m3, .int (nI mn), .ref m4, .ref m5, .int (nI pn), .ref m6, .int (nI sn), .int co, .ref m7, .ref m8, .ref m9, .ref m10, .ref m11])), (m1, oI cI 60 KP), (m2, oI cI 60 KL), (m3, oI cI 5400 KR), (m4, oI cI 12 KM), (m5, oI cI 12 KN), (m6, oI cI 60 KS), (m7, oI cI 60 KB), (m8, oI cI 12 KT), (m9, oI cI 61 KE), (m10, oI cI 61 KF), (m11, oI cI 61 KX)])) (cv_X6_76 hg ⟨Nat.le_of_ble_eq_true rfl, Nat.le_of_ble_eq_true rfl⟩) (k_go0 l D cI m0 (.int (nI n)) (.ref m1) (.ref m2) (.int (nI rn)) (.ref m3) (.int (nI mn)) (.ref m4) (.ref m5) (.int (nI pn)) (.ref m6) (.int (nI sn)) (.int co) (.ref m7) (.ref m8) (.ref m9) (.ref m10) (.ref m11) 1 (by decide) (by decide)) cx hK hP hD hA [0] [1, 2, 3, 4, 5, 6, 7, 8, 9, 10, 11] [11, 0, 1, 2, 3, 4, 5, 6, 7, 8, 9, 10] rfl rfl (by decide) (fun _ => rfl) (rq := 0) rfl rfl rfl hS rfl hl.1 rfl (Nat.le_of_ble_eq_true rfl) dX6_motive_42 ⟨Nat.le_refl _, Nat.le_refl _⟩ (fun H locs r42 _ p42 hP hD hS => ?_)
      subst p42
      refine lv_if_ne (tgt := 50) hx hb dX6_motive_45 (by decide) (fun h9 => absurd (by decide) h9) (fun _ => ?_)
      refine lv_iconst (v := nI 0) hx hb dX6_motive_48 (by decide) ?_
      exact hret _ _ 49 _ _ ((ff_N (n) (rn) (mn) (pn) (sn) 0, ff_Z ((nI 1)) (co), ff_A14 (KP) (KL) (KR) (KM) (KN) (KS) (KB) (KT) (KE) (KF) (KX) (KX) (KX) (KX))) (Or.inl ⟨fun h => by obtain ⟨a9, m9, h1, h2, e1, e2, h3⟩ := h; first | exact c15 (by rw [e1]; exact ff_le1 h1 h2 (by decide)) | (rw [e2] at c19; exact absurd c19 (nI_pos (by omega))) | (obtain rfl := nI_inj (by omega) (by omega) e1; obtain rfl := nI_inj (by omega) (by omega) e2; omega), rfl, rfl⟩) hP hD hS dX6_motive_49
    · skip
      obtain ⟨b1, hb1, rfl⟩ := nI_of c19
      refine lv_iload_n hx hb dX6_motive_22 rfl (lv_at hl 1 rfl) ?_
      refine lv_i2l hx hb dX6_motive_23 rfl ?_
      refine lv_iload_n hx hb dX6_motive_24 rfl (lv_at hl 2 rfl) ?_
      refine lv_i2l hx hb dX6_motive_25 rfl ?_
      refine lv_ladd hx hb dX6_motive_26 ?_
      refine lv_aload_n hx hb dX6_motive_27 rfl (lv_at hl 0 rfl) ?_
      refine gf_X6_50 hx hb hg hown hK hP 0 rfl rfl dX6_motive_28 ?_
      refine lv_i2l hx hb dX6_motive_31 rfl ?_
      refine W.lcmp hx hb dX6_motive_32 ?_
      refine lv_if_gt (tgt := 40) hx hb dX6_motive_33 (by decide) (fun c33 => ?_) (fun c33 => ?_)
      · have c33 := lc_gt.mp c33
        have c33 := (l_sum9 hb1 (by omega) (by omega)).mp c33
        refine lv_iconst (v := nI 0) hx hb dX6_motive_40 (by decide) ?_
        refine lv_iconst (v := nI 1) hx hb dX6_motive_41 (by decide) ?_
        refine Ci.callV (As := [.int (nI 0), .int (nI 1)]) (rest := []) (wr := [(m1, oI cI 60 KP), (m2, oI cI 60 KL), (m3, oI cI 5400 KR), (m4, oI cI 12 KM), (m5, oI cI 12 KN), (m6, oI cI 60 KS), (m7, oI cI 60 KB), (m8, oI cI 12 KT), (m9, oI cI 61 KE), (m10, oI cI 61 KF), (m11, oI cI 61 KX)]) (wn := (fun _ => [(m0, .inr (6, [.int ((nI 1)), .int (nI n), .ref m1, .ref m2, .int (nI rn), .ref m3, .int (nI mn), .ref m4, .ref m5, .int (nI pn), .ref m6, .int (nI sn), .int co, .ref m7, .ref m8, .ref m9, .ref m10, .ref m11])), (m1, oI cI 60 KP), (m2, oI cI 60 KL), (m3, oI cI 5400 KR), (m4, oI cI 12 KM), (m5, oI cI 12 KN), (m6, oI cI 60 KS), (m7, oI cI 60 KB), (m8, oI cI 12 KT), (m9, oI cI 61 KE), (m10, oI cI 61 KF), (m11, oI cI 61 KX)])) (cv_X6_76 hg ⟨Nat.le_of_ble_eq_true rfl, Nat.le_of_ble_eq_true rfl⟩) (k_go0 l D cI m0 (.int (nI n)) (.ref m1) (.ref m2) (.int (nI rn)) (.ref m3) (.int (nI mn)) (.ref m4) (.ref m5) (.int (nI pn)) (.ref m6) (.int (nI sn)) (.int co) (.ref m7) (.ref m8) (.ref m9) (.ref m10) (.ref m11) 1 (by decide) (by decide)) cx hK hP hD hA [0] [1, 2, 3, 4, 5, 6, 7, 8, 9, 10, 11] [11, 0, 1, 2, 3, 4, 5, 6, 7, 8, 9, 10] rfl rfl (by decide) (fun _ => rfl) (rq := 0) rfl rfl rfl hS rfl hl.1 rfl (Nat.le_of_ble_eq_true rfl) dX6_motive_42 ⟨Nat.le_refl _, Nat.le_refl _⟩ (fun H locs r42 _ p42 hP hD hS => ?_)
        subst p42
        refine lv_if_ne (tgt := 50) hx hb dX6_motive_45 (by decide) (fun h9 => absurd (by decide) h9) (fun _ => ?_)
        refine lv_iconst (v := nI 0) hx hb dX6_motive_48 (by decide) ?_
        exact hret _ _ 49 _ _ ((ff_N (n) (rn) (mn) (pn) (sn) 0, ff_Z ((nI 1)) (co), ff_A14 (KP) (KL) (KR) (KM) (KN) (KS) (KB) (KT) (KE) (KF) (KX) (KX) (KX) (KX))) (Or.inl ⟨fun h => by obtain ⟨a9, m9, h1, h2, e1, e2, h3⟩ := h; first | exact c15 (by rw [e1]; exact ff_le1 h1 h2 (by decide)) | (rw [e2] at c19; exact absurd c19 (nI_pos (by omega))) | (obtain rfl := nI_inj (by omega) (by omega) e1; obtain rfl := nI_inj (by omega) (by omega) e2; omega), rfl, rfl⟩) hP hD hS dX6_motive_49
      · have c33 := mt lc_gt.mpr c33
        have c33 := mt (l_sum9 hb1 (by omega) (by omega)).mpr c33
        refine lv_iconst (v := nI 1) hx hb dX6_motive_36 (by decide) ?_
        refine lv_goto (tgt := 41) hx hb dX6_motive_37 (by decide) ?_
        refine lv_iconst (v := nI 1) hx hb dX6_motive_41 (by decide) ?_
        refine Ci.callV (As := [.int (nI 1), .int (nI 1)]) (rest := []) (wr := [(m1, oI cI 60 KP), (m2, oI cI 60 KL), (m3, oI cI 5400 KR), (m4, oI cI 12 KM), (m5, oI cI 12 KN), (m6, oI cI 60 KS), (m7, oI cI 60 KB), (m8, oI cI 12 KT), (m9, oI cI 61 KE), (m10, oI cI 61 KF), (m11, oI cI 61 KX)]) (wn := (fun _ => [(m0, .inr (6, [.int (nI 0), .int (nI n), .ref m1, .ref m2, .int (nI rn), .ref m3, .int (nI mn), .ref m4, .ref m5, .int (nI pn), .ref m6, .int (nI sn), .int co, .ref m7, .ref m8, .ref m9, .ref m10, .ref m11])), (m1, oI cI 60 KP), (m2, oI cI 60 KL), (m3, oI cI 5400 KR), (m4, oI cI 12 KM), (m5, oI cI 12 KN), (m6, oI cI 60 KS), (m7, oI cI 60 KB), (m8, oI cI 12 KT), (m9, oI cI 61 KE), (m10, oI cI 61 KF), (m11, oI cI 61 KX)])) (cv_X6_76 hg ⟨Nat.le_of_ble_eq_true rfl, Nat.le_of_ble_eq_true rfl⟩) (k_go1 l D cI m0 (.int (nI n)) (.ref m1) (.ref m2) (.int (nI rn)) (.ref m3) (.int (nI mn)) (.ref m4) (.ref m5) (.int (nI pn)) (.ref m6) (.int (nI sn)) (.int co) (.ref m7) (.ref m8) (.ref m9) (.ref m10) (.ref m11) (nI 1)) cx hK hP hD hA [0] [1, 2, 3, 4, 5, 6, 7, 8, 9, 10, 11] [11, 0, 1, 2, 3, 4, 5, 6, 7, 8, 9, 10] rfl rfl (by decide) (fun _ => rfl) (rq := 0) rfl rfl rfl hS rfl hl.1 rfl (Nat.le_of_ble_eq_true rfl) dX6_motive_42 ⟨Nat.le_refl _, Nat.le_refl _⟩ (fun H locs r42 _ p42 hP hD hS => ?_)
        subst p42
        refine lv_if_ne (tgt := 50) hx hb dX6_motive_45 (by decide) (fun _ => ?_) (fun h9 => absurd h9 (by decide))
        refine lv_aload_n hx hb dX6_motive_50 rfl (lv_at hl 0 rfl) ?_
        refine lv_iload_n hx hb dX6_motive_51 rfl (lv_at hl 2 rfl) ?_
        refine pf_X6_56 hx hb hg hown hK hP hD hS 0 rfl (Nat.le_of_ble_eq_true rfl) dX6_motive_52 (fun H locs hP hD hS => ?_)
        have hP : va_P D vwCl [(m0, .inr (6, [.int (nI 0), .int (nI n), .ref m1, .ref m2, .int (nI rn), .ref m3, .int (nI b3), .ref m4, .ref m5, .int (nI pn), .ref m6, .int (nI sn), .int co, .ref m7, .ref m8, .ref m9, .ref m10, .ref m11])), (m1, oI cI 60 KP), (m2, oI cI 60 KL), (m3, oI cI 5400 KR), (m4, oI cI 12 KM), (m5, oI cI 12 KN), (m6, oI cI 60 KS), (m7, oI cI 60 KB), (m8, oI cI 12 KT), (m9, oI cI 61 KE), (m10, oI cI 61 KF), (m11, oI cI 61 KX)] H := hP
        have hD : va_D A [(m0, .inr (6, [.int (nI 0), .int (nI n), .ref m1, .ref m2, .int (nI rn), .ref m3, .int (nI b3), .ref m4, .ref m5, .int (nI pn), .ref m6, .int (nI sn), .int co, .ref m7, .ref m8, .ref m9, .ref m10, .ref m11])), (m1, oI cI 60 KP), (m2, oI cI 60 KL), (m3, oI cI 5400 KR), (m4, oI cI 12 KM), (m5, oI cI 12 KN), (m6, oI cI 60 KS), (m7, oI cI 60 KB), (m8, oI cI 12 KT), (m9, oI cI 61 KE), (m10, oI cI 61 KF), (m11, oI cI 61 KX)] := hD
        refine lv_iconst (v := nI 0) hx hb dX6_motive_55 (by decide) ?_
        refine lv_istore_n (lv' := [(3, .int (nI 0)), (0, .ref m0), (1, .int (nI b1)), (2, .int (nI b3))]) hx hb dX6_motive_56 rfl hl (by decide) rfl (fun ls hl => ?_)
        rw [← ff_fill_0 (fun i => KP (b1 + i)) KM, ← ff_fill_0 (fun i => KL (b1 + i)) KN] at hP hD
        have lp_57 : ∀ (k : Nat) (w9 : Nat) (H : Heap) (locs : List Loc) (ls : Array Slot), (w9 ≤ b3) → (b3 - w9 < k) → va_P D vwCl [(m0, .inr (6, [.int ((nI 0)), .int (nI n), .ref m1, .ref m2, .int (nI rn), .ref m3, .int (nI b3), .ref m4, .ref m5, .int (nI pn), .ref m6, .int (nI sn), .int co, .ref m7, .ref m8, .ref m9, .ref m10, .ref m11])), (m1, oI cI 60 KP), (m2, oI cI 60 KL), (m3, oI cI 5400 KR), (m4, oI cI 12 (ff_fill (fun i => KP (b1 + i)) KM w9)), (m5, oI cI 12 (ff_fill (fun i => KL (b1 + i)) KN w9)), (m6, oI cI 60 KS), (m7, oI cI 60 KB), (m8, oI cI 12 KT), (m9, oI cI 61 KE), (m10, oI cI 61 KF), (m11, oI cI 61 KX)] H → va_D A [(m0, .inr (6, [.int ((nI 0)), .int (nI n), .ref m1, .ref m2, .int (nI rn), .ref m3, .int (nI b3), .ref m4, .ref m5, .int (nI pn), .ref m6, .int (nI sn), .int co, .ref m7, .ref m8, .ref m9, .ref m10, .ref m11])), (m1, oI cI 60 KP), (m2, oI cI 60 KL), (m3, oI cI 5400 KR), (m4, oI cI 12 (ff_fill (fun i => KP (b1 + i)) KM w9)), (m5, oI cI 12 (ff_fill (fun i => KL (b1 + i)) KN w9)), (m6, oI cI 60 KS), (m7, oI cI 60 KB), (m8, oI cI 12 KT), (m9, oI cI 61 KE), (m10, oI cI 61 KF), (m11, oI cI 61 KX)] → va_S A s.heap H locs → lv_has ls 4 [(0, .ref m0), (1, .int (nI b1)), (2, .int (nI b3)), (3, .int (nI w9))] → W p l e (rr 2 0 0) s m args below meth c H locs 0 0 Q (F0 m 57 ls []) := by
          intro k
          induction k with
          | zero =>
            intro w9 H locs ls hw hk
            exact absurd hk (Nat.not_lt_zero _)
          | succ k ih_57 =>
            intro w9 H locs ls hw hk hP hD hS hl
            refine lv_iload_n hx hb dX6_motive_57 rfl (lv_at hl 3 rfl) ?_
            refine lv_iload_n hx hb dX6_motive_58 rfl (lv_at hl 2 rfl) ?_
            refine lv_icmp_ge (tgt := 96) hx hb dX6_motive_59 (by decide) (fun c59 => ?_) (fun c59 => ?_)
            · have c59 := (nI_leI (by omega) (by omega)).mp c59
              obtain rfl : w9 = b3 := by omega
              refine lv_aload_n hx hb dX6_motive_96 rfl (lv_at hl 0 rfl) ?_
              refine gf_X6_19 hx hb hg hown hK hP 0 rfl rfl dX6_motive_97 ?_
              refine lv_iconst (v := nI 0) hx hb dX6_motive_100 (by decide) ?_
              refine ald hx hb hK hP 4 rfl rfl (by omega) dX6_motive_101 ?_
              refine lv_asi (y := (KP b1)) (ff_fill_in (by omega)) ?_
              exact hret _ _ 102 _ _ ((ff_N (n) (rn) (w9) (pn) (sn) 0, ff_Z ((nI 0)) (co), ff_A14 (KP) (KL) (KR) (ff_fill (fun i => KP (b1 + i)) KM w9) (ff_fill (fun i => KL (b1 + i)) KN w9) (KS) (KB) (KT) (KE) (KF) (KX) (KX) (KX) (KX))) (Or.inr ⟨⟨b1, w9, hb31, hb32, rfl, rfl, by omega⟩, by rw [cl_n (by omega)], by rw [cl_n (by omega), cl_n (by omega)]⟩) hP hD hS dX6_motive_102
            · have c59 := mt (nI_leI (by omega) (by omega)).mpr c59
              refine lv_aload_n hx hb dX6_motive_62 rfl (lv_at hl 0 rfl) ?_
              refine gf_X6_19 hx hb hg hown hK hP 0 rfl rfl dX6_motive_63 ?_
              refine lv_iload_n hx hb dX6_motive_66 rfl (lv_at hl 3 rfl) ?_
              refine lv_aload_n hx hb dX6_motive_67 rfl (lv_at hl 0 rfl) ?_
              refine gf_X6_7 hx hb hg hown hK hP 0 rfl rfl dX6_motive_68 ?_
              refine lv_iload_n hx hb dX6_motive_71 rfl (lv_at hl 1 rfl) ?_
              refine lv_iload_n hx hb dX6_motive_72 rfl (lv_at hl 3 rfl) ?_
              refine lv_iadd hx hb dX6_motive_73 ?_
              refine lv_asi (nI_add _ _) ?_
              refine ald hx hb hK hP 1 rfl rfl (by omega) dX6_motive_74 ?_
              refine ast hx hb hK hP hD hS 4 rfl rfl (by omega) dX6_motive_75 (fun H locs hP hD hS => ?_)
              have hP : va_P D vwCl [(m0, .inr (6, [.int ((nI 0)), .int (nI n), .ref m1, .ref m2, .int (nI rn), .ref m3, .int (nI b3), .ref m4, .ref m5, .int (nI pn), .ref m6, .int (nI sn), .int co, .ref m7, .ref m8, .ref m9, .ref m10, .ref m11])), (m1, oI cI 60 KP), (m2, oI cI 60 KL), (m3, oI cI 5400 KR), (m4, oI cI 12 (upd (ff_fill (fun i => KP (b1 + i)) KM w9) w9 ((KP (b1 + w9))))), (m5, oI cI 12 (ff_fill (fun i => KL (b1 + i)) KN w9)), (m6, oI cI 60 KS), (m7, oI cI 60 KB), (m8, oI cI 12 KT), (m9, oI cI 61 KE), (m10, oI cI 61 KF), (m11, oI cI 61 KX)] H := hP
              have hD : va_D A [(m0, .inr (6, [.int ((nI 0)), .int (nI n), .ref m1, .ref m2, .int (nI rn), .ref m3, .int (nI b3), .ref m4, .ref m5, .int (nI pn), .ref m6, .int (nI sn), .int co, .ref m7, .ref m8, .ref m9, .ref m10, .ref m11])), (m1, oI cI 60 KP), (m2, oI cI 60 KL), (m3, oI cI 5400 KR), (m4, oI cI 12 (upd (ff_fill (fun i => KP (b1 + i)) KM w9) w9 ((KP (b1 + w9))))), (m5, oI cI 12 (ff_fill (fun i => KL (b1 + i)) KN w9)), (m6, oI cI 60 KS), (m7, oI cI 60 KB), (m8, oI cI 12 KT), (m9, oI cI 61 KE), (m10, oI cI 61 KF), (m11, oI cI 61 KX)] := hD
              have e9 : upd (ff_fill (fun i => KP (b1 + i)) KM w9) w9 ((KP (b1 + w9))) = ff_fill (fun i => KP (b1 + i)) KM (w9 + 1) := ff_fill_s (fun i => KP (b1 + i)) KM w9
              rw [e9] at hP hD
              refine lv_aload_n hx hb dX6_motive_76 rfl (lv_at hl 0 rfl) ?_
              refine gf_X6_22 hx hb hg hown hK hP 0 rfl rfl dX6_motive_77 ?_
              refine lv_iload_n hx hb dX6_motive_80 rfl (lv_at hl 3 rfl) ?_
              refine lv_aload_n hx hb dX6_motive_81 rfl (lv_at hl 0 rfl) ?_
              refine gf_X6_13 hx hb hg hown hK hP 0 rfl rfl dX6_motive_82 ?_
              refine lv_iload_n hx hb dX6_motive_85 rfl (lv_at hl 1 rfl) ?_
              refine lv_iload_n hx hb dX6_motive_86 rfl (lv_at hl 3 rfl) ?_
              refine lv_iadd hx hb dX6_motive_87 ?_
              refine lv_asi (nI_add _ _) ?_
              refine ald hx hb hK hP 2 rfl rfl (by omega) dX6_motive_88 ?_
              refine ast hx hb hK hP hD hS 5 rfl rfl (by omega) dX6_motive_89 (fun H locs hP hD hS => ?_)
              have hP : va_P D vwCl [(m0, .inr (6, [.int ((nI 0)), .int (nI n), .ref m1, .ref m2, .int (nI rn), .ref m3, .int (nI b3), .ref m4, .ref m5, .int (nI pn), .ref m6, .int (nI sn), .int co, .ref m7, .ref m8, .ref m9, .ref m10, .ref m11])), (m1, oI cI 60 KP), (m2, oI cI 60 KL), (m3, oI cI 5400 KR), (m4, oI cI 12 (ff_fill (fun i => KP (b1 + i)) KM (w9 + 1))), (m5, oI cI 12 (upd (ff_fill (fun i => KL (b1 + i)) KN w9) w9 ((KL (b1 + w9))))), (m6, oI cI 60 KS), (m7, oI cI 60 KB), (m8, oI cI 12 KT), (m9, oI cI 61 KE), (m10, oI cI 61 KF), (m11, oI cI 61 KX)] H := hP
              have hD : va_D A [(m0, .inr (6, [.int ((nI 0)), .int (nI n), .ref m1, .ref m2, .int (nI rn), .ref m3, .int (nI b3), .ref m4, .ref m5, .int (nI pn), .ref m6, .int (nI sn), .int co, .ref m7, .ref m8, .ref m9, .ref m10, .ref m11])), (m1, oI cI 60 KP), (m2, oI cI 60 KL), (m3, oI cI 5400 KR), (m4, oI cI 12 (ff_fill (fun i => KP (b1 + i)) KM (w9 + 1))), (m5, oI cI 12 (upd (ff_fill (fun i => KL (b1 + i)) KN w9) w9 ((KL (b1 + w9))))), (m6, oI cI 60 KS), (m7, oI cI 60 KB), (m8, oI cI 12 KT), (m9, oI cI 61 KE), (m10, oI cI 61 KF), (m11, oI cI 61 KX)] := hD
              have e9 : upd (ff_fill (fun i => KL (b1 + i)) KN w9) w9 ((KL (b1 + w9))) = ff_fill (fun i => KL (b1 + i)) KN (w9 + 1) := ff_fill_s (fun i => KL (b1 + i)) KN w9
              rw [e9] at hP hD
              refine lv_iinc (v := nI (w9 + 1)) (lv' := [(3, .int (nI (w9 + 1))), (0, .ref m0), (1, .int (nI b1)), (2, .int (nI b3))]) hx hb dX6_motive_90 hl (k := 3) rfl (nI_1 _) (by decide) rfl (fun ls hl => ?_)
              refine lv_goto (tgt := 57) hx hb dX6_motive_93 (by decide) ?_
              exact ih_57 (w9 + 1) _ _ _ (by omega) (by omega) hP hD hS (lv_sub hl [1, 2, 3, 0] rfl)
        exact lp_57 (_ + 1) (0) _ _ _ (Nat.zero_le _) (Nat.lt_succ_self _) hP hD hS (lv_sub hl [1, 2, 3, 0] rfl)

set_option maxHeartbeats 4000000 in
set_option maxRecDepth 100000 in
theorem c_form (l : Launch) (D : va_G) (cI : ClassId) (m0 m1 m2 m3 m4 m5 m6 m7 m8 m9 m10 m11 : Nat) (th co : Int32) (n rn mn pn sn : Nat) (KP KL KR KM KN KS KB KT KE KF KX : Nat → Int32) (hn : n ≤ 60) (hmn : mn ≤ 12) (fo i w : Int32) : Ci l yX6_form cX6_form 4 (some .int) 2 0 0 D (tI cI) [.ref m0, .int fo, .int i, .int w] [(m0, .inr (6, [.int th, .int (nI n), .ref m1, .ref m2, .int (nI rn), .ref m3, .int (nI mn), .ref m4, .ref m5, .int (nI pn), .ref m6, .int (nI sn), .int co, .ref m7, .ref m8, .ref m9, .ref m10, .ref m11])), (m1, oI cI 60 KP), (m2, oI cI 60 KL), (m3, oI cI 5400 KR), (m4, oI cI 12 KM), (m5, oI cI 12 KN), (m6, oI cI 60 KS), (m7, oI cI 60 KB), (m8, oI cI 12 KT), (m9, oI cI 61 KE), (m10, oI cI 61 KF), (m11, oI cI 61 KX)] (S := ff_S) (fun r u => (¬ okFo mn fo i w ∧ r = nI 0 ∧ u = (ff_N (n) (rn) (mn) (pn) (sn) 0, ff_Z ((nI 1)) (co), ff_A14 (KP) (KL) (KR) (KM) (KN) (KS) (KB) (KT) (KE) (KF) (KX) (KX) (KX) (KX))) ∨ (okFo mn fo i w ∧ r = (if w = 0 then ff_fp KM (cl fo) mn (cl i) else ff_fl KN (cl fo) mn (cl i)) ∧ u = (ff_N (n) (rn) (mn) (pn) (sn) 0, ff_Z ((nI 0)) (co), ff_A14 (KP) (KL) (KR) (KM) (KN) (KS) (KB) (KT) (KE) (KF) (KX) (KX) (KX) (KX)))) (fun u => [(m0, .inr (6, [.int ((u.2.1 0)), .int (nI (u.1 0)), .ref m1, .ref m2, .int (nI (u.1 1)), .ref m3, .int (nI (u.1 2)), .ref m4, .ref m5, .int (nI (u.1 3)), .ref m6, .int (nI (u.1 4)), .int ((u.2.1 1)), .ref m7, .ref m8, .ref m9, .ref m10, .ref m11])), (m1, oI cI 60 (u.2.2 0)), (m2, oI cI 60 (u.2.2 1)), (m3, oI cI 5400 (u.2.2 2)), (m4, oI cI 12 (u.2.2 3)), (m5, oI cI 12 (u.2.2 4)), (m6, oI cI 60 (u.2.2 5)), (m7, oI cI 60 (u.2.2 6)), (m8, oI cI 12 (u.2.2 7)), (m9, oI cI 61 (u.2.2 8)), (m10, oI cI 61 (u.2.2 9)), (m11, oI cI 61 (u.2.2 10))]) := by
  refine Ci.of (own := RX6) (lv := [(0, .ref m0), (1, .int fo), (2, .int i), (3, .int w)]) (by decide +kernel) rfl (Nat.le_of_ble_eq_true rfl) rfl (fun x u h => vp_nar_int _) ?_
  intro p e s m args below meth c Q A cx hK hP hD hA hret ls hl
  obtain ⟨hx, hb, hml, hown, hg⟩ := id cx
  have hS : va_S A s.heap s.heap [] := va_S.rf
  refine lv_aload_n hx hb dX6_form_0 rfl (lv_at hl 0 rfl) ?_
  refine lv_iconst (v := nI 0) hx hb dX6_form_1 (by decide) ?_
  refine pf_X6_46 hx hb hg hown hK hP hD hS 0 rfl (Nat.le_of_ble_eq_true rfl) dX6_form_2 (fun H locs hP hD hS => ?_)
  have hP : va_P D vwCl [(m0, .inr (6, [.int (nI 0), .int (nI n), .ref m1, .ref m2, .int (nI rn), .ref m3, .int (nI mn), .ref m4, .ref m5, .int (nI pn), .ref m6, .int (nI sn), .int co, .ref m7, .ref m8, .ref m9, .ref m10, .ref m11])), (m1, oI cI 60 KP), (m2, oI cI 60 KL), (m3, oI cI 5400 KR), (m4, oI cI 12 KM), (m5, oI cI 12 KN), (m6, oI cI 60 KS), (m7, oI cI 60 KB), (m8, oI cI 12 KT), (m9, oI cI 61 KE), (m10, oI cI 61 KF), (m11, oI cI 61 KX)] H := hP
  have hD : va_D A [(m0, .inr (6, [.int (nI 0), .int (nI n), .ref m1, .ref m2, .int (nI rn), .ref m3, .int (nI mn), .ref m4, .ref m5, .int (nI pn), .ref m6, .int (nI sn), .int co, .ref m7, .ref m8, .ref m9, .ref m10, .ref m11])), (m1, oI cI 60 KP), (m2, oI cI 60 KL), (m3, oI cI 5400 KR), (m4, oI cI 12 KM), (m5, oI cI 12 KN), (m6, oI cI 60 KS), (m7, oI cI 60 KB), (m8, oI cI 12 KT), (m9, oI cI 61 KE), (m10, oI cI 61 KF), (m11, oI cI 61 KX)] := hD
  refine lv_aload_n hx hb dX6_form_5 rfl (lv_at hl 0 rfl) ?_
  refine lv_iload_n hx hb dX6_form_6 rfl (lv_at hl 1 rfl) ?_
  refine lv_i2l hx hb dX6_form_7 rfl ?_
  refine lv_lconst (v := 0) hx hb dX6_form_8 (by decide) ?_
  refine lv_ldc2 (v := 3) hx hb hown (hg _ wd_cl_X6_107) dX6_form_9 ?_
  refine Cp.callS (As := [.long ((Int32.toInt64 (fo))), .long ((0 : Int64)), .long ((3 : Int64))]) (rest := [.ref m0]) (cv_X6_70 hg ⟨Nat.le_of_ble_eq_true rfl, Nat.le_of_ble_eq_true rfl⟩) (k_isIn32 l D cI [] (fo) (nI 0) (nI 3) _ _ (by decide) (by decide)) cx hK hP [] rfl hS rfl hl.1 rfl (Nat.le_of_ble_eq_true rfl) dX6_form_12 ⟨Nat.zero_le _, Nat.zero_le _⟩ (fun H locs hP hS => ?_)
  refine lv_if_eq (tgt := 48) hx hb dX6_form_15 (by decide) (fun c15 => ?_) (fun c15 => ?_)
  · have c15 := bI_z.mp c15
    refine lv_iconst (v := nI 0) hx hb dX6_form_48 (by decide) ?_
    refine lv_iconst (v := nI 1) hx hb dX6_form_49 (by decide) ?_
    refine Ci.callV (As := [.int (nI 0), .int (nI 1)]) (rest := []) (wr := [(m1, oI cI 60 KP), (m2, oI cI 60 KL), (m3, oI cI 5400 KR), (m4, oI cI 12 KM), (m5, oI cI 12 KN), (m6, oI cI 60 KS), (m7, oI cI 60 KB), (m8, oI cI 12 KT), (m9, oI cI 61 KE), (m10, oI cI 61 KF), (m11, oI cI 61 KX)]) (wn := (fun _ => [(m0, .inr (6, [.int ((nI 1)), .int (nI n), .ref m1, .ref m2, .int (nI rn), .ref m3, .int (nI mn), .ref m4, .ref m5, .int (nI pn), .ref m6, .int (nI sn), .int co, .ref m7, .ref m8, .ref m9, .ref m10, .ref m11])), (m1, oI cI 60 KP), (m2, oI cI 60 KL), (m3, oI cI 5400 KR), (m4, oI cI 12 KM), (m5, oI cI 12 KN), (m6, oI cI 60 KS), (m7, oI cI 60 KB), (m8, oI cI 12 KT), (m9, oI cI 61 KE), (m10, oI cI 61 KF), (m11, oI cI 61 KX)])) (cv_X6_76 hg ⟨Nat.le_of_ble_eq_true rfl, Nat.le_of_ble_eq_true rfl⟩) (k_go0 l D cI m0 (.int (nI n)) (.ref m1) (.ref m2) (.int (nI rn)) (.ref m3) (.int (nI mn)) (.ref m4) (.ref m5) (.int (nI pn)) (.ref m6) (.int (nI sn)) (.int co) (.ref m7) (.ref m8) (.ref m9) (.ref m10) (.ref m11) 1 (by decide) (by decide)) cx hK hP hD hA [0] [1, 2, 3, 4, 5, 6, 7, 8, 9, 10, 11] [11, 0, 1, 2, 3, 4, 5, 6, 7, 8, 9, 10] rfl rfl (by decide) (fun _ => rfl) (rq := 0) rfl rfl rfl hS rfl hl.1 rfl (Nat.le_of_ble_eq_true rfl) dX6_form_50 ⟨Nat.le_refl _, Nat.le_refl _⟩ (fun H locs r50 _ p50 hP hD hS => ?_)
    subst p50
    refine lv_if_ne (tgt := 58) hx hb dX6_form_53 (by decide) (fun h9 => absurd (by decide) h9) (fun _ => ?_)
    refine lv_iconst (v := nI 0) hx hb dX6_form_56 (by decide) ?_
    exact hret _ _ 57 _ _ ((ff_N (n) (rn) (mn) (pn) (sn) 0, ff_Z ((nI 1)) (co), ff_A14 (KP) (KL) (KR) (KM) (KN) (KS) (KB) (KT) (KE) (KF) (KX) (KX) (KX) (KX))) (Or.inl ⟨fun h => by obtain ⟨f8, j8, x8, h1, e1, h2, e2, h3, e3⟩ := h; first | exact c15 (by rw [e1]; exact ff_le h1 (by decide)) | exact c31 (by rw [e2]; exact ff_le2 h2 (by omega)) | exact c41 (by rw [e3]; exact ff_le h3 (by decide)), rfl, rfl⟩) hP hD hS dX6_form_57
  · have c15 := bI_nz.mp c15
    obtain ⟨f9, hf9, rfl⟩ := ff_of (by decide) c15
    refine lv_iload_n hx hb dX6_form_18 rfl (lv_at hl 2 rfl) ?_
    refine lv_i2l hx hb dX6_form_19 rfl ?_
    refine lv_lconst (v := 0) hx hb dX6_form_20 (by decide) ?_
    refine lv_aload_n hx hb dX6_form_21 rfl (lv_at hl 0 rfl) ?_
    refine gf_X6_56 hx hb hg hown hK hP 0 rfl rfl dX6_form_22 ?_
    refine lv_iconst (v := nI 1) hx hb dX6_form_25 (by decide) ?_
    refine lv_isub hx hb dX6_form_26 ?_
    refine lv_i2l hx hb dX6_form_27 rfl ?_
    refine Cp.callS (As := [.long ((Int32.toInt64 (i))), .long ((0 : Int64)), .long ((Int32.toInt64 ((nI mn - nI 1))))]) (rest := [.ref m0]) (cv_X6_70 hg ⟨Nat.le_of_ble_eq_true rfl, Nat.le_of_ble_eq_true rfl⟩) (k_isIn32 l D cI [] (i) (nI 0) ((nI mn - nI 1)) _ _ (by decide) rfl) cx hK hP [] rfl hS rfl hl.1 rfl (Nat.le_of_ble_eq_true rfl) dX6_form_28 ⟨Nat.zero_le _, Nat.zero_le _⟩ (fun H locs hP hS => ?_)
    refine lv_if_eq (tgt := 48) hx hb dX6_form_31 (by decide) (fun c31 => ?_) (fun c31 => ?_)
    · have c31 := bI_z.mp c31
      refine lv_iconst (v := nI 0) hx hb dX6_form_48 (by decide) ?_
      refine lv_iconst (v := nI 1) hx hb dX6_form_49 (by decide) ?_
      refine Ci.callV (As := [.int (nI 0), .int (nI 1)]) (rest := []) (wr := [(m1, oI cI 60 KP), (m2, oI cI 60 KL), (m3, oI cI 5400 KR), (m4, oI cI 12 KM), (m5, oI cI 12 KN), (m6, oI cI 60 KS), (m7, oI cI 60 KB), (m8, oI cI 12 KT), (m9, oI cI 61 KE), (m10, oI cI 61 KF), (m11, oI cI 61 KX)]) (wn := (fun _ => [(m0, .inr (6, [.int ((nI 1)), .int (nI n), .ref m1, .ref m2, .int (nI rn), .ref m3, .int (nI mn), .ref m4, .ref m5, .int (nI pn), .ref m6, .int (nI sn), .int co, .ref m7, .ref m8, .ref m9, .ref m10, .ref m11])), (m1, oI cI 60 KP), (m2, oI cI 60 KL), (m3, oI cI 5400 KR), (m4, oI cI 12 KM), (m5, oI cI 12 KN), (m6, oI cI 60 KS), (m7, oI cI 60 KB), (m8, oI cI 12 KT), (m9, oI cI 61 KE), (m10, oI cI 61 KF), (m11, oI cI 61 KX)])) (cv_X6_76 hg ⟨Nat.le_of_ble_eq_true rfl, Nat.le_of_ble_eq_true rfl⟩) (k_go0 l D cI m0 (.int (nI n)) (.ref m1) (.ref m2) (.int (nI rn)) (.ref m3) (.int (nI mn)) (.ref m4) (.ref m5) (.int (nI pn)) (.ref m6) (.int (nI sn)) (.int co) (.ref m7) (.ref m8) (.ref m9) (.ref m10) (.ref m11) 1 (by decide) (by decide)) cx hK hP hD hA [0] [1, 2, 3, 4, 5, 6, 7, 8, 9, 10, 11] [11, 0, 1, 2, 3, 4, 5, 6, 7, 8, 9, 10] rfl rfl (by decide) (fun _ => rfl) (rq := 0) rfl rfl rfl hS rfl hl.1 rfl (Nat.le_of_ble_eq_true rfl) dX6_form_50 ⟨Nat.le_refl _, Nat.le_refl _⟩ (fun H locs r50 _ p50 hP hD hS => ?_)
      subst p50
      refine lv_if_ne (tgt := 58) hx hb dX6_form_53 (by decide) (fun h9 => absurd (by decide) h9) (fun _ => ?_)
      refine lv_iconst (v := nI 0) hx hb dX6_form_56 (by decide) ?_
      exact hret _ _ 57 _ _ ((ff_N (n) (rn) (mn) (pn) (sn) 0, ff_Z ((nI 1)) (co), ff_A14 (KP) (KL) (KR) (KM) (KN) (KS) (KB) (KT) (KE) (KF) (KX) (KX) (KX) (KX))) (Or.inl ⟨fun h => by obtain ⟨f8, j8, x8, h1, e1, h2, e2, h3, e3⟩ := h; first | exact c15 (by rw [e1]; exact ff_le h1 (by decide)) | exact c31 (by rw [e2]; exact ff_le2 h2 (by omega)) | exact c41 (by rw [e3]; exact ff_le h3 (by decide)), rfl, rfl⟩) hP hD hS dX6_form_57
    · have c31 := bI_nz.mp c31
      obtain ⟨j9, hj9, rfl⟩ := ff_of2 (by omega) c31
      refine lv_iload_n hx hb dX6_form_34 rfl (lv_at hl 3 rfl) ?_
      refine lv_i2l hx hb dX6_form_35 rfl ?_
      refine lv_lconst (v := 0) hx hb dX6_form_36 (by decide) ?_
      refine lv_lconst (v := 1) hx hb dX6_form_37 (by decide) ?_
      refine Cp.callS (As := [.long ((Int32.toInt64 (w))), .long ((0 : Int64)), .long ((1 : Int64))]) (rest := [.ref m0]) (cv_X6_70 hg ⟨Nat.le_of_ble_eq_true rfl, Nat.le_of_ble_eq_true rfl⟩) (k_isIn32 l D cI [] (w) (nI 0) (nI 1) _ _ (by decide) (by decide)) cx hK hP [] rfl hS rfl hl.1 rfl (Nat.le_of_ble_eq_true rfl) dX6_form_38 ⟨Nat.zero_le _, Nat.zero_le _⟩ (fun H locs hP hS => ?_)
      refine lv_if_eq (tgt := 48) hx hb dX6_form_41 (by decide) (fun c41 => ?_) (fun c41 => ?_)
      · have c41 := bI_z.mp c41
        refine lv_iconst (v := nI 0) hx hb dX6_form_48 (by decide) ?_
        refine lv_iconst (v := nI 1) hx hb dX6_form_49 (by decide) ?_
        refine Ci.callV (As := [.int (nI 0), .int (nI 1)]) (rest := []) (wr := [(m1, oI cI 60 KP), (m2, oI cI 60 KL), (m3, oI cI 5400 KR), (m4, oI cI 12 KM), (m5, oI cI 12 KN), (m6, oI cI 60 KS), (m7, oI cI 60 KB), (m8, oI cI 12 KT), (m9, oI cI 61 KE), (m10, oI cI 61 KF), (m11, oI cI 61 KX)]) (wn := (fun _ => [(m0, .inr (6, [.int ((nI 1)), .int (nI n), .ref m1, .ref m2, .int (nI rn), .ref m3, .int (nI mn), .ref m4, .ref m5, .int (nI pn), .ref m6, .int (nI sn), .int co, .ref m7, .ref m8, .ref m9, .ref m10, .ref m11])), (m1, oI cI 60 KP), (m2, oI cI 60 KL), (m3, oI cI 5400 KR), (m4, oI cI 12 KM), (m5, oI cI 12 KN), (m6, oI cI 60 KS), (m7, oI cI 60 KB), (m8, oI cI 12 KT), (m9, oI cI 61 KE), (m10, oI cI 61 KF), (m11, oI cI 61 KX)])) (cv_X6_76 hg ⟨Nat.le_of_ble_eq_true rfl, Nat.le_of_ble_eq_true rfl⟩) (k_go0 l D cI m0 (.int (nI n)) (.ref m1) (.ref m2) (.int (nI rn)) (.ref m3) (.int (nI mn)) (.ref m4) (.ref m5) (.int (nI pn)) (.ref m6) (.int (nI sn)) (.int co) (.ref m7) (.ref m8) (.ref m9) (.ref m10) (.ref m11) 1 (by decide) (by decide)) cx hK hP hD hA [0] [1, 2, 3, 4, 5, 6, 7, 8, 9, 10, 11] [11, 0, 1, 2, 3, 4, 5, 6, 7, 8, 9, 10] rfl rfl (by decide) (fun _ => rfl) (rq := 0) rfl rfl rfl hS rfl hl.1 rfl (Nat.le_of_ble_eq_true rfl) dX6_form_50 ⟨Nat.le_refl _, Nat.le_refl _⟩ (fun H locs r50 _ p50 hP hD hS => ?_)
        subst p50
        refine lv_if_ne (tgt := 58) hx hb dX6_form_53 (by decide) (fun h9 => absurd (by decide) h9) (fun _ => ?_)
        refine lv_iconst (v := nI 0) hx hb dX6_form_56 (by decide) ?_
        exact hret _ _ 57 _ _ ((ff_N (n) (rn) (mn) (pn) (sn) 0, ff_Z ((nI 1)) (co), ff_A14 (KP) (KL) (KR) (KM) (KN) (KS) (KB) (KT) (KE) (KF) (KX) (KX) (KX) (KX))) (Or.inl ⟨fun h => by obtain ⟨f8, j8, x8, h1, e1, h2, e2, h3, e3⟩ := h; first | exact c15 (by rw [e1]; exact ff_le h1 (by decide)) | exact c31 (by rw [e2]; exact ff_le2 h2 (by omega)) | exact c41 (by rw [e3]; exact ff_le h3 (by decide)), rfl, rfl⟩) hP hD hS dX6_form_57
      · have c41 := bI_nz.mp c41
        obtain ⟨x9, hx9, rfl⟩ := ff_of (by decide) c41
        have hs9 := ff_src_lt (fo := f9) (tn := mn) (i := j9) hj9
        refine lv_iconst (v := nI 1) hx hb dX6_form_44 (by decide) ?_
        refine lv_goto (tgt := 49) hx hb dX6_form_45 (by decide) ?_
        refine lv_iconst (v := nI 1) hx hb dX6_form_49 (by decide) ?_
        refine Ci.callV (As := [.int (nI 1), .int (nI 1)]) (rest := []) (wr := [(m1, oI cI 60 KP), (m2, oI cI 60 KL), (m3, oI cI 5400 KR), (m4, oI cI 12 KM), (m5, oI cI 12 KN), (m6, oI cI 60 KS), (m7, oI cI 60 KB), (m8, oI cI 12 KT), (m9, oI cI 61 KE), (m10, oI cI 61 KF), (m11, oI cI 61 KX)]) (wn := (fun _ => [(m0, .inr (6, [.int (nI 0), .int (nI n), .ref m1, .ref m2, .int (nI rn), .ref m3, .int (nI mn), .ref m4, .ref m5, .int (nI pn), .ref m6, .int (nI sn), .int co, .ref m7, .ref m8, .ref m9, .ref m10, .ref m11])), (m1, oI cI 60 KP), (m2, oI cI 60 KL), (m3, oI cI 5400 KR), (m4, oI cI 12 KM), (m5, oI cI 12 KN), (m6, oI cI 60 KS), (m7, oI cI 60 KB), (m8, oI cI 12 KT), (m9, oI cI 61 KE), (m10, oI cI 61 KF), (m11, oI cI 61 KX)])) (cv_X6_76 hg ⟨Nat.le_of_ble_eq_true rfl, Nat.le_of_ble_eq_true rfl⟩) (k_go1 l D cI m0 (.int (nI n)) (.ref m1) (.ref m2) (.int (nI rn)) (.ref m3) (.int (nI mn)) (.ref m4) (.ref m5) (.int (nI pn)) (.ref m6) (.int (nI sn)) (.int co) (.ref m7) (.ref m8) (.ref m9) (.ref m10) (.ref m11) (nI 1)) cx hK hP hD hA [0] [1, 2, 3, 4, 5, 6, 7, 8, 9, 10, 11] [11, 0, 1, 2, 3, 4, 5, 6, 7, 8, 9, 10] rfl rfl (by decide) (fun _ => rfl) (rq := 0) rfl rfl rfl hS rfl hl.1 rfl (Nat.le_of_ble_eq_true rfl) dX6_form_50 ⟨Nat.le_refl _, Nat.le_refl _⟩ (fun H locs r50 _ p50 hP hD hS => ?_)
        subst p50
        refine lv_if_ne (tgt := 58) hx hb dX6_form_53 (by decide) (fun _ => ?_) (fun h9 => absurd h9 (by decide))
        refine lv_iload_n hx hb dX6_form_58 rfl (lv_at hl 3 rfl) ?_
        refine lv_if_ne (tgt := 71) hx hb dX6_form_59 (by decide) (fun c59 => ?_) (fun c59 => ?_)
        · have c59 := mt (nz_eq (by omega)).mpr c59
          refine lv_aload_n hx hb dX6_form_71 rfl (lv_at hl 0 rfl) ?_
          refine gf_X6_22 hx hb hg hown hK hP 0 rfl rfl dX6_form_72 ?_
          refine lv_aload_n hx hb dX6_form_75 rfl (lv_at hl 0 rfl) ?_
          refine lv_iload_n hx hb dX6_form_76 rfl (lv_at hl 1 rfl) ?_
          refine lv_iload_n hx hb dX6_form_77 rfl (lv_at hl 2 rfl) ?_
          refine Cp.callV (As := [.int (nI f9), .int (nI j9)]) (rest := [.ref m5]) (cv_X6_104 hg ⟨Nat.le_of_ble_eq_true rfl, Nat.le_of_ble_eq_true rfl⟩) (k_source l D cI m0 m1 m2 m3 m4 m5 m6 m7 m8 m9 m10 m11 (nI 0) (co) (n) (rn) (mn) (pn) (sn) f9 j9 hf9 (by omega) hmn) cx hK hP [0] rfl (rq := 0) rfl rfl rfl hS rfl hl.1 rfl (Nat.le_of_ble_eq_true rfl) dX6_form_78 ⟨Nat.zero_le _, Nat.zero_le _⟩ (fun H locs hP hS => ?_)
          refine ald hx hb hK hP 5 rfl rfl (by omega) dX6_form_81 ?_
          exact hret _ _ 82 _ _ ((ff_N (n) (rn) (mn) (pn) (sn) 0, ff_Z (nI 0) (co), ff_A14 (KP) (KL) (KR) (KM) (KN) (KS) (KB) (KT) (KE) (KF) (KX) (KX) (KX) (KX))) (Or.inr ⟨⟨f9, j9, x9, hf9, rfl, hj9, rfl, hx9, rfl⟩, by rw [cl_n (by omega), cl_n (by omega)]; first | rw [if_pos ((nz_eq (by omega)).mpr c59)] | (rw [if_neg (mt (nz_eq (by omega)).mp c59)]; rfl), rfl⟩) hP hD hS dX6_form_82
        · have c59 := (nz_eq (by omega)).mp c59
          refine lv_aload_n hx hb dX6_form_62 rfl (lv_at hl 0 rfl) ?_
          refine lv_iload_n hx hb dX6_form_63 rfl (lv_at hl 1 rfl) ?_
          refine lv_iload_n hx hb dX6_form_64 rfl (lv_at hl 2 rfl) ?_
          refine Cp.callV (As := [.int (nI f9), .int (nI j9)]) (rest := []) (cv_X6_109 hg ⟨Nat.le_of_ble_eq_true rfl, Nat.le_of_ble_eq_true rfl⟩) (k_MformPitch l D cI m0 m1 m2 m3 m4 m5 m6 m7 m8 m9 m10 m11 (nI 0) (co) (n) (rn) (mn) (pn) (sn) KM f9 j9 hf9 hj9 hmn) cx hK hP [0, 4] rfl (rq := 0) rfl rfl rfl hS rfl hl.1 rfl (Nat.le_of_ble_eq_true rfl) dX6_form_65 ⟨Nat.zero_le _, Nat.zero_le _⟩ (fun H locs hP hS => ?_)
          refine lv_goto (tgt := 82) hx hb dX6_form_68 (by decide) ?_
          exact hret _ _ 82 _ _ ((ff_N (n) (rn) (mn) (pn) (sn) 0, ff_Z (nI 0) (co), ff_A14 (KP) (KL) (KR) (KM) (KN) (KS) (KB) (KT) (KE) (KF) (KX) (KX) (KX) (KX))) (Or.inr ⟨⟨f9, j9, x9, hf9, rfl, hj9, rfl, hx9, rfl⟩, by rw [cl_n (by omega), cl_n (by omega)]; first | rw [if_pos ((nz_eq (by omega)).mpr c59)] | (rw [if_neg (mt (nz_eq (by omega)).mp c59)]; rfl), rfl⟩) hP hD hS dX6_form_82

set_option maxHeartbeats 4000000 in
set_option maxRecDepth 100000 in
theorem c_answer (l : Launch) (D : va_G) (cI : ClassId) (m0 m1 m2 m3 m4 m5 m6 m7 m8 m9 m10 m11 : Nat) (th co : Int32) (n rn mn pn sn : Nat) (KP KL KR KM KN KS KB KT KE KF KX : Nat → Int32) (hn : n ≤ 60) (hmn : mn ≤ 12) (ky hd i : Int32) (hM : ∀ t, t < mn → 0 ≤ (KM t).toInt ∧ (KM t).toInt ≤ 127) : Ci l yX6_answer cX6_answer 4 (some .int) 2 0 0 D (tI cI) [.ref m0, .int ky, .int hd, .int i] [(m0, .inr (6, [.int th, .int (nI n), .ref m1, .ref m2, .int (nI rn), .ref m3, .int (nI mn), .ref m4, .ref m5, .int (nI pn), .ref m6, .int (nI sn), .int co, .ref m7, .ref m8, .ref m9, .ref m10, .ref m11])), (m1, oI cI 60 KP), (m2, oI cI 60 KL), (m3, oI cI 5400 KR), (m4, oI cI 12 KM), (m5, oI cI 12 KN), (m6, oI cI 60 KS), (m7, oI cI 60 KB), (m8, oI cI 12 KT), (m9, oI cI 61 KE), (m10, oI cI 61 KF), (m11, oI cI 61 KX)] (S := ff_S) (fun r u => (¬ okAn mn ky hd i ∧ r = nI 0 ∧ u = (ff_N (n) (rn) (mn) (pn) (sn) 0, ff_Z ((nI 1)) (co), ff_A14 (KP) (KL) (KR) (KM) (KN) (KS) (KB) (KT) (KE) (KF) (KX) (KX) (KX) (KX))) ∨ (okAn mn ky hd i ∧ r = ff_ap KM (cl ky) (cl hd) (cl i) ∧ u = (ff_N (n) (rn) (mn) (pn) (sn) 0, ff_Z ((nI 0)) (co), ff_A14 (KP) (KL) (KR) (KM) (KN) (KS) (KB) (KT) (KE) (KF) (KX) (KX) (KX) (KX)))) (fun u => [(m0, .inr (6, [.int ((u.2.1 0)), .int (nI (u.1 0)), .ref m1, .ref m2, .int (nI (u.1 1)), .ref m3, .int (nI (u.1 2)), .ref m4, .ref m5, .int (nI (u.1 3)), .ref m6, .int (nI (u.1 4)), .int ((u.2.1 1)), .ref m7, .ref m8, .ref m9, .ref m10, .ref m11])), (m1, oI cI 60 (u.2.2 0)), (m2, oI cI 60 (u.2.2 1)), (m3, oI cI 5400 (u.2.2 2)), (m4, oI cI 12 (u.2.2 3)), (m5, oI cI 12 (u.2.2 4)), (m6, oI cI 60 (u.2.2 5)), (m7, oI cI 60 (u.2.2 6)), (m8, oI cI 12 (u.2.2 7)), (m9, oI cI 61 (u.2.2 8)), (m10, oI cI 61 (u.2.2 9)), (m11, oI cI 61 (u.2.2 10))]) := by
  refine Ci.of (own := RX6) (lv := [(0, .ref m0), (1, .int ky), (2, .int hd), (3, .int i)]) (by decide +kernel) rfl (Nat.le_of_ble_eq_true rfl) rfl (fun x u h => vp_nar_int _) ?_
  intro p e s m args below meth c Q A cx hK hP hD hA hret ls hl
  obtain ⟨hx, hb, hml, hown, hg⟩ := id cx
  have hS : va_S A s.heap s.heap [] := va_S.rf
  refine lv_aload_n hx hb dX6_answer_0 rfl (lv_at hl 0 rfl) ?_
  refine lv_iconst (v := nI 0) hx hb dX6_answer_1 (by decide) ?_
  refine pf_X6_46 hx hb hg hown hK hP hD hS 0 rfl (Nat.le_of_ble_eq_true rfl) dX6_answer_2 (fun H locs hP hD hS => ?_)
  have hP : va_P D vwCl [(m0, .inr (6, [.int (nI 0), .int (nI n), .ref m1, .ref m2, .int (nI rn), .ref m3, .int (nI mn), .ref m4, .ref m5, .int (nI pn), .ref m6, .int (nI sn), .int co, .ref m7, .ref m8, .ref m9, .ref m10, .ref m11])), (m1, oI cI 60 KP), (m2, oI cI 60 KL), (m3, oI cI 5400 KR), (m4, oI cI 12 KM), (m5, oI cI 12 KN), (m6, oI cI 60 KS), (m7, oI cI 60 KB), (m8, oI cI 12 KT), (m9, oI cI 61 KE), (m10, oI cI 61 KF), (m11, oI cI 61 KX)] H := hP
  have hD : va_D A [(m0, .inr (6, [.int (nI 0), .int (nI n), .ref m1, .ref m2, .int (nI rn), .ref m3, .int (nI mn), .ref m4, .ref m5, .int (nI pn), .ref m6, .int (nI sn), .int co, .ref m7, .ref m8, .ref m9, .ref m10, .ref m11])), (m1, oI cI 60 KP), (m2, oI cI 60 KL), (m3, oI cI 5400 KR), (m4, oI cI 12 KM), (m5, oI cI 12 KN), (m6, oI cI 60 KS), (m7, oI cI 60 KB), (m8, oI cI 12 KT), (m9, oI cI 61 KE), (m10, oI cI 61 KF), (m11, oI cI 61 KX)] := hD
  refine lv_aload_n hx hb dX6_answer_5 rfl (lv_at hl 0 rfl) ?_
  refine lv_iload_n hx hb dX6_answer_6 rfl (lv_at hl 1 rfl) ?_
  refine lv_i2l hx hb dX6_answer_7 rfl ?_
  refine lv_lconst (v := 0) hx hb dX6_answer_8 (by decide) ?_
  refine lv_ldc2 (v := 11) hx hb hown (hg _ wd_cl_X6_117) dX6_answer_9 ?_
  refine Cp.callS (As := [.long ((Int32.toInt64 (ky))), .long ((0 : Int64)), .long ((11 : Int64))]) (rest := [.ref m0]) (cv_X6_70 hg ⟨Nat.le_of_ble_eq_true rfl, Nat.le_of_ble_eq_true rfl⟩) (k_isIn32 l D cI [] (ky) (nI 0) (nI 11) _ _ (by decide) (by decide)) cx hK hP [] rfl hS rfl hl.1 rfl (Nat.le_of_ble_eq_true rfl) dX6_answer_12 ⟨Nat.zero_le _, Nat.zero_le _⟩ (fun H locs hP hS => ?_)
  refine lv_if_eq (tgt := 50) hx hb dX6_answer_15 (by decide) (fun c15 => ?_) (fun c15 => ?_)
  · have c15 := bI_z.mp c15
    refine lv_iconst (v := nI 0) hx hb dX6_answer_50 (by decide) ?_
    refine lv_iconst (v := nI 1) hx hb dX6_answer_51 (by decide) ?_
    refine Ci.callV (As := [.int (nI 0), .int (nI 1)]) (rest := []) (wr := [(m1, oI cI 60 KP), (m2, oI cI 60 KL), (m3, oI cI 5400 KR), (m4, oI cI 12 KM), (m5, oI cI 12 KN), (m6, oI cI 60 KS), (m7, oI cI 60 KB), (m8, oI cI 12 KT), (m9, oI cI 61 KE), (m10, oI cI 61 KF), (m11, oI cI 61 KX)]) (wn := (fun _ => [(m0, .inr (6, [.int ((nI 1)), .int (nI n), .ref m1, .ref m2, .int (nI rn), .ref m3, .int (nI mn), .ref m4, .ref m5, .int (nI pn), .ref m6, .int (nI sn), .int co, .ref m7, .ref m8, .ref m9, .ref m10, .ref m11])), (m1, oI cI 60 KP), (m2, oI cI 60 KL), (m3, oI cI 5400 KR), (m4, oI cI 12 KM), (m5, oI cI 12 KN), (m6, oI cI 60 KS), (m7, oI cI 60 KB), (m8, oI cI 12 KT), (m9, oI cI 61 KE), (m10, oI cI 61 KF), (m11, oI cI 61 KX)])) (cv_X6_76 hg ⟨Nat.le_of_ble_eq_true rfl, Nat.le_of_ble_eq_true rfl⟩) (k_go0 l D cI m0 (.int (nI n)) (.ref m1) (.ref m2) (.int (nI rn)) (.ref m3) (.int (nI mn)) (.ref m4) (.ref m5) (.int (nI pn)) (.ref m6) (.int (nI sn)) (.int co) (.ref m7) (.ref m8) (.ref m9) (.ref m10) (.ref m11) 1 (by decide) (by decide)) cx hK hP hD hA [0] [1, 2, 3, 4, 5, 6, 7, 8, 9, 10, 11] [11, 0, 1, 2, 3, 4, 5, 6, 7, 8, 9, 10] rfl rfl (by decide) (fun _ => rfl) (rq := 0) rfl rfl rfl hS rfl hl.1 rfl (Nat.le_of_ble_eq_true rfl) dX6_answer_52 ⟨Nat.le_refl _, Nat.le_refl _⟩ (fun H locs r52 _ p52 hP hD hS => ?_)
    subst p52
    refine lv_if_eq (tgt := 68) hx hb dX6_answer_55 (by decide) (fun _ => ?_) (fun h9 => absurd (by decide) h9)
    refine lv_iconst (v := nI 0) hx hb dX6_answer_68 (by decide) ?_
    exact hret _ _ 69 _ _ ((ff_N (n) (rn) (mn) (pn) (sn) 0, ff_Z ((nI 1)) (co), ff_A14 (KP) (KL) (KR) (KM) (KN) (KS) (KB) (KT) (KE) (KF) (KX) (KX) (KX) (KX))) (by first | exact Or.inr ⟨⟨ky9, hd9, j9, hky, rfl, hhd, rfl, hj9, rfl⟩, by rw [cl_n (by omega), cl_n (by omega), cl_n (by omega)], rfl⟩ | exact Or.inl ⟨fun h => by obtain ⟨a8, b8, j8, h1, e1, h2, e2, h3, e3⟩ := h; first | exact c15 (by rw [e1]; exact ff_le h1 (by decide)) | exact c27 (by rw [e2]; exact ff_le h2 (by decide)) | exact c43 (by rw [e3]; exact ff_le2 h3 (by omega)), rfl, rfl⟩) hP hD hS dX6_answer_69
  · have c15 := bI_nz.mp c15
    obtain ⟨ky9, hky, rfl⟩ := ff_of (by decide) c15
    refine lv_iload_n hx hb dX6_answer_18 rfl (lv_at hl 2 rfl) ?_
    refine lv_i2l hx hb dX6_answer_19 rfl ?_
    refine lv_lconst (v := 0) hx hb dX6_answer_20 (by decide) ?_
    refine lv_ldc2 (v := 12) hx hb hown (hg _ wd_cl_X6_102) dX6_answer_21 ?_
    refine Cp.callS (As := [.long ((Int32.toInt64 (hd))), .long ((0 : Int64)), .long ((12 : Int64))]) (rest := [.ref m0]) (cv_X6_70 hg ⟨Nat.le_of_ble_eq_true rfl, Nat.le_of_ble_eq_true rfl⟩) (k_isIn32 l D cI [] (hd) (nI 0) (nI 12) _ _ (by decide) (by decide)) cx hK hP [] rfl hS rfl hl.1 rfl (Nat.le_of_ble_eq_true rfl) dX6_answer_24 ⟨Nat.zero_le _, Nat.zero_le _⟩ (fun H locs hP hS => ?_)
    refine lv_if_eq (tgt := 50) hx hb dX6_answer_27 (by decide) (fun c27 => ?_) (fun c27 => ?_)
    · have c27 := bI_z.mp c27
      refine lv_iconst (v := nI 0) hx hb dX6_answer_50 (by decide) ?_
      refine lv_iconst (v := nI 1) hx hb dX6_answer_51 (by decide) ?_
      refine Ci.callV (As := [.int (nI 0), .int (nI 1)]) (rest := []) (wr := [(m1, oI cI 60 KP), (m2, oI cI 60 KL), (m3, oI cI 5400 KR), (m4, oI cI 12 KM), (m5, oI cI 12 KN), (m6, oI cI 60 KS), (m7, oI cI 60 KB), (m8, oI cI 12 KT), (m9, oI cI 61 KE), (m10, oI cI 61 KF), (m11, oI cI 61 KX)]) (wn := (fun _ => [(m0, .inr (6, [.int ((nI 1)), .int (nI n), .ref m1, .ref m2, .int (nI rn), .ref m3, .int (nI mn), .ref m4, .ref m5, .int (nI pn), .ref m6, .int (nI sn), .int co, .ref m7, .ref m8, .ref m9, .ref m10, .ref m11])), (m1, oI cI 60 KP), (m2, oI cI 60 KL), (m3, oI cI 5400 KR), (m4, oI cI 12 KM), (m5, oI cI 12 KN), (m6, oI cI 60 KS), (m7, oI cI 60 KB), (m8, oI cI 12 KT), (m9, oI cI 61 KE), (m10, oI cI 61 KF), (m11, oI cI 61 KX)])) (cv_X6_76 hg ⟨Nat.le_of_ble_eq_true rfl, Nat.le_of_ble_eq_true rfl⟩) (k_go0 l D cI m0 (.int (nI n)) (.ref m1) (.ref m2) (.int (nI rn)) (.ref m3) (.int (nI mn)) (.ref m4) (.ref m5) (.int (nI pn)) (.ref m6) (.int (nI sn)) (.int co) (.ref m7) (.ref m8) (.ref m9) (.ref m10) (.ref m11) 1 (by decide) (by decide)) cx hK hP hD hA [0] [1, 2, 3, 4, 5, 6, 7, 8, 9, 10, 11] [11, 0, 1, 2, 3, 4, 5, 6, 7, 8, 9, 10] rfl rfl (by decide) (fun _ => rfl) (rq := 0) rfl rfl rfl hS rfl hl.1 rfl (Nat.le_of_ble_eq_true rfl) dX6_answer_52 ⟨Nat.le_refl _, Nat.le_refl _⟩ (fun H locs r52 _ p52 hP hD hS => ?_)
      subst p52
      refine lv_if_eq (tgt := 68) hx hb dX6_answer_55 (by decide) (fun _ => ?_) (fun h9 => absurd (by decide) h9)
      refine lv_iconst (v := nI 0) hx hb dX6_answer_68 (by decide) ?_
      exact hret _ _ 69 _ _ ((ff_N (n) (rn) (mn) (pn) (sn) 0, ff_Z ((nI 1)) (co), ff_A14 (KP) (KL) (KR) (KM) (KN) (KS) (KB) (KT) (KE) (KF) (KX) (KX) (KX) (KX))) (by first | exact Or.inr ⟨⟨ky9, hd9, j9, hky, rfl, hhd, rfl, hj9, rfl⟩, by rw [cl_n (by omega), cl_n (by omega), cl_n (by omega)], rfl⟩ | exact Or.inl ⟨fun h => by obtain ⟨a8, b8, j8, h1, e1, h2, e2, h3, e3⟩ := h; first | exact c15 (by rw [e1]; exact ff_le h1 (by decide)) | exact c27 (by rw [e2]; exact ff_le h2 (by decide)) | exact c43 (by rw [e3]; exact ff_le2 h3 (by omega)), rfl, rfl⟩) hP hD hS dX6_answer_69
    · have c27 := bI_nz.mp c27
      obtain ⟨hd9, hhd, rfl⟩ := ff_of (by decide) c27
      refine lv_iload_n hx hb dX6_answer_30 rfl (lv_at hl 3 rfl) ?_
      refine lv_i2l hx hb dX6_answer_31 rfl ?_
      refine lv_lconst (v := 0) hx hb dX6_answer_32 (by decide) ?_
      refine lv_aload_n hx hb dX6_answer_33 rfl (lv_at hl 0 rfl) ?_
      refine gf_X6_56 hx hb hg hown hK hP 0 rfl rfl dX6_answer_34 ?_
      refine lv_iconst (v := nI 1) hx hb dX6_answer_37 (by decide) ?_
      refine lv_isub hx hb dX6_answer_38 ?_
      refine lv_i2l hx hb dX6_answer_39 rfl ?_
      refine Cp.callS (As := [.long ((Int32.toInt64 (i))), .long ((0 : Int64)), .long ((Int32.toInt64 ((nI mn - nI 1))))]) (rest := [.ref m0]) (cv_X6_70 hg ⟨Nat.le_of_ble_eq_true rfl, Nat.le_of_ble_eq_true rfl⟩) (k_isIn32 l D cI [] (i) (nI 0) ((nI mn - nI 1)) _ _ (by decide) rfl) cx hK hP [] rfl hS rfl hl.1 rfl (Nat.le_of_ble_eq_true rfl) dX6_answer_40 ⟨Nat.zero_le _, Nat.zero_le _⟩ (fun H locs hP hS => ?_)
      refine lv_if_eq (tgt := 50) hx hb dX6_answer_43 (by decide) (fun c43 => ?_) (fun c43 => ?_)
      · have c43 := bI_z.mp c43
        refine lv_iconst (v := nI 0) hx hb dX6_answer_50 (by decide) ?_
        refine lv_iconst (v := nI 1) hx hb dX6_answer_51 (by decide) ?_
        refine Ci.callV (As := [.int (nI 0), .int (nI 1)]) (rest := []) (wr := [(m1, oI cI 60 KP), (m2, oI cI 60 KL), (m3, oI cI 5400 KR), (m4, oI cI 12 KM), (m5, oI cI 12 KN), (m6, oI cI 60 KS), (m7, oI cI 60 KB), (m8, oI cI 12 KT), (m9, oI cI 61 KE), (m10, oI cI 61 KF), (m11, oI cI 61 KX)]) (wn := (fun _ => [(m0, .inr (6, [.int ((nI 1)), .int (nI n), .ref m1, .ref m2, .int (nI rn), .ref m3, .int (nI mn), .ref m4, .ref m5, .int (nI pn), .ref m6, .int (nI sn), .int co, .ref m7, .ref m8, .ref m9, .ref m10, .ref m11])), (m1, oI cI 60 KP), (m2, oI cI 60 KL), (m3, oI cI 5400 KR), (m4, oI cI 12 KM), (m5, oI cI 12 KN), (m6, oI cI 60 KS), (m7, oI cI 60 KB), (m8, oI cI 12 KT), (m9, oI cI 61 KE), (m10, oI cI 61 KF), (m11, oI cI 61 KX)])) (cv_X6_76 hg ⟨Nat.le_of_ble_eq_true rfl, Nat.le_of_ble_eq_true rfl⟩) (k_go0 l D cI m0 (.int (nI n)) (.ref m1) (.ref m2) (.int (nI rn)) (.ref m3) (.int (nI mn)) (.ref m4) (.ref m5) (.int (nI pn)) (.ref m6) (.int (nI sn)) (.int co) (.ref m7) (.ref m8) (.ref m9) (.ref m10) (.ref m11) 1 (by decide) (by decide)) cx hK hP hD hA [0] [1, 2, 3, 4, 5, 6, 7, 8, 9, 10, 11] [11, 0, 1, 2, 3, 4, 5, 6, 7, 8, 9, 10] rfl rfl (by decide) (fun _ => rfl) (rq := 0) rfl rfl rfl hS rfl hl.1 rfl (Nat.le_of_ble_eq_true rfl) dX6_answer_52 ⟨Nat.le_refl _, Nat.le_refl _⟩ (fun H locs r52 _ p52 hP hD hS => ?_)
        subst p52
        refine lv_if_eq (tgt := 68) hx hb dX6_answer_55 (by decide) (fun _ => ?_) (fun h9 => absurd (by decide) h9)
        refine lv_iconst (v := nI 0) hx hb dX6_answer_68 (by decide) ?_
        exact hret _ _ 69 _ _ ((ff_N (n) (rn) (mn) (pn) (sn) 0, ff_Z ((nI 1)) (co), ff_A14 (KP) (KL) (KR) (KM) (KN) (KS) (KB) (KT) (KE) (KF) (KX) (KX) (KX) (KX))) (by first | exact Or.inr ⟨⟨ky9, hd9, j9, hky, rfl, hhd, rfl, hj9, rfl⟩, by rw [cl_n (by omega), cl_n (by omega), cl_n (by omega)], rfl⟩ | exact Or.inl ⟨fun h => by obtain ⟨a8, b8, j8, h1, e1, h2, e2, h3, e3⟩ := h; first | exact c15 (by rw [e1]; exact ff_le h1 (by decide)) | exact c27 (by rw [e2]; exact ff_le h2 (by decide)) | exact c43 (by rw [e3]; exact ff_le2 h3 (by omega)), rfl, rfl⟩) hP hD hS dX6_answer_69
      · have c43 := bI_nz.mp c43
        obtain ⟨j9, hj9, rfl⟩ := ff_of2 (by omega) c43
        refine lv_iconst (v := nI 1) hx hb dX6_answer_46 (by decide) ?_
        refine lv_goto (tgt := 51) hx hb dX6_answer_47 (by decide) ?_
        refine lv_iconst (v := nI 1) hx hb dX6_answer_51 (by decide) ?_
        refine Ci.callV (As := [.int (nI 1), .int (nI 1)]) (rest := []) (wr := [(m1, oI cI 60 KP), (m2, oI cI 60 KL), (m3, oI cI 5400 KR), (m4, oI cI 12 KM), (m5, oI cI 12 KN), (m6, oI cI 60 KS), (m7, oI cI 60 KB), (m8, oI cI 12 KT), (m9, oI cI 61 KE), (m10, oI cI 61 KF), (m11, oI cI 61 KX)]) (wn := (fun _ => [(m0, .inr (6, [.int (nI 0), .int (nI n), .ref m1, .ref m2, .int (nI rn), .ref m3, .int (nI mn), .ref m4, .ref m5, .int (nI pn), .ref m6, .int (nI sn), .int co, .ref m7, .ref m8, .ref m9, .ref m10, .ref m11])), (m1, oI cI 60 KP), (m2, oI cI 60 KL), (m3, oI cI 5400 KR), (m4, oI cI 12 KM), (m5, oI cI 12 KN), (m6, oI cI 60 KS), (m7, oI cI 60 KB), (m8, oI cI 12 KT), (m9, oI cI 61 KE), (m10, oI cI 61 KF), (m11, oI cI 61 KX)])) (cv_X6_76 hg ⟨Nat.le_of_ble_eq_true rfl, Nat.le_of_ble_eq_true rfl⟩) (k_go1 l D cI m0 (.int (nI n)) (.ref m1) (.ref m2) (.int (nI rn)) (.ref m3) (.int (nI mn)) (.ref m4) (.ref m5) (.int (nI pn)) (.ref m6) (.int (nI sn)) (.int co) (.ref m7) (.ref m8) (.ref m9) (.ref m10) (.ref m11) (nI 1)) cx hK hP hD hA [0] [1, 2, 3, 4, 5, 6, 7, 8, 9, 10, 11] [11, 0, 1, 2, 3, 4, 5, 6, 7, 8, 9, 10] rfl rfl (by decide) (fun _ => rfl) (rq := 0) rfl rfl rfl hS rfl hl.1 rfl (Nat.le_of_ble_eq_true rfl) dX6_answer_52 ⟨Nat.le_refl _, Nat.le_refl _⟩ (fun H locs r52 _ p52 hP hD hS => ?_)
        subst p52
        refine lv_if_eq (tgt := 68) hx hb dX6_answer_55 (by decide) (fun h9 => absurd h9 (by decide)) (fun _ => ?_)
        refine lv_aload_n hx hb dX6_answer_58 rfl (lv_at hl 0 rfl) ?_
        refine lv_iload_n hx hb dX6_answer_59 rfl (lv_at hl 1 rfl) ?_
        refine lv_iload_n hx hb dX6_answer_60 rfl (lv_at hl 2 rfl) ?_
        refine lv_iload_n hx hb dX6_answer_61 rfl (lv_at hl 3 rfl) ?_
        refine Cp.callV (As := [.int (nI ky9), .int (nI hd9), .int (nI j9)]) (rest := []) (cv_X6_119 hg ⟨Nat.le_of_ble_eq_true rfl, Nat.le_of_ble_eq_true rfl⟩) (k_ManswerPitch l D cI m0 m1 m2 m3 m4 m5 m6 m7 m8 m9 m10 m11 (nI 0) (co) (n) (rn) (mn) (pn) (sn) KM ky9 hd9 j9 hky hhd hj9 hmn (hM j9 hj9).1 (hM j9 hj9).2) cx hK hP [0, 4] rfl (rq := 0) rfl rfl rfl hS rfl hl.1 rfl (Nat.le_of_ble_eq_true rfl) dX6_answer_62 ⟨Nat.zero_le _, Nat.zero_le _⟩ (fun H locs hP hS => ?_)
        refine lv_goto (tgt := 69) hx hb dX6_answer_65 (by decide) ?_
        exact hret _ _ 69 _ _ ((ff_N (n) (rn) (mn) (pn) (sn) 0, ff_Z (nI 0) (co), ff_A14 (KP) (KL) (KR) (KM) (KN) (KS) (KB) (KT) (KE) (KF) (KX) (KX) (KX) (KX))) (by first | exact Or.inr ⟨⟨ky9, hd9, j9, hky, rfl, hhd, rfl, hj9, rfl⟩, by rw [cl_n (by omega), cl_n (by omega), cl_n (by omega)], rfl⟩ | exact Or.inl ⟨fun h => by obtain ⟨a8, b8, j8, h1, e1, h2, e2, h3, e3⟩ := h; first | exact c15 (by rw [e1]; exact ff_le h1 (by decide)) | exact c27 (by rw [e2]; exact ff_le h2 (by decide)) | exact c43 (by rw [e3]; exact ff_le2 h3 (by omega)), rfl, rfl⟩) hP hD hS dX6_answer_69

set_option maxHeartbeats 4000000 in
set_option maxRecDepth 100000 in
theorem c_found (l : Launch) (D : va_G) (cI : ClassId) (m0 m1 m2 m3 m4 m5 m6 m7 m8 m9 m10 m11 : Nat) (th co : Int32) (n rn mn pn sn : Nat) (KP KL KR KM KN KS KB KT KE KF KX : Nat → Int32) (hn : n ≤ 60) (hmn : mn ≤ 12) (q : Int32) (hpn : pn ≤ 60) : Ci l yX6_found cX6_found 2 (some .int) 2 0 0 D (tI cI) [.ref m0, .int q] [(m0, .inr (6, [.int th, .int (nI n), .ref m1, .ref m2, .int (nI rn), .ref m3, .int (nI mn), .ref m4, .ref m5, .int (nI pn), .ref m6, .int (nI sn), .int co, .ref m7, .ref m8, .ref m9, .ref m10, .ref m11])), (m1, oI cI 60 KP), (m2, oI cI 60 KL), (m3, oI cI 5400 KR), (m4, oI cI 12 KM), (m5, oI cI 12 KN), (m6, oI cI 60 KS), (m7, oI cI 60 KB), (m8, oI cI 12 KT), (m9, oI cI 61 KE), (m10, oI cI 61 KF), (m11, oI cI 61 KX)] (S := ff_S) (fun r u => (¬ 0 ≤ q ∧ r = nI 0 ∧ u = (ff_N (n) (rn) (mn) (pn) (sn) 0, ff_Z ((nI 1)) (co), ff_A14 (KP) (KL) (KR) (KM) (KN) (KS) (KB) (KT) (KE) (KF) (KX) (KX) (KX) (KX))) ∨ (0 ≤ q ∧ r = (if cl q < pn then KS (cl q) else (-1)) ∧ u = (ff_N (n) (rn) (mn) (pn) (sn) 0, ff_Z ((nI 0)) (co), ff_A14 (KP) (KL) (KR) (KM) (KN) (KS) (KB) (KT) (KE) (KF) (KX) (KX) (KX) (KX)))) (fun u => [(m0, .inr (6, [.int ((u.2.1 0)), .int (nI (u.1 0)), .ref m1, .ref m2, .int (nI (u.1 1)), .ref m3, .int (nI (u.1 2)), .ref m4, .ref m5, .int (nI (u.1 3)), .ref m6, .int (nI (u.1 4)), .int ((u.2.1 1)), .ref m7, .ref m8, .ref m9, .ref m10, .ref m11])), (m1, oI cI 60 (u.2.2 0)), (m2, oI cI 60 (u.2.2 1)), (m3, oI cI 5400 (u.2.2 2)), (m4, oI cI 12 (u.2.2 3)), (m5, oI cI 12 (u.2.2 4)), (m6, oI cI 60 (u.2.2 5)), (m7, oI cI 60 (u.2.2 6)), (m8, oI cI 12 (u.2.2 7)), (m9, oI cI 61 (u.2.2 8)), (m10, oI cI 61 (u.2.2 9)), (m11, oI cI 61 (u.2.2 10))]) := by
  refine Ci.of (own := RX6) (lv := [(0, .ref m0), (1, .int q)]) (by decide +kernel) rfl (Nat.le_of_ble_eq_true rfl) rfl (fun x u h => vp_nar_int _) ?_
  intro p e s m args below meth c Q A cx hK hP hD hA hret ls hl
  obtain ⟨hx, hb, hml, hown, hg⟩ := id cx
  have hS : va_S A s.heap s.heap [] := va_S.rf
  refine lv_aload_n hx hb dX6_found_0 rfl (lv_at hl 0 rfl) ?_
  refine lv_iconst (v := nI 0) hx hb dX6_found_1 (by decide) ?_
  refine pf_X6_46 hx hb hg hown hK hP hD hS 0 rfl (Nat.le_of_ble_eq_true rfl) dX6_found_2 (fun H locs hP hD hS => ?_)
  have hP : va_P D vwCl [(m0, .inr (6, [.int (nI 0), .int (nI n), .ref m1, .ref m2, .int (nI rn), .ref m3, .int (nI mn), .ref m4, .ref m5, .int (nI pn), .ref m6, .int (nI sn), .int co, .ref m7, .ref m8, .ref m9, .ref m10, .ref m11])), (m1, oI cI 60 KP), (m2, oI cI 60 KL), (m3, oI cI 5400 KR), (m4, oI cI 12 KM), (m5, oI cI 12 KN), (m6, oI cI 60 KS), (m7, oI cI 60 KB), (m8, oI cI 12 KT), (m9, oI cI 61 KE), (m10, oI cI 61 KF), (m11, oI cI 61 KX)] H := hP
  have hD : va_D A [(m0, .inr (6, [.int (nI 0), .int (nI n), .ref m1, .ref m2, .int (nI rn), .ref m3, .int (nI mn), .ref m4, .ref m5, .int (nI pn), .ref m6, .int (nI sn), .int co, .ref m7, .ref m8, .ref m9, .ref m10, .ref m11])), (m1, oI cI 60 KP), (m2, oI cI 60 KL), (m3, oI cI 5400 KR), (m4, oI cI 12 KM), (m5, oI cI 12 KN), (m6, oI cI 60 KS), (m7, oI cI 60 KB), (m8, oI cI 12 KT), (m9, oI cI 61 KE), (m10, oI cI 61 KF), (m11, oI cI 61 KX)] := hD
  refine lv_aload_n hx hb dX6_found_5 rfl (lv_at hl 0 rfl) ?_
  refine lv_iload_n hx hb dX6_found_6 rfl (lv_at hl 1 rfl) ?_
  refine lv_if_lt (tgt := 14) hx hb dX6_found_7 (by decide) (fun c7 => ?_) (fun c7 => ?_)
  · skip
    refine lv_iconst (v := nI 0) hx hb dX6_found_14 (by decide) ?_
    refine lv_iconst (v := nI 1) hx hb dX6_found_15 (by decide) ?_
    refine Ci.callV (As := [.int (nI 0), .int (nI 1)]) (rest := []) (wr := [(m1, oI cI 60 KP), (m2, oI cI 60 KL), (m3, oI cI 5400 KR), (m4, oI cI 12 KM), (m5, oI cI 12 KN), (m6, oI cI 60 KS), (m7, oI cI 60 KB), (m8, oI cI 12 KT), (m9, oI cI 61 KE), (m10, oI cI 61 KF), (m11, oI cI 61 KX)]) (wn := (fun _ => [(m0, .inr (6, [.int ((nI 1)), .int (nI n), .ref m1, .ref m2, .int (nI rn), .ref m3, .int (nI mn), .ref m4, .ref m5, .int (nI pn), .ref m6, .int (nI sn), .int co, .ref m7, .ref m8, .ref m9, .ref m10, .ref m11])), (m1, oI cI 60 KP), (m2, oI cI 60 KL), (m3, oI cI 5400 KR), (m4, oI cI 12 KM), (m5, oI cI 12 KN), (m6, oI cI 60 KS), (m7, oI cI 60 KB), (m8, oI cI 12 KT), (m9, oI cI 61 KE), (m10, oI cI 61 KF), (m11, oI cI 61 KX)])) (cv_X6_76 hg ⟨Nat.le_of_ble_eq_true rfl, Nat.le_of_ble_eq_true rfl⟩) (k_go0 l D cI m0 (.int (nI n)) (.ref m1) (.ref m2) (.int (nI rn)) (.ref m3) (.int (nI mn)) (.ref m4) (.ref m5) (.int (nI pn)) (.ref m6) (.int (nI sn)) (.int co) (.ref m7) (.ref m8) (.ref m9) (.ref m10) (.ref m11) 1 (by decide) (by decide)) cx hK hP hD hA [0] [1, 2, 3, 4, 5, 6, 7, 8, 9, 10, 11] [11, 0, 1, 2, 3, 4, 5, 6, 7, 8, 9, 10] rfl rfl (by decide) (fun _ => rfl) (rq := 0) rfl rfl rfl hS rfl hl.1 rfl (Nat.le_of_ble_eq_true rfl) dX6_found_16 ⟨Nat.le_refl _, Nat.le_refl _⟩ (fun H locs r16 _ p16 hP hD hS => ?_)
    subst p16
    refine lv_if_ne (tgt := 24) hx hb dX6_found_19 (by decide) (fun h9 => absurd (by decide) h9) (fun _ => ?_)
    refine lv_iconst (v := nI 0) hx hb dX6_found_22 (by decide) ?_
    exact hret _ _ 23 _ _ ((ff_N (n) (rn) (mn) (pn) (sn) 0, ff_Z ((nI 1)) (co), ff_A14 (KP) (KL) (KR) (KM) (KN) (KS) (KB) (KT) (KE) (KF) (KX) (KX) (KX) (KX))) (Or.inl ⟨fun h => i_nlt.mpr h c7, rfl, rfl⟩) hP hD hS dX6_found_23
  · skip
    obtain ⟨w9, hw9, rfl⟩ := nI_of c7
    refine lv_iconst (v := nI 1) hx hb dX6_found_10 (by decide) ?_
    refine lv_goto (tgt := 15) hx hb dX6_found_11 (by decide) ?_
    refine lv_iconst (v := nI 1) hx hb dX6_found_15 (by decide) ?_
    refine Ci.callV (As := [.int (nI 1), .int (nI 1)]) (rest := []) (wr := [(m1, oI cI 60 KP), (m2, oI cI 60 KL), (m3, oI cI 5400 KR), (m4, oI cI 12 KM), (m5, oI cI 12 KN), (m6, oI cI 60 KS), (m7, oI cI 60 KB), (m8, oI cI 12 KT), (m9, oI cI 61 KE), (m10, oI cI 61 KF), (m11, oI cI 61 KX)]) (wn := (fun _ => [(m0, .inr (6, [.int (nI 0), .int (nI n), .ref m1, .ref m2, .int (nI rn), .ref m3, .int (nI mn), .ref m4, .ref m5, .int (nI pn), .ref m6, .int (nI sn), .int co, .ref m7, .ref m8, .ref m9, .ref m10, .ref m11])), (m1, oI cI 60 KP), (m2, oI cI 60 KL), (m3, oI cI 5400 KR), (m4, oI cI 12 KM), (m5, oI cI 12 KN), (m6, oI cI 60 KS), (m7, oI cI 60 KB), (m8, oI cI 12 KT), (m9, oI cI 61 KE), (m10, oI cI 61 KF), (m11, oI cI 61 KX)])) (cv_X6_76 hg ⟨Nat.le_of_ble_eq_true rfl, Nat.le_of_ble_eq_true rfl⟩) (k_go1 l D cI m0 (.int (nI n)) (.ref m1) (.ref m2) (.int (nI rn)) (.ref m3) (.int (nI mn)) (.ref m4) (.ref m5) (.int (nI pn)) (.ref m6) (.int (nI sn)) (.int co) (.ref m7) (.ref m8) (.ref m9) (.ref m10) (.ref m11) (nI 1)) cx hK hP hD hA [0] [1, 2, 3, 4, 5, 6, 7, 8, 9, 10, 11] [11, 0, 1, 2, 3, 4, 5, 6, 7, 8, 9, 10] rfl rfl (by decide) (fun _ => rfl) (rq := 0) rfl rfl rfl hS rfl hl.1 rfl (Nat.le_of_ble_eq_true rfl) dX6_found_16 ⟨Nat.le_refl _, Nat.le_refl _⟩ (fun H locs r16 _ p16 hP hD hS => ?_)
    subst p16
    refine lv_if_ne (tgt := 24) hx hb dX6_found_19 (by decide) (fun _ => ?_) (fun h9 => absurd h9 (by decide))
    refine lv_iload_n hx hb dX6_found_24 rfl (lv_at hl 1 rfl) ?_
    refine lv_aload_n hx hb dX6_found_25 rfl (lv_at hl 0 rfl) ?_
    refine gf_X6_59 hx hb hg hown hK hP 0 rfl rfl dX6_found_26 ?_
    refine lv_icmp_ge (tgt := 41) hx hb dX6_found_29 (by decide) (fun c29 => ?_) (fun c29 => ?_)
    · have c29 := (nI_leI (by omega) (by omega)).mp c29
      refine lv_iconst (v := (-1)) hx hb dX6_found_41 (by decide) ?_
      exact hret _ _ 42 _ _ ((ff_N (n) (rn) (mn) (pn) (sn) 0, ff_Z (nI 0) (co), ff_A14 (KP) (KL) (KR) (KM) (KN) (KS) (KB) (KT) (KE) (KF) (KX) (KX) (KX) (KX))) (Or.inr ⟨nI_pos' hw9, by rw [cl_n hw9]; first | rw [if_pos (by omega)] | rw [if_neg (by omega)], rfl⟩) hP hD hS dX6_found_42
    · have c29 := mt (nI_leI (by omega) (by omega)).mpr c29
      refine lv_aload_n hx hb dX6_found_32 rfl (lv_at hl 0 rfl) ?_
      refine gf_X6_25 hx hb hg hown hK hP 0 rfl rfl dX6_found_33 ?_
      refine lv_iload_n hx hb dX6_found_36 rfl (lv_at hl 1 rfl) ?_
      refine ald hx hb hK hP 6 rfl rfl (by omega) dX6_found_37 ?_
      refine lv_goto (tgt := 42) hx hb dX6_found_38 (by decide) ?_
      exact hret _ _ 42 _ _ ((ff_N (n) (rn) (mn) (pn) (sn) 0, ff_Z (nI 0) (co), ff_A14 (KP) (KL) (KR) (KM) (KN) (KS) (KB) (KT) (KE) (KF) (KX) (KX) (KX) (KX))) (Or.inr ⟨nI_pos' hw9, by rw [cl_n hw9]; first | rw [if_pos (by omega)] | rw [if_neg (by omega)], rfl⟩) hP hD hS dX6_found_42

set_option maxHeartbeats 4000000 in
set_option maxRecDepth 100000 in
theorem c_section (l : Launch) (D : va_G) (cI : ClassId) (m0 m1 m2 m3 m4 m5 m6 m7 m8 m9 m10 m11 : Nat) (th co : Int32) (n rn mn pn sn : Nat) (KP KL KR KM KN KS KB KT KE KF KX : Nat → Int32) (hn : n ≤ 60) (hmn : mn ≤ 12) (q : Int32) (hsn : sn ≤ 60) : Ci l yX6_section cX6_section 2 (some .int) 2 0 0 D (tI cI) [.ref m0, .int q] [(m0, .inr (6, [.int th, .int (nI n), .ref m1, .ref m2, .int (nI rn), .ref m3, .int (nI mn), .ref m4, .ref m5, .int (nI pn), .ref m6, .int (nI sn), .int co, .ref m7, .ref m8, .ref m9, .ref m10, .ref m11])), (m1, oI cI 60 KP), (m2, oI cI 60 KL), (m3, oI cI 5400 KR), (m4, oI cI 12 KM), (m5, oI cI 12 KN), (m6, oI cI 60 KS), (m7, oI cI 60 KB), (m8, oI cI 12 KT), (m9, oI cI 61 KE), (m10, oI cI 61 KF), (m11, oI cI 61 KX)] (S := ff_S) (fun r u => (¬ 0 ≤ q ∧ r = nI 0 ∧ u = (ff_N (n) (rn) (mn) (pn) (sn) 0, ff_Z ((nI 1)) (co), ff_A14 (KP) (KL) (KR) (KM) (KN) (KS) (KB) (KT) (KE) (KF) (KX) (KX) (KX) (KX))) ∨ (0 ≤ q ∧ r = (if cl q < sn then KB (cl q) else (-1)) ∧ u = (ff_N (n) (rn) (mn) (pn) (sn) 0, ff_Z ((nI 0)) (co), ff_A14 (KP) (KL) (KR) (KM) (KN) (KS) (KB) (KT) (KE) (KF) (KX) (KX) (KX) (KX)))) (fun u => [(m0, .inr (6, [.int ((u.2.1 0)), .int (nI (u.1 0)), .ref m1, .ref m2, .int (nI (u.1 1)), .ref m3, .int (nI (u.1 2)), .ref m4, .ref m5, .int (nI (u.1 3)), .ref m6, .int (nI (u.1 4)), .int ((u.2.1 1)), .ref m7, .ref m8, .ref m9, .ref m10, .ref m11])), (m1, oI cI 60 (u.2.2 0)), (m2, oI cI 60 (u.2.2 1)), (m3, oI cI 5400 (u.2.2 2)), (m4, oI cI 12 (u.2.2 3)), (m5, oI cI 12 (u.2.2 4)), (m6, oI cI 60 (u.2.2 5)), (m7, oI cI 60 (u.2.2 6)), (m8, oI cI 12 (u.2.2 7)), (m9, oI cI 61 (u.2.2 8)), (m10, oI cI 61 (u.2.2 9)), (m11, oI cI 61 (u.2.2 10))]) := by
  refine Ci.of (own := RX6) (lv := [(0, .ref m0), (1, .int q)]) (by decide +kernel) rfl (Nat.le_of_ble_eq_true rfl) rfl (fun x u h => vp_nar_int _) ?_
  intro p e s m args below meth c Q A cx hK hP hD hA hret ls hl
  obtain ⟨hx, hb, hml, hown, hg⟩ := id cx
  have hS : va_S A s.heap s.heap [] := va_S.rf
  refine lv_aload_n hx hb dX6_section_0 rfl (lv_at hl 0 rfl) ?_
  refine lv_iconst (v := nI 0) hx hb dX6_section_1 (by decide) ?_
  refine pf_X6_46 hx hb hg hown hK hP hD hS 0 rfl (Nat.le_of_ble_eq_true rfl) dX6_section_2 (fun H locs hP hD hS => ?_)
  have hP : va_P D vwCl [(m0, .inr (6, [.int (nI 0), .int (nI n), .ref m1, .ref m2, .int (nI rn), .ref m3, .int (nI mn), .ref m4, .ref m5, .int (nI pn), .ref m6, .int (nI sn), .int co, .ref m7, .ref m8, .ref m9, .ref m10, .ref m11])), (m1, oI cI 60 KP), (m2, oI cI 60 KL), (m3, oI cI 5400 KR), (m4, oI cI 12 KM), (m5, oI cI 12 KN), (m6, oI cI 60 KS), (m7, oI cI 60 KB), (m8, oI cI 12 KT), (m9, oI cI 61 KE), (m10, oI cI 61 KF), (m11, oI cI 61 KX)] H := hP
  have hD : va_D A [(m0, .inr (6, [.int (nI 0), .int (nI n), .ref m1, .ref m2, .int (nI rn), .ref m3, .int (nI mn), .ref m4, .ref m5, .int (nI pn), .ref m6, .int (nI sn), .int co, .ref m7, .ref m8, .ref m9, .ref m10, .ref m11])), (m1, oI cI 60 KP), (m2, oI cI 60 KL), (m3, oI cI 5400 KR), (m4, oI cI 12 KM), (m5, oI cI 12 KN), (m6, oI cI 60 KS), (m7, oI cI 60 KB), (m8, oI cI 12 KT), (m9, oI cI 61 KE), (m10, oI cI 61 KF), (m11, oI cI 61 KX)] := hD
  refine lv_aload_n hx hb dX6_section_5 rfl (lv_at hl 0 rfl) ?_
  refine lv_iload_n hx hb dX6_section_6 rfl (lv_at hl 1 rfl) ?_
  refine lv_if_lt (tgt := 14) hx hb dX6_section_7 (by decide) (fun c7 => ?_) (fun c7 => ?_)
  · skip
    refine lv_iconst (v := nI 0) hx hb dX6_section_14 (by decide) ?_
    refine lv_iconst (v := nI 1) hx hb dX6_section_15 (by decide) ?_
    refine Ci.callV (As := [.int (nI 0), .int (nI 1)]) (rest := []) (wr := [(m1, oI cI 60 KP), (m2, oI cI 60 KL), (m3, oI cI 5400 KR), (m4, oI cI 12 KM), (m5, oI cI 12 KN), (m6, oI cI 60 KS), (m7, oI cI 60 KB), (m8, oI cI 12 KT), (m9, oI cI 61 KE), (m10, oI cI 61 KF), (m11, oI cI 61 KX)]) (wn := (fun _ => [(m0, .inr (6, [.int ((nI 1)), .int (nI n), .ref m1, .ref m2, .int (nI rn), .ref m3, .int (nI mn), .ref m4, .ref m5, .int (nI pn), .ref m6, .int (nI sn), .int co, .ref m7, .ref m8, .ref m9, .ref m10, .ref m11])), (m1, oI cI 60 KP), (m2, oI cI 60 KL), (m3, oI cI 5400 KR), (m4, oI cI 12 KM), (m5, oI cI 12 KN), (m6, oI cI 60 KS), (m7, oI cI 60 KB), (m8, oI cI 12 KT), (m9, oI cI 61 KE), (m10, oI cI 61 KF), (m11, oI cI 61 KX)])) (cv_X6_76 hg ⟨Nat.le_of_ble_eq_true rfl, Nat.le_of_ble_eq_true rfl⟩) (k_go0 l D cI m0 (.int (nI n)) (.ref m1) (.ref m2) (.int (nI rn)) (.ref m3) (.int (nI mn)) (.ref m4) (.ref m5) (.int (nI pn)) (.ref m6) (.int (nI sn)) (.int co) (.ref m7) (.ref m8) (.ref m9) (.ref m10) (.ref m11) 1 (by decide) (by decide)) cx hK hP hD hA [0] [1, 2, 3, 4, 5, 6, 7, 8, 9, 10, 11] [11, 0, 1, 2, 3, 4, 5, 6, 7, 8, 9, 10] rfl rfl (by decide) (fun _ => rfl) (rq := 0) rfl rfl rfl hS rfl hl.1 rfl (Nat.le_of_ble_eq_true rfl) dX6_section_16 ⟨Nat.le_refl _, Nat.le_refl _⟩ (fun H locs r16 _ p16 hP hD hS => ?_)
    subst p16
    refine lv_if_ne (tgt := 24) hx hb dX6_section_19 (by decide) (fun h9 => absurd (by decide) h9) (fun _ => ?_)
    refine lv_iconst (v := nI 0) hx hb dX6_section_22 (by decide) ?_
    exact hret _ _ 23 _ _ ((ff_N (n) (rn) (mn) (pn) (sn) 0, ff_Z ((nI 1)) (co), ff_A14 (KP) (KL) (KR) (KM) (KN) (KS) (KB) (KT) (KE) (KF) (KX) (KX) (KX) (KX))) (Or.inl ⟨fun h => i_nlt.mpr h c7, rfl, rfl⟩) hP hD hS dX6_section_23
  · skip
    obtain ⟨w9, hw9, rfl⟩ := nI_of c7
    refine lv_iconst (v := nI 1) hx hb dX6_section_10 (by decide) ?_
    refine lv_goto (tgt := 15) hx hb dX6_section_11 (by decide) ?_
    refine lv_iconst (v := nI 1) hx hb dX6_section_15 (by decide) ?_
    refine Ci.callV (As := [.int (nI 1), .int (nI 1)]) (rest := []) (wr := [(m1, oI cI 60 KP), (m2, oI cI 60 KL), (m3, oI cI 5400 KR), (m4, oI cI 12 KM), (m5, oI cI 12 KN), (m6, oI cI 60 KS), (m7, oI cI 60 KB), (m8, oI cI 12 KT), (m9, oI cI 61 KE), (m10, oI cI 61 KF), (m11, oI cI 61 KX)]) (wn := (fun _ => [(m0, .inr (6, [.int (nI 0), .int (nI n), .ref m1, .ref m2, .int (nI rn), .ref m3, .int (nI mn), .ref m4, .ref m5, .int (nI pn), .ref m6, .int (nI sn), .int co, .ref m7, .ref m8, .ref m9, .ref m10, .ref m11])), (m1, oI cI 60 KP), (m2, oI cI 60 KL), (m3, oI cI 5400 KR), (m4, oI cI 12 KM), (m5, oI cI 12 KN), (m6, oI cI 60 KS), (m7, oI cI 60 KB), (m8, oI cI 12 KT), (m9, oI cI 61 KE), (m10, oI cI 61 KF), (m11, oI cI 61 KX)])) (cv_X6_76 hg ⟨Nat.le_of_ble_eq_true rfl, Nat.le_of_ble_eq_true rfl⟩) (k_go1 l D cI m0 (.int (nI n)) (.ref m1) (.ref m2) (.int (nI rn)) (.ref m3) (.int (nI mn)) (.ref m4) (.ref m5) (.int (nI pn)) (.ref m6) (.int (nI sn)) (.int co) (.ref m7) (.ref m8) (.ref m9) (.ref m10) (.ref m11) (nI 1)) cx hK hP hD hA [0] [1, 2, 3, 4, 5, 6, 7, 8, 9, 10, 11] [11, 0, 1, 2, 3, 4, 5, 6, 7, 8, 9, 10] rfl rfl (by decide) (fun _ => rfl) (rq := 0) rfl rfl rfl hS rfl hl.1 rfl (Nat.le_of_ble_eq_true rfl) dX6_section_16 ⟨Nat.le_refl _, Nat.le_refl _⟩ (fun H locs r16 _ p16 hP hD hS => ?_)
    subst p16
    refine lv_if_ne (tgt := 24) hx hb dX6_section_19 (by decide) (fun _ => ?_) (fun h9 => absurd h9 (by decide))
    refine lv_iload_n hx hb dX6_section_24 rfl (lv_at hl 1 rfl) ?_
    refine lv_aload_n hx hb dX6_section_25 rfl (lv_at hl 0 rfl) ?_
    refine gf_X6_62 hx hb hg hown hK hP 0 rfl rfl dX6_section_26 ?_
    refine lv_icmp_ge (tgt := 41) hx hb dX6_section_29 (by decide) (fun c29 => ?_) (fun c29 => ?_)
    · have c29 := (nI_leI (by omega) (by omega)).mp c29
      refine lv_iconst (v := (-1)) hx hb dX6_section_41 (by decide) ?_
      exact hret _ _ 42 _ _ ((ff_N (n) (rn) (mn) (pn) (sn) 0, ff_Z (nI 0) (co), ff_A14 (KP) (KL) (KR) (KM) (KN) (KS) (KB) (KT) (KE) (KF) (KX) (KX) (KX) (KX))) (Or.inr ⟨nI_pos' hw9, by rw [cl_n hw9]; first | rw [if_pos (by omega)] | rw [if_neg (by omega)], rfl⟩) hP hD hS dX6_section_42
    · have c29 := mt (nI_leI (by omega) (by omega)).mpr c29
      refine lv_aload_n hx hb dX6_section_32 rfl (lv_at hl 0 rfl) ?_
      refine gf_X6_28 hx hb hg hown hK hP 0 rfl rfl dX6_section_33 ?_
      refine lv_iload_n hx hb dX6_section_36 rfl (lv_at hl 1 rfl) ?_
      refine ald hx hb hK hP 7 rfl rfl (by omega) dX6_section_37 ?_
      refine lv_goto (tgt := 42) hx hb dX6_section_38 (by decide) ?_
      exact hret _ _ 42 _ _ ((ff_N (n) (rn) (mn) (pn) (sn) 0, ff_Z (nI 0) (co), ff_A14 (KP) (KL) (KR) (KM) (KN) (KS) (KB) (KT) (KE) (KF) (KX) (KX) (KX) (KX))) (Or.inr ⟨nI_pos' hw9, by rw [cl_n hw9]; first | rw [if_pos (by omega)] | rw [if_neg (by omega)], rfl⟩) hP hD hS dX6_section_42

set_option maxHeartbeats 4000000 in
set_option maxRecDepth 100000 in
theorem c_of (l : Launch) (D : va_G) (cI : ClassId) (m0 m1 m2 m3 m4 m5 m6 m7 m8 m9 m10 m11 : Nat) (th co : Int32) (n rn mn pn sn : Nat) (KP KL KR KM KN KS KB KT KE KF KX : Nat → Int32) (hn : n ≤ 60) (hmn : mn ≤ 12) (w : Int32) : Ci l yX6_of cX6_of 2 (some .int) 2 0 0 D (tI cI) [.ref m0, .int w] [(m0, .inr (6, [.int th, .int (nI n), .ref m1, .ref m2, .int (nI rn), .ref m3, .int (nI mn), .ref m4, .ref m5, .int (nI pn), .ref m6, .int (nI sn), .int co, .ref m7, .ref m8, .ref m9, .ref m10, .ref m11])), (m1, oI cI 60 KP), (m2, oI cI 60 KL), (m3, oI cI 5400 KR), (m4, oI cI 12 KM), (m5, oI cI 12 KN), (m6, oI cI 60 KS), (m7, oI cI 60 KB), (m8, oI cI 12 KT), (m9, oI cI 61 KE), (m10, oI cI 61 KF), (m11, oI cI 61 KX)] (S := ff_S) (fun r u => (¬ okOf w ∧ r = nI 0 ∧ u = (ff_N (n) (rn) (mn) (pn) (sn) 0, ff_Z ((nI 1)) (co), ff_A14 (KP) (KL) (KR) (KM) (KN) (KS) (KB) (KT) (KE) (KF) (KX) (KX) (KX) (KX))) ∨ (okOf w ∧ r = (if cl w = 0 then nI n else if cl w = 1 then nI mn else if cl w = 2 then co else if cl w = 3 then nI pn else nI rn) ∧ u = (ff_N (n) (rn) (mn) (pn) (sn) 0, ff_Z ((nI 0)) (co), ff_A14 (KP) (KL) (KR) (KM) (KN) (KS) (KB) (KT) (KE) (KF) (KX) (KX) (KX) (KX)))) (fun u => [(m0, .inr (6, [.int ((u.2.1 0)), .int (nI (u.1 0)), .ref m1, .ref m2, .int (nI (u.1 1)), .ref m3, .int (nI (u.1 2)), .ref m4, .ref m5, .int (nI (u.1 3)), .ref m6, .int (nI (u.1 4)), .int ((u.2.1 1)), .ref m7, .ref m8, .ref m9, .ref m10, .ref m11])), (m1, oI cI 60 (u.2.2 0)), (m2, oI cI 60 (u.2.2 1)), (m3, oI cI 5400 (u.2.2 2)), (m4, oI cI 12 (u.2.2 3)), (m5, oI cI 12 (u.2.2 4)), (m6, oI cI 60 (u.2.2 5)), (m7, oI cI 60 (u.2.2 6)), (m8, oI cI 12 (u.2.2 7)), (m9, oI cI 61 (u.2.2 8)), (m10, oI cI 61 (u.2.2 9)), (m11, oI cI 61 (u.2.2 10))]) := by
  refine Ci.of (own := RX6) (lv := [(0, .ref m0), (1, .int w)]) (by decide +kernel) rfl (Nat.le_of_ble_eq_true rfl) rfl (fun x u h => vp_nar_int _) ?_
  intro p e s m args below meth c Q A cx hK hP hD hA hret ls hl
  obtain ⟨hx, hb, hml, hown, hg⟩ := id cx
  have hS : va_S A s.heap s.heap [] := va_S.rf
  refine lv_aload_n hx hb dX6_of_0 rfl (lv_at hl 0 rfl) ?_
  refine lv_iconst (v := nI 0) hx hb dX6_of_1 (by decide) ?_
  refine pf_X6_46 hx hb hg hown hK hP hD hS 0 rfl (Nat.le_of_ble_eq_true rfl) dX6_of_2 (fun H locs hP hD hS => ?_)
  have hP : va_P D vwCl [(m0, .inr (6, [.int (nI 0), .int (nI n), .ref m1, .ref m2, .int (nI rn), .ref m3, .int (nI mn), .ref m4, .ref m5, .int (nI pn), .ref m6, .int (nI sn), .int co, .ref m7, .ref m8, .ref m9, .ref m10, .ref m11])), (m1, oI cI 60 KP), (m2, oI cI 60 KL), (m3, oI cI 5400 KR), (m4, oI cI 12 KM), (m5, oI cI 12 KN), (m6, oI cI 60 KS), (m7, oI cI 60 KB), (m8, oI cI 12 KT), (m9, oI cI 61 KE), (m10, oI cI 61 KF), (m11, oI cI 61 KX)] H := hP
  have hD : va_D A [(m0, .inr (6, [.int (nI 0), .int (nI n), .ref m1, .ref m2, .int (nI rn), .ref m3, .int (nI mn), .ref m4, .ref m5, .int (nI pn), .ref m6, .int (nI sn), .int co, .ref m7, .ref m8, .ref m9, .ref m10, .ref m11])), (m1, oI cI 60 KP), (m2, oI cI 60 KL), (m3, oI cI 5400 KR), (m4, oI cI 12 KM), (m5, oI cI 12 KN), (m6, oI cI 60 KS), (m7, oI cI 60 KB), (m8, oI cI 12 KT), (m9, oI cI 61 KE), (m10, oI cI 61 KF), (m11, oI cI 61 KX)] := hD
  refine lv_aload_n hx hb dX6_of_5 rfl (lv_at hl 0 rfl) ?_
  refine lv_iload_n hx hb dX6_of_6 rfl (lv_at hl 1 rfl) ?_
  refine lv_i2l hx hb dX6_of_7 rfl ?_
  refine lv_lconst (v := 0) hx hb dX6_of_8 (by decide) ?_
  refine lv_ldc2 (v := 4) hx hb hown (hg _ wd_cl_X6_80) dX6_of_9 ?_
  refine Cp.callS (As := [.long ((Int32.toInt64 (w))), .long ((0 : Int64)), .long ((4 : Int64))]) (rest := [.ref m0]) (cv_X6_70 hg ⟨Nat.le_of_ble_eq_true rfl, Nat.le_of_ble_eq_true rfl⟩) (k_isIn32 l D cI [] (w) (nI 0) (nI 4) _ _ (by decide) (by decide)) cx hK hP [] rfl hS rfl hl.1 rfl (Nat.le_of_ble_eq_true rfl) dX6_of_12 ⟨Nat.zero_le _, Nat.zero_le _⟩ (fun H locs hP hS => ?_)
  refine lv_iconst (v := nI 1) hx hb dX6_of_15 (by decide) ?_
  by_cases c16 : nI 0 ≤ w ∧ w ≤ nI 4
  · rw [show bI (nI 0 ≤ w ∧ w ≤ nI 4) = nI 1 from (bI_1 c16).symm]
    obtain ⟨x9, hx9, rfl⟩ := ff_of (by decide) c16
    refine Ci.callV (As := [.int (nI 1), .int (nI 1)]) (rest := []) (wr := [(m1, oI cI 60 KP), (m2, oI cI 60 KL), (m3, oI cI 5400 KR), (m4, oI cI 12 KM), (m5, oI cI 12 KN), (m6, oI cI 60 KS), (m7, oI cI 60 KB), (m8, oI cI 12 KT), (m9, oI cI 61 KE), (m10, oI cI 61 KF), (m11, oI cI 61 KX)]) (wn := (fun _ => [(m0, .inr (6, [.int (nI 0), .int (nI n), .ref m1, .ref m2, .int (nI rn), .ref m3, .int (nI mn), .ref m4, .ref m5, .int (nI pn), .ref m6, .int (nI sn), .int co, .ref m7, .ref m8, .ref m9, .ref m10, .ref m11])), (m1, oI cI 60 KP), (m2, oI cI 60 KL), (m3, oI cI 5400 KR), (m4, oI cI 12 KM), (m5, oI cI 12 KN), (m6, oI cI 60 KS), (m7, oI cI 60 KB), (m8, oI cI 12 KT), (m9, oI cI 61 KE), (m10, oI cI 61 KF), (m11, oI cI 61 KX)])) (cv_X6_76 hg ⟨Nat.le_of_ble_eq_true rfl, Nat.le_of_ble_eq_true rfl⟩) (k_go1 l D cI m0 (.int (nI n)) (.ref m1) (.ref m2) (.int (nI rn)) (.ref m3) (.int (nI mn)) (.ref m4) (.ref m5) (.int (nI pn)) (.ref m6) (.int (nI sn)) (.int co) (.ref m7) (.ref m8) (.ref m9) (.ref m10) (.ref m11) (nI 1)) cx hK hP hD hA [0] [1, 2, 3, 4, 5, 6, 7, 8, 9, 10, 11] [11, 0, 1, 2, 3, 4, 5, 6, 7, 8, 9, 10] rfl rfl (by decide) (fun _ => rfl) (rq := 0) rfl rfl rfl hS rfl hl.1 rfl (Nat.le_of_ble_eq_true rfl) dX6_of_16 ⟨Nat.le_refl _, Nat.le_refl _⟩ (fun H locs r16 _ p16 hP hD hS => ?_)
    subst p16
    refine lv_if_ne (tgt := 24) hx hb dX6_of_19 (by decide) (fun _ => ?_) (fun h9 => absurd h9 (by decide))
    refine lv_iload_n hx hb dX6_of_24 rfl (lv_at hl 1 rfl) ?_
    refine lv_if_ne (tgt := 35) hx hb dX6_of_25 (by decide) (fun c25 => ?_) (fun c25 => ?_)
    · have c25 := mt (nz_eq (by omega)).mpr c25
      refine lv_iload_n hx hb dX6_of_35 rfl (lv_at hl 1 rfl) ?_
      refine lv_iconst (v := nI 1) hx hb dX6_of_36 (by decide) ?_
      refine lv_icmp_ne (tgt := 47) hx hb dX6_of_37 (by decide) (fun c37 => ?_) (fun c37 => ?_)
      · have c37 := mt (nI_eq (by omega) (by omega)).mpr c37
        refine lv_iload_n hx hb dX6_of_47 rfl (lv_at hl 1 rfl) ?_
        refine lv_iconst (v := nI 2) hx hb dX6_of_48 (by decide) ?_
        refine lv_icmp_ne (tgt := 59) hx hb dX6_of_49 (by decide) (fun c49 => ?_) (fun c49 => ?_)
        · have c49 := mt (nI_eq (by omega) (by omega)).mpr c49
          refine lv_iload_n hx hb dX6_of_59 rfl (lv_at hl 1 rfl) ?_
          refine lv_iconst (v := nI 3) hx hb dX6_of_60 (by decide) ?_
          refine lv_icmp_ne (tgt := 71) hx hb dX6_of_61 (by decide) (fun c61 => ?_) (fun c61 => ?_)
          · have c61 := mt (nI_eq (by omega) (by omega)).mpr c61
            refine lv_aload_n hx hb dX6_of_71 rfl (lv_at hl 0 rfl) ?_
            refine gf_X6_53 hx hb hg hown hK hP 0 rfl rfl dX6_of_72 ?_
            exact hret _ _ 75 _ _ ((ff_N (n) (rn) (mn) (pn) (sn) 0, ff_Z (nI 0) (co), ff_A14 (KP) (KL) (KR) (KM) (KN) (KS) (KB) (KT) (KE) (KF) (KX) (KX) (KX) (KX))) (Or.inr ⟨⟨x9, hx9, rfl⟩, by rw [cl_n (by omega)]; (repeat (first | rw [if_pos (by omega)] | rw [if_neg (by omega)])), rfl⟩) hP hD hS dX6_of_75
          · have c61 := (nI_eq (by omega) (by omega)).mp c61
            refine lv_aload_n hx hb dX6_of_64 rfl (lv_at hl 0 rfl) ?_
            refine gf_X6_59 hx hb hg hown hK hP 0 rfl rfl dX6_of_65 ?_
            refine lv_goto (tgt := 75) hx hb dX6_of_68 (by decide) ?_
            exact hret _ _ 75 _ _ ((ff_N (n) (rn) (mn) (pn) (sn) 0, ff_Z (nI 0) (co), ff_A14 (KP) (KL) (KR) (KM) (KN) (KS) (KB) (KT) (KE) (KF) (KX) (KX) (KX) (KX))) (Or.inr ⟨⟨x9, hx9, rfl⟩, by rw [cl_n (by omega)]; (repeat (first | rw [if_pos (by omega)] | rw [if_neg (by omega)])), rfl⟩) hP hD hS dX6_of_75
        · have c49 := (nI_eq (by omega) (by omega)).mp c49
          refine lv_aload_n hx hb dX6_of_52 rfl (lv_at hl 0 rfl) ?_
          refine gf_X6_65 hx hb hg hown hK hP 0 rfl rfl dX6_of_53 ?_
          refine lv_goto (tgt := 75) hx hb dX6_of_56 (by decide) ?_
          exact hret _ _ 75 _ _ ((ff_N (n) (rn) (mn) (pn) (sn) 0, ff_Z (nI 0) (co), ff_A14 (KP) (KL) (KR) (KM) (KN) (KS) (KB) (KT) (KE) (KF) (KX) (KX) (KX) (KX))) (Or.inr ⟨⟨x9, hx9, rfl⟩, by rw [cl_n (by omega)]; (repeat (first | rw [if_pos (by omega)] | rw [if_neg (by omega)])), rfl⟩) hP hD hS dX6_of_75
      · have c37 := (nI_eq (by omega) (by omega)).mp c37
        refine lv_aload_n hx hb dX6_of_40 rfl (lv_at hl 0 rfl) ?_
        refine gf_X6_56 hx hb hg hown hK hP 0 rfl rfl dX6_of_41 ?_
        refine lv_goto (tgt := 75) hx hb dX6_of_44 (by decide) ?_
        exact hret _ _ 75 _ _ ((ff_N (n) (rn) (mn) (pn) (sn) 0, ff_Z (nI 0) (co), ff_A14 (KP) (KL) (KR) (KM) (KN) (KS) (KB) (KT) (KE) (KF) (KX) (KX) (KX) (KX))) (Or.inr ⟨⟨x9, hx9, rfl⟩, by rw [cl_n (by omega)]; (repeat (first | rw [if_pos (by omega)] | rw [if_neg (by omega)])), rfl⟩) hP hD hS dX6_of_75
    · have c25 := (nz_eq (by omega)).mp c25
      refine lv_aload_n hx hb dX6_of_28 rfl (lv_at hl 0 rfl) ?_
      refine gf_X6_50 hx hb hg hown hK hP 0 rfl rfl dX6_of_29 ?_
      refine lv_goto (tgt := 75) hx hb dX6_of_32 (by decide) ?_
      exact hret _ _ 75 _ _ ((ff_N (n) (rn) (mn) (pn) (sn) 0, ff_Z (nI 0) (co), ff_A14 (KP) (KL) (KR) (KM) (KN) (KS) (KB) (KT) (KE) (KF) (KX) (KX) (KX) (KX))) (Or.inr ⟨⟨x9, hx9, rfl⟩, by rw [cl_n (by omega)]; (repeat (first | rw [if_pos (by omega)] | rw [if_neg (by omega)])), rfl⟩) hP hD hS dX6_of_75
  · rw [show bI (nI 0 ≤ w ∧ w ≤ nI 4) = nI 0 from (bI_0 c16).symm]
    refine Ci.callV (As := [.int (nI 0), .int (nI 1)]) (rest := []) (wr := [(m1, oI cI 60 KP), (m2, oI cI 60 KL), (m3, oI cI 5400 KR), (m4, oI cI 12 KM), (m5, oI cI 12 KN), (m6, oI cI 60 KS), (m7, oI cI 60 KB), (m8, oI cI 12 KT), (m9, oI cI 61 KE), (m10, oI cI 61 KF), (m11, oI cI 61 KX)]) (wn := (fun _ => [(m0, .inr (6, [.int ((nI 1)), .int (nI n), .ref m1, .ref m2, .int (nI rn), .ref m3, .int (nI mn), .ref m4, .ref m5, .int (nI pn), .ref m6, .int (nI sn), .int co, .ref m7, .ref m8, .ref m9, .ref m10, .ref m11])), (m1, oI cI 60 KP), (m2, oI cI 60 KL), (m3, oI cI 5400 KR), (m4, oI cI 12 KM), (m5, oI cI 12 KN), (m6, oI cI 60 KS), (m7, oI cI 60 KB), (m8, oI cI 12 KT), (m9, oI cI 61 KE), (m10, oI cI 61 KF), (m11, oI cI 61 KX)])) (cv_X6_76 hg ⟨Nat.le_of_ble_eq_true rfl, Nat.le_of_ble_eq_true rfl⟩) (k_go0 l D cI m0 (.int (nI n)) (.ref m1) (.ref m2) (.int (nI rn)) (.ref m3) (.int (nI mn)) (.ref m4) (.ref m5) (.int (nI pn)) (.ref m6) (.int (nI sn)) (.int co) (.ref m7) (.ref m8) (.ref m9) (.ref m10) (.ref m11) 1 (by decide) (by decide)) cx hK hP hD hA [0] [1, 2, 3, 4, 5, 6, 7, 8, 9, 10, 11] [11, 0, 1, 2, 3, 4, 5, 6, 7, 8, 9, 10] rfl rfl (by decide) (fun _ => rfl) (rq := 0) rfl rfl rfl hS rfl hl.1 rfl (Nat.le_of_ble_eq_true rfl) dX6_of_16 ⟨Nat.le_refl _, Nat.le_refl _⟩ (fun H locs r16 _ p16 hP hD hS => ?_)
    subst p16
    refine lv_if_ne (tgt := 24) hx hb dX6_of_19 (by decide) (fun h9 => absurd (by decide) h9) (fun _ => ?_)
    refine lv_iconst (v := nI 0) hx hb dX6_of_22 (by decide) ?_
    exact hret _ _ 23 _ _ ((ff_N (n) (rn) (mn) (pn) (sn) 0, ff_Z ((nI 1)) (co), ff_A14 (KP) (KL) (KR) (KM) (KN) (KS) (KB) (KT) (KE) (KF) (KX) (KX) (KX) (KX))) (Or.inl ⟨fun ⟨v, hv, e9⟩ => c16 (by rw [e9]; exact ff_le hv (by decide)), rfl, rfl⟩) hP hD hS dX6_of_23
