theorem ff_w5 {C F LC FW FE : Nat → Int32} {s t : Nat} (h : LC s = (ff_bs C F s t).1 ∧ FW s = (ff_bs C F s t).2.1 ∧ FE s = nI (ff_bs C F s t).2.2) (ht : ¬ t = 0) (c : ¬ (C (t + 1) < LC s ∨ (C (t + 1) = LC s ∧ F (t + 1) < FW s))) : upd LC s (LC s) s = (ff_bs C F s (t + 1)).1 ∧ upd FW s (FW s) s = (ff_bs C F s (t + 1)).2.1 ∧ upd FE s (FE s) s = nI (ff_bs C F s (t + 1)).2.2 := by
  rw [pk_us, pk_us, pk_us]
  exact ff_w4 h ht c
theorem ff_chn {E : Nat → Nat} {n z k : Nat} (hk : k ≤ z) (h3 : ff_ch E z 0 = n) (h4 : ∀ t, t < z → ff_ch E t 0 < n) : ff_ch E k 0 ≤ n := by
  rcases Nat.lt_or_ge k z with h | h
  · exact Nat.le_of_lt (h4 k h)
  · rw [show k = z by omega, h3]; exact Nat.le_refl _
theorem ff_chz {E : Nat → Nat} {n z k : Nat} (hk : k ≤ z) (h4 : ∀ t, t < z → ff_ch E t 0 < n) (c : n ≤ ff_ch E k 0) : k = z := by
  rcases Nat.lt_or_ge k z with h | h
  · have := h4 k h
    omega
  · omega
theorem ff_chl {E : Nat → Nat} {n z k : Nat} (hk : k ≤ z) (h3 : ff_ch E z 0 = n) (c : ff_ch E k 0 < n) : k < z := by
  rcases Nat.lt_or_ge k z with h | h
  · exact h
  · rw [show k = z by omega, h3] at c
    exact absurd c (Nat.lt_irrefl _)
/-- the best depend on the pitches of the notes alone -/
theorem ff_mx_congr {P P' : Nat → Int32} {s : Nat} (h0 : P s = P' s) : ∀ t, (∀ x, x < t → P (s + x) = P' (s + x)) → ff_mx P s t = ff_mx P' s t ∧ ff_mn P s t = ff_mn P' s t
  | 0, _ => ⟨h0, h0⟩
  | t + 1, h => by
    obtain ⟨e1, e2⟩ := ff_mx_congr h0 t (fun x hx => h x (by omega))
    have e := h t (by omega)
    unfold ff_mx ff_mn
    rw [e1, e2, e]
    exact ⟨rfl, rfl⟩
theorem ff_D_congr {P P' : Nat → Int32} {n : Nat} {base bw : Int32} (h : ∀ t, t < n → P t = P' t) : ∀ k, k ≤ n → ff_D P n base bw k = ff_D P' n base bw k
  | 0, _ => rfl
  | k + 1, hk => by
    have ih := ff_D_congr (base := base) (bw := bw) h k (by omega)
    have e : ff_bs (ff_C base bw P (ff_D P' n base bw k).1 (n - 1 - k)) (ff_W (ff_D P' n base bw k).2.1 (n - 1 - k)) (n - 1 - k) (k + 1) = ff_bs (ff_C base bw P' (ff_D P' n base bw k).1 (n - 1 - k)) (ff_W (ff_D P' n base bw k).2.1 (n - 1 - k)) (n - 1 - k) (k + 1) := by
      refine ff_bs_congr (fun x h1 h2 => ⟨?_, rfl⟩)
      obtain ⟨e1, e2⟩ := ff_mx_congr (P := P) (P' := P') (s := n - 1 - k) (h _ (by omega)) x (fun y hy => h _ (by omega))
      unfold ff_C
      rw [e1, e2]
    unfold ff_D
    rw [ih, e]
set_option maxHeartbeats 4000000 in
set_option maxRecDepth 100000 in
theorem c_sections (l : Launch) (D : va_G) (cI : ClassId) (m0 m1 m2 m3 m4 m5 m6 m7 m8 m9 m10 m11 : Nat) (th co : Int32) (n rn mn pn sn : Nat) (KP KL KR KM KN KS KB KT KE KF KX : Nat → Int32) (hn : n ≤ 60) (hmn : mn ≤ 12) (base bw : Int32) (hR : ∀ t, t < n → 0 ≤ (KP t).toInt ∧ (KP t).toInt ≤ 127) : Ci l yX6_sections cX6_sections 8 (some .int) 2 0 0 D (tI cI) [.ref m0, .int base, .int bw] [(m0, .inr (6, [.int th, .int (nI n), .ref m1, .ref m2, .int (nI rn), .ref m3, .int (nI mn), .ref m4, .ref m5, .int (nI pn), .ref m6, .int (nI sn), .int co, .ref m7, .ref m8, .ref m9, .ref m10, .ref m11])), (m1, oI cI 60 KP), (m2, oI cI 60 KL), (m3, oI cI 5400 KR), (m4, oI cI 12 KM), (m5, oI cI 12 KN), (m6, oI cI 60 KS), (m7, oI cI 60 KB), (m8, oI cI 12 KT), (m9, oI cI 61 KE), (m10, oI cI 61 KF), (m11, oI cI 61 KX)] (S := ff_S) (fun r u => (¬ okSe base bw ∧ r = nI 0 ∧ u = (ff_N (n) (rn) (mn) (pn) (sn) 0, ff_Z ((nI 1)) (co), ff_A14 (KP) (KL) (KR) (KM) (KN) (KS) (KB) (KT) (KE) (KF) (KX) (KX) (KX) (KX))) ∨ (okSe base bw ∧ r = nI (ff_sn KP n base bw) ∧ ∃ u1 u2 u3 u4 : Nat → Int32, (∀ t, t < ff_sn KP n base bw → u1 t = nI (ff_ch (ff_D KP n base bw n).2.2 t 0)) ∧ u = (ff_N (n) (rn) (mn) (pn) (ff_sn KP n base bw) 0, ff_Z ((nI 0)) (((ff_D KP n base bw n).1 0)), ff_A14 (KP) (KL) (KR) (KM) (KN) (KS) (u1) (KT) (u2) (u3) (u4) (u4) (u4) (u4)))) (fun u => [(m0, .inr (6, [.int ((u.2.1 0)), .int (nI (u.1 0)), .ref m1, .ref m2, .int (nI (u.1 1)), .ref m3, .int (nI (u.1 2)), .ref m4, .ref m5, .int (nI (u.1 3)), .ref m6, .int (nI (u.1 4)), .int ((u.2.1 1)), .ref m7, .ref m8, .ref m9, .ref m10, .ref m11])), (m1, oI cI 60 (u.2.2 0)), (m2, oI cI 60 (u.2.2 1)), (m3, oI cI 5400 (u.2.2 2)), (m4, oI cI 12 (u.2.2 3)), (m5, oI cI 12 (u.2.2 4)), (m6, oI cI 60 (u.2.2 5)), (m7, oI cI 60 (u.2.2 6)), (m8, oI cI 12 (u.2.2 7)), (m9, oI cI 61 (u.2.2 8)), (m10, oI cI 61 (u.2.2 9)), (m11, oI cI 61 (u.2.2 10))]) := by
  refine Ci.of (own := RX6) (lv := [(0, .ref m0), (1, .int base), (2, .int bw)]) (by decide +kernel) rfl (Nat.le_of_ble_eq_true rfl) rfl (fun x u h => vp_nar_int _) ?_
  intro p e s m args below meth c Q A cx hK hP hD hA hret ls hl
  obtain ⟨hx, hb, hml, hown, hg⟩ := id cx
  have hS : va_S A s.heap s.heap [] := va_S.rf
  refine lv_aload_n hx hb dX6_sections_0 rfl (lv_at hl 0 rfl) ?_
  refine lv_iconst (v := nI 0) hx hb dX6_sections_1 (by decide) ?_
  refine pf_X6_46 hx hb hg hown hK hP hD hS 0 rfl (Nat.le_of_ble_eq_true rfl) dX6_sections_2 (fun H locs hP hD hS => ?_)
  have hP : va_P D vwCl [(m0, .inr (6, [.int (nI 0), .int (nI n), .ref m1, .ref m2, .int (nI rn), .ref m3, .int (nI mn), .ref m4, .ref m5, .int (nI pn), .ref m6, .int (nI sn), .int co, .ref m7, .ref m8, .ref m9, .ref m10, .ref m11])), (m1, oI cI 60 KP), (m2, oI cI 60 KL), (m3, oI cI 5400 KR), (m4, oI cI 12 KM), (m5, oI cI 12 KN), (m6, oI cI 60 KS), (m7, oI cI 60 KB), (m8, oI cI 12 KT), (m9, oI cI 61 KE), (m10, oI cI 61 KF), (m11, oI cI 61 KX)] H := hP
  have hD : va_D A [(m0, .inr (6, [.int (nI 0), .int (nI n), .ref m1, .ref m2, .int (nI rn), .ref m3, .int (nI mn), .ref m4, .ref m5, .int (nI pn), .ref m6, .int (nI sn), .int co, .ref m7, .ref m8, .ref m9, .ref m10, .ref m11])), (m1, oI cI 60 KP), (m2, oI cI 60 KL), (m3, oI cI 5400 KR), (m4, oI cI 12 KM), (m5, oI cI 12 KN), (m6, oI cI 60 KS), (m7, oI cI 60 KB), (m8, oI cI 12 KT), (m9, oI cI 61 KE), (m10, oI cI 61 KF), (m11, oI cI 61 KX)] := hD
  refine lv_aload_n hx hb dX6_sections_5 rfl (lv_at hl 0 rfl) ?_
  refine lv_iload_n hx hb dX6_sections_6 rfl (lv_at hl 1 rfl) ?_
  refine lv_i2l hx hb dX6_sections_7 rfl ?_
  refine lv_lconst (v := 0) hx hb dX6_sections_8 (by decide) ?_
  refine lv_ldc2 (v := 1000) hx hb hown (hg _ wd_cl_X6_122) dX6_sections_9 ?_
  refine Cp.callS (As := [.long ((Int32.toInt64 (base))), .long ((0 : Int64)), .long ((1000 : Int64))]) (rest := [.ref m0]) (cv_X6_70 hg ⟨Nat.le_of_ble_eq_true rfl, Nat.le_of_ble_eq_true rfl⟩) (k_isIn32 l D cI [] (base) (nI 0) (nI 1000) _ _ (by decide) (by decide)) cx hK hP [] rfl hS rfl hl.1 rfl (Nat.le_of_ble_eq_true rfl) dX6_sections_12 ⟨Nat.zero_le _, Nat.zero_le _⟩ (fun H locs hP hS => ?_)
  refine lv_if_eq (tgt := 34) hx hb dX6_sections_15 (by decide) (fun c15 => ?_) (fun c15 => ?_)
  · have c15 := bI_z.mp c15
    refine lv_iconst (v := nI 0) hx hb dX6_sections_34 (by decide) ?_
    refine lv_iconst (v := nI 1) hx hb dX6_sections_35 (by decide) ?_
    refine Ci.callV (As := [.int (nI 0), .int (nI 1)]) (rest := []) (wr := [(m1, oI cI 60 KP), (m2, oI cI 60 KL), (m3, oI cI 5400 KR), (m4, oI cI 12 KM), (m5, oI cI 12 KN), (m6, oI cI 60 KS), (m7, oI cI 60 KB), (m8, oI cI 12 KT), (m9, oI cI 61 KE), (m10, oI cI 61 KF), (m11, oI cI 61 KX)]) (wn := (fun _ => [(m0, .inr (6, [.int ((nI 1)), .int (nI n), .ref m1, .ref m2, .int (nI rn), .ref m3, .int (nI mn), .ref m4, .ref m5, .int (nI pn), .ref m6, .int (nI sn), .int co, .ref m7, .ref m8, .ref m9, .ref m10, .ref m11])), (m1, oI cI 60 KP), (m2, oI cI 60 KL), (m3, oI cI 5400 KR), (m4, oI cI 12 KM), (m5, oI cI 12 KN), (m6, oI cI 60 KS), (m7, oI cI 60 KB), (m8, oI cI 12 KT), (m9, oI cI 61 KE), (m10, oI cI 61 KF), (m11, oI cI 61 KX)])) (cv_X6_76 hg ⟨Nat.le_of_ble_eq_true rfl, Nat.le_of_ble_eq_true rfl⟩) (k_go0 l D cI m0 (.int (nI n)) (.ref m1) (.ref m2) (.int (nI rn)) (.ref m3) (.int (nI mn)) (.ref m4) (.ref m5) (.int (nI pn)) (.ref m6) (.int (nI sn)) (.int co) (.ref m7) (.ref m8) (.ref m9) (.ref m10) (.ref m11) 1 (by decide) (by decide)) cx hK hP hD hA [0] [1, 2, 3, 4, 5, 6, 7, 8, 9, 10, 11] [11, 0, 1, 2, 3, 4, 5, 6, 7, 8, 9, 10] rfl rfl (by decide) (fun _ => rfl) (rq := 0) rfl rfl rfl hS rfl hl.1 rfl (Nat.le_of_ble_eq_true rfl) dX6_sections_36 ⟨Nat.le_refl _, Nat.le_refl _⟩ (fun H locs r36 _ p36 hP hD hS => ?_)
    subst p36
    refine lv_if_ne (tgt := 44) hx hb dX6_sections_39 (by decide) (fun h9 => absurd (by decide) h9) (fun _ => ?_)
    refine lv_iconst (v := nI 0) hx hb dX6_sections_42 (by decide) ?_
    exact hret _ _ 43 _ _ ((ff_N (n) (rn) (mn) (pn) (sn) 0, ff_Z ((nI 1)) (co), ff_A14 (KP) (KL) (KR) (KM) (KN) (KS) (KB) (KT) (KE) (KF) (KX) (KX) (KX) (KX))) (Or.inl ⟨fun h => by first | exact c15 h.1 | exact c27 h.2, rfl, rfl⟩) hP hD hS dX6_sections_43
  · have c15 := bI_nz.mp c15
    refine lv_iload_n hx hb dX6_sections_18 rfl (lv_at hl 2 rfl) ?_
    refine lv_i2l hx hb dX6_sections_19 rfl ?_
    refine lv_lconst (v := 0) hx hb dX6_sections_20 (by decide) ?_
    refine lv_ldc2 (v := 100) hx hb hown (hg _ wd_cl_X6_124) dX6_sections_21 ?_
    refine Cp.callS (As := [.long ((Int32.toInt64 (bw))), .long ((0 : Int64)), .long ((100 : Int64))]) (rest := [.ref m0]) (cv_X6_70 hg ⟨Nat.le_of_ble_eq_true rfl, Nat.le_of_ble_eq_true rfl⟩) (k_isIn32 l D cI [] (bw) (nI 0) (nI 100) _ _ (by decide) (by decide)) cx hK hP [] rfl hS rfl hl.1 rfl (Nat.le_of_ble_eq_true rfl) dX6_sections_24 ⟨Nat.zero_le _, Nat.zero_le _⟩ (fun H locs hP hS => ?_)
    refine lv_if_eq (tgt := 34) hx hb dX6_sections_27 (by decide) (fun c27 => ?_) (fun c27 => ?_)
    · have c27 := bI_z.mp c27
      refine lv_iconst (v := nI 0) hx hb dX6_sections_34 (by decide) ?_
      refine lv_iconst (v := nI 1) hx hb dX6_sections_35 (by decide) ?_
      refine Ci.callV (As := [.int (nI 0), .int (nI 1)]) (rest := []) (wr := [(m1, oI cI 60 KP), (m2, oI cI 60 KL), (m3, oI cI 5400 KR), (m4, oI cI 12 KM), (m5, oI cI 12 KN), (m6, oI cI 60 KS), (m7, oI cI 60 KB), (m8, oI cI 12 KT), (m9, oI cI 61 KE), (m10, oI cI 61 KF), (m11, oI cI 61 KX)]) (wn := (fun _ => [(m0, .inr (6, [.int ((nI 1)), .int (nI n), .ref m1, .ref m2, .int (nI rn), .ref m3, .int (nI mn), .ref m4, .ref m5, .int (nI pn), .ref m6, .int (nI sn), .int co, .ref m7, .ref m8, .ref m9, .ref m10, .ref m11])), (m1, oI cI 60 KP), (m2, oI cI 60 KL), (m3, oI cI 5400 KR), (m4, oI cI 12 KM), (m5, oI cI 12 KN), (m6, oI cI 60 KS), (m7, oI cI 60 KB), (m8, oI cI 12 KT), (m9, oI cI 61 KE), (m10, oI cI 61 KF), (m11, oI cI 61 KX)])) (cv_X6_76 hg ⟨Nat.le_of_ble_eq_true rfl, Nat.le_of_ble_eq_true rfl⟩) (k_go0 l D cI m0 (.int (nI n)) (.ref m1) (.ref m2) (.int (nI rn)) (.ref m3) (.int (nI mn)) (.ref m4) (.ref m5) (.int (nI pn)) (.ref m6) (.int (nI sn)) (.int co) (.ref m7) (.ref m8) (.ref m9) (.ref m10) (.ref m11) 1 (by decide) (by decide)) cx hK hP hD hA [0] [1, 2, 3, 4, 5, 6, 7, 8, 9, 10, 11] [11, 0, 1, 2, 3, 4, 5, 6, 7, 8, 9, 10] rfl rfl (by decide) (fun _ => rfl) (rq := 0) rfl rfl rfl hS rfl hl.1 rfl (Nat.le_of_ble_eq_true rfl) dX6_sections_36 ⟨Nat.le_refl _, Nat.le_refl _⟩ (fun H locs r36 _ p36 hP hD hS => ?_)
      subst p36
      refine lv_if_ne (tgt := 44) hx hb dX6_sections_39 (by decide) (fun h9 => absurd (by decide) h9) (fun _ => ?_)
      refine lv_iconst (v := nI 0) hx hb dX6_sections_42 (by decide) ?_
      exact hret _ _ 43 _ _ ((ff_N (n) (rn) (mn) (pn) (sn) 0, ff_Z ((nI 1)) (co), ff_A14 (KP) (KL) (KR) (KM) (KN) (KS) (KB) (KT) (KE) (KF) (KX) (KX) (KX) (KX))) (Or.inl ⟨fun h => by first | exact c15 h.1 | exact c27 h.2, rfl, rfl⟩) hP hD hS dX6_sections_43
    · have c27 := bI_nz.mp c27
      refine lv_iconst (v := nI 1) hx hb dX6_sections_30 (by decide) ?_
      refine lv_goto (tgt := 35) hx hb dX6_sections_31 (by decide) ?_
      refine lv_iconst (v := nI 1) hx hb dX6_sections_35 (by decide) ?_
      refine Ci.callV (As := [.int (nI 1), .int (nI 1)]) (rest := []) (wr := [(m1, oI cI 60 KP), (m2, oI cI 60 KL), (m3, oI cI 5400 KR), (m4, oI cI 12 KM), (m5, oI cI 12 KN), (m6, oI cI 60 KS), (m7, oI cI 60 KB), (m8, oI cI 12 KT), (m9, oI cI 61 KE), (m10, oI cI 61 KF), (m11, oI cI 61 KX)]) (wn := (fun _ => [(m0, .inr (6, [.int (nI 0), .int (nI n), .ref m1, .ref m2, .int (nI rn), .ref m3, .int (nI mn), .ref m4, .ref m5, .int (nI pn), .ref m6, .int (nI sn), .int co, .ref m7, .ref m8, .ref m9, .ref m10, .ref m11])), (m1, oI cI 60 KP), (m2, oI cI 60 KL), (m3, oI cI 5400 KR), (m4, oI cI 12 KM), (m5, oI cI 12 KN), (m6, oI cI 60 KS), (m7, oI cI 60 KB), (m8, oI cI 12 KT), (m9, oI cI 61 KE), (m10, oI cI 61 KF), (m11, oI cI 61 KX)])) (cv_X6_76 hg ⟨Nat.le_of_ble_eq_true rfl, Nat.le_of_ble_eq_true rfl⟩) (k_go1 l D cI m0 (.int (nI n)) (.ref m1) (.ref m2) (.int (nI rn)) (.ref m3) (.int (nI mn)) (.ref m4) (.ref m5) (.int (nI pn)) (.ref m6) (.int (nI sn)) (.int co) (.ref m7) (.ref m8) (.ref m9) (.ref m10) (.ref m11) (nI 1)) cx hK hP hD hA [0] [1, 2, 3, 4, 5, 6, 7, 8, 9, 10, 11] [11, 0, 1, 2, 3, 4, 5, 6, 7, 8, 9, 10] rfl rfl (by decide) (fun _ => rfl) (rq := 0) rfl rfl rfl hS rfl hl.1 rfl (Nat.le_of_ble_eq_true rfl) dX6_sections_36 ⟨Nat.le_refl _, Nat.le_refl _⟩ (fun H locs r36 _ p36 hP hD hS => ?_)
      subst p36
      refine lv_if_ne (tgt := 44) hx hb dX6_sections_39 (by decide) (fun _ => ?_) (fun h9 => absurd h9 (by decide))
      refine lv_aload_n hx hb dX6_sections_44 rfl (lv_at hl 0 rfl) ?_
      refine gf_X6_34 hx hb hg hown hK hP 0 rfl rfl dX6_sections_45 ?_
      refine lv_aload_n hx hb dX6_sections_48 rfl (lv_at hl 0 rfl) ?_
      refine gf_X6_50 hx hb hg hown hK hP 0 rfl rfl dX6_sections_49 ?_
      refine lv_iconst (v := nI 0) hx hb dX6_sections_52 (by decide) ?_
      refine ast hx hb hK hP hD hS 9 rfl rfl (by omega) dX6_sections_53 (fun H locs hP hD hS => ?_)
      have hP : va_P D vwCl [(m0, .inr (6, [.int (nI 0), .int (nI n), .ref m1, .ref m2, .int (nI rn), .ref m3, .int (nI mn), .ref m4, .ref m5, .int (nI pn), .ref m6, .int (nI sn), .int co, .ref m7, .ref m8, .ref m9, .ref m10, .ref m11])), (m1, oI cI 60 KP), (m2, oI cI 60 KL), (m3, oI cI 5400 KR), (m4, oI cI 12 KM), (m5, oI cI 12 KN), (m6, oI cI 60 KS), (m7, oI cI 60 KB), (m8, oI cI 12 KT), (m9, oI cI 61 (upd KE n (nI 0))), (m10, oI cI 61 KF), (m11, oI cI 61 KX)] H := hP
      have hD : va_D A [(m0, .inr (6, [.int (nI 0), .int (nI n), .ref m1, .ref m2, .int (nI rn), .ref m3, .int (nI mn), .ref m4, .ref m5, .int (nI pn), .ref m6, .int (nI sn), .int co, .ref m7, .ref m8, .ref m9, .ref m10, .ref m11])), (m1, oI cI 60 KP), (m2, oI cI 60 KL), (m3, oI cI 5400 KR), (m4, oI cI 12 KM), (m5, oI cI 12 KN), (m6, oI cI 60 KS), (m7, oI cI 60 KB), (m8, oI cI 12 KT), (m9, oI cI 61 (upd KE n (nI 0))), (m10, oI cI 61 KF), (m11, oI cI 61 KX)] := hD
      refine lv_aload_n hx hb dX6_sections_54 rfl (lv_at hl 0 rfl) ?_
      refine gf_X6_37 hx hb hg hown hK hP 0 rfl rfl dX6_sections_55 ?_
      refine lv_aload_n hx hb dX6_sections_58 rfl (lv_at hl 0 rfl) ?_
      refine gf_X6_50 hx hb hg hown hK hP 0 rfl rfl dX6_sections_59 ?_
      refine lv_iconst (v := nI 0) hx hb dX6_sections_62 (by decide) ?_
      refine ast hx hb hK hP hD hS 10 rfl rfl (by omega) dX6_sections_63 (fun H locs hP hD hS => ?_)
      have hP : va_P D vwCl [(m0, .inr (6, [.int (nI 0), .int (nI n), .ref m1, .ref m2, .int (nI rn), .ref m3, .int (nI mn), .ref m4, .ref m5, .int (nI pn), .ref m6, .int (nI sn), .int co, .ref m7, .ref m8, .ref m9, .ref m10, .ref m11])), (m1, oI cI 60 KP), (m2, oI cI 60 KL), (m3, oI cI 5400 KR), (m4, oI cI 12 KM), (m5, oI cI 12 KN), (m6, oI cI 60 KS), (m7, oI cI 60 KB), (m8, oI cI 12 KT), (m9, oI cI 61 (upd KE n (nI 0))), (m10, oI cI 61 (upd KF n (nI 0))), (m11, oI cI 61 KX)] H := hP
      have hD : va_D A [(m0, .inr (6, [.int (nI 0), .int (nI n), .ref m1, .ref m2, .int (nI rn), .ref m3, .int (nI mn), .ref m4, .ref m5, .int (nI pn), .ref m6, .int (nI sn), .int co, .ref m7, .ref m8, .ref m9, .ref m10, .ref m11])), (m1, oI cI 60 KP), (m2, oI cI 60 KL), (m3, oI cI 5400 KR), (m4, oI cI 12 KM), (m5, oI cI 12 KN), (m6, oI cI 60 KS), (m7, oI cI 60 KB), (m8, oI cI 12 KT), (m9, oI cI 61 (upd KE n (nI 0))), (m10, oI cI 61 (upd KF n (nI 0))), (m11, oI cI 61 KX)] := hD
      refine lv_aload_n hx hb dX6_sections_64 rfl (lv_at hl 0 rfl) ?_
      refine gf_X6_50 hx hb hg hown hK hP 0 rfl rfl dX6_sections_65 ?_
      refine lv_iconst (v := nI 1) hx hb dX6_sections_68 (by decide) ?_
      refine lv_isub hx hb dX6_sections_69 ?_
      refine lv_istore_n (lv' := [(3, .int ((nI n - nI 1))), (0, .ref m0), (1, .int base), (2, .int bw)]) hx hb dX6_sections_70 rfl hl (by decide) rfl (fun ls hl => ?_)
      have lp_71 : ∀ (k : Nat) (d : Nat) (LC : Nat → Int32) (FW : Nat → Int32) (FE : Nat → Int32) (H : Heap) (locs : List Loc) (ls : Array Slot), (d ≤ n) → (ff_Dok KP n base bw (n - d) LC FW FE) → (d < k) → va_P D vwCl [(m0, .inr (6, [.int ((nI 0)), .int (nI n), .ref m1, .ref m2, .int (nI rn), .ref m3, .int (nI mn), .ref m4, .ref m5, .int (nI pn), .ref m6, .int (nI sn), .int co, .ref m7, .ref m8, .ref m9, .ref m10, .ref m11])), (m1, oI cI 60 KP), (m2, oI cI 60 KL), (m3, oI cI 5400 KR), (m4, oI cI 12 KM), (m5, oI cI 12 KN), (m6, oI cI 60 KS), (m7, oI cI 60 KB), (m8, oI cI 12 KT), (m9, oI cI 61 LC), (m10, oI cI 61 FW), (m11, oI cI 61 FE)] H → va_D A [(m0, .inr (6, [.int ((nI 0)), .int (nI n), .ref m1, .ref m2, .int (nI rn), .ref m3, .int (nI mn), .ref m4, .ref m5, .int (nI pn), .ref m6, .int (nI sn), .int co, .ref m7, .ref m8, .ref m9, .ref m10, .ref m11])), (m1, oI cI 60 KP), (m2, oI cI 60 KL), (m3, oI cI 5400 KR), (m4, oI cI 12 KM), (m5, oI cI 12 KN), (m6, oI cI 60 KS), (m7, oI cI 60 KB), (m8, oI cI 12 KT), (m9, oI cI 61 LC), (m10, oI cI 61 FW), (m11, oI cI 61 FE)] → va_S A s.heap H locs → lv_has ls 8 [(0, .ref m0), (1, .int base), (2, .int bw), (3, .int ((nI d - nI 1)))] → W p l e (rr 2 0 0) s m args below meth c H locs 0 0 Q (F0 m 71 ls []) := by
        intro k
        induction k with
        | zero =>
          intro d LC FW FE H locs ls hd hdk hk
          exact absurd hk (Nat.not_lt_zero _)
        | succ k ih_71 =>
          intro d LC FW FE H locs ls hd hdk hk hP hD hS hl
          refine lv_iload_n hx hb dX6_sections_71 rfl (lv_at hl 3 rfl) ?_
          refine lv_if_lt (tgt := 245) hx hb dX6_sections_72 (by decide) (fun c72 => ?_) (fun c72 => ?_)
          · skip
            have c72 := (ff_dm (by omega)).mp c72
            subst c72
            rw [Nat.sub_zero] at hdk
            obtain ⟨hz1, hz2, hz3, hz4⟩ := ff_sn_ok KP base bw hn
            refine lv_aload_n hx hb dX6_sections_245 rfl (lv_at hl 0 rfl) ?_
            refine lv_aload_n hx hb dX6_sections_246 rfl (lv_at hl 0 rfl) ?_
            refine gf_X6_34 hx hb hg hown hK hP 0 rfl rfl dX6_sections_247 ?_
            refine lv_iconst (v := nI 0) hx hb dX6_sections_250 (by decide) ?_
            refine ald hx hb hK hP 9 rfl rfl (by omega) dX6_sections_251 ?_
            refine lv_asi (y := ((ff_D KP n base bw n).1 0)) ((hdk 0 (by omega) (by omega)).1) ?_
            refine pf_X6_65 hx hb hg hown hK hP hD hS 0 rfl (Nat.le_of_ble_eq_true rfl) dX6_sections_252 (fun H locs hP hD hS => ?_)
            have hP : va_P D vwCl [(m0, .inr (6, [.int ((nI 0)), .int (nI n), .ref m1, .ref m2, .int (nI rn), .ref m3, .int (nI mn), .ref m4, .ref m5, .int (nI pn), .ref m6, .int (nI sn), .int (((ff_D KP n base bw n).1 0)), .ref m7, .ref m8, .ref m9, .ref m10, .ref m11])), (m1, oI cI 60 KP), (m2, oI cI 60 KL), (m3, oI cI 5400 KR), (m4, oI cI 12 KM), (m5, oI cI 12 KN), (m6, oI cI 60 KS), (m7, oI cI 60 KB), (m8, oI cI 12 KT), (m9, oI cI 61 LC), (m10, oI cI 61 FW), (m11, oI cI 61 FE)] H := hP
            have hD : va_D A [(m0, .inr (6, [.int ((nI 0)), .int (nI n), .ref m1, .ref m2, .int (nI rn), .ref m3, .int (nI mn), .ref m4, .ref m5, .int (nI pn), .ref m6, .int (nI sn), .int (((ff_D KP n base bw n).1 0)), .ref m7, .ref m8, .ref m9, .ref m10, .ref m11])), (m1, oI cI 60 KP), (m2, oI cI 60 KL), (m3, oI cI 5400 KR), (m4, oI cI 12 KM), (m5, oI cI 12 KN), (m6, oI cI 60 KS), (m7, oI cI 60 KB), (m8, oI cI 12 KT), (m9, oI cI 61 LC), (m10, oI cI 61 FW), (m11, oI cI 61 FE)] := hD
            refine lv_aload_n hx hb dX6_sections_255 rfl (lv_at hl 0 rfl) ?_
            refine lv_iconst (v := nI 0) hx hb dX6_sections_256 (by decide) ?_
            refine pf_X6_62 hx hb hg hown hK hP hD hS 0 rfl (Nat.le_of_ble_eq_true rfl) dX6_sections_257 (fun H locs hP hD hS => ?_)
            have hP : va_P D vwCl [(m0, .inr (6, [.int ((nI 0)), .int (nI n), .ref m1, .ref m2, .int (nI rn), .ref m3, .int (nI mn), .ref m4, .ref m5, .int (nI pn), .ref m6, .int (nI 0), .int (((ff_D KP n base bw n).1 0)), .ref m7, .ref m8, .ref m9, .ref m10, .ref m11])), (m1, oI cI 60 KP), (m2, oI cI 60 KL), (m3, oI cI 5400 KR), (m4, oI cI 12 KM), (m5, oI cI 12 KN), (m6, oI cI 60 KS), (m7, oI cI 60 KB), (m8, oI cI 12 KT), (m9, oI cI 61 LC), (m10, oI cI 61 FW), (m11, oI cI 61 FE)] H := hP
            have hD : va_D A [(m0, .inr (6, [.int ((nI 0)), .int (nI n), .ref m1, .ref m2, .int (nI rn), .ref m3, .int (nI mn), .ref m4, .ref m5, .int (nI pn), .ref m6, .int (nI 0), .int (((ff_D KP n base bw n).1 0)), .ref m7, .ref m8, .ref m9, .ref m10, .ref m11])), (m1, oI cI 60 KP), (m2, oI cI 60 KL), (m3, oI cI 5400 KR), (m4, oI cI 12 KM), (m5, oI cI 12 KN), (m6, oI cI 60 KS), (m7, oI cI 60 KB), (m8, oI cI 12 KT), (m9, oI cI 61 LC), (m10, oI cI 61 FW), (m11, oI cI 61 FE)] := hD
            refine lv_iconst (v := nI 0) hx hb dX6_sections_260 (by decide) ?_
            refine lv_istore_n (lv' := [(3, .int (nI 0)), (0, .ref m0), (1, .int base), (2, .int bw)]) hx hb dX6_sections_261 rfl hl (by decide) rfl (fun ls hl => ?_)
            have lp_262 : ∀ (k : Nat) (k9 : Nat) (S9 : Nat → Int32) (H : Heap) (locs : List Loc) (ls : Array Slot), (k9 ≤ ff_sn KP n base bw) → (∀ t, t < k9 → S9 t = nI (ff_ch (ff_D KP n base bw n).2.2 t 0)) → (ff_sn KP n base bw - k9 < k) → va_P D vwCl [(m0, .inr (6, [.int ((nI 0)), .int (nI n), .ref m1, .ref m2, .int (nI rn), .ref m3, .int (nI mn), .ref m4, .ref m5, .int (nI pn), .ref m6, .int (nI k9), .int (((ff_D KP n base bw n).1 0)), .ref m7, .ref m8, .ref m9, .ref m10, .ref m11])), (m1, oI cI 60 KP), (m2, oI cI 60 KL), (m3, oI cI 5400 KR), (m4, oI cI 12 KM), (m5, oI cI 12 KN), (m6, oI cI 60 KS), (m7, oI cI 60 S9), (m8, oI cI 12 KT), (m9, oI cI 61 LC), (m10, oI cI 61 FW), (m11, oI cI 61 FE)] H → va_D A [(m0, .inr (6, [.int ((nI 0)), .int (nI n), .ref m1, .ref m2, .int (nI rn), .ref m3, .int (nI mn), .ref m4, .ref m5, .int (nI pn), .ref m6, .int (nI k9), .int (((ff_D KP n base bw n).1 0)), .ref m7, .ref m8, .ref m9, .ref m10, .ref m11])), (m1, oI cI 60 KP), (m2, oI cI 60 KL), (m3, oI cI 5400 KR), (m4, oI cI 12 KM), (m5, oI cI 12 KN), (m6, oI cI 60 KS), (m7, oI cI 60 S9), (m8, oI cI 12 KT), (m9, oI cI 61 LC), (m10, oI cI 61 FW), (m11, oI cI 61 FE)] → va_S A s.heap H locs → lv_has ls 8 [(0, .ref m0), (1, .int base), (2, .int bw), (3, .int (nI (ff_ch (ff_D KP n base bw n).2.2 k9 0)))] → W p l e (rr 2 0 0) s m args below meth c H locs 0 0 Q (F0 m 262 ls []) := by
              intro k
              induction k with
              | zero =>
                intro k9 S9 H locs ls hk9 he hk
                exact absurd hk (Nat.not_lt_zero _)
              | succ k ih_262 =>
                intro k9 S9 H locs ls hk9 he hk hP hD hS hl
                have hchn : ff_ch (ff_D KP n base bw n).2.2 k9 0 ≤ n := ff_chn hk9 hz3 hz4
                refine lv_iload_n hx hb dX6_sections_262 rfl (lv_at hl 3 rfl) ?_
                refine lv_aload_n hx hb dX6_sections_263 rfl (lv_at hl 0 rfl) ?_
                refine gf_X6_50 hx hb hg hown hK hP 0 rfl rfl dX6_sections_264 ?_
                refine lv_icmp_ge (tgt := 300) hx hb dX6_sections_267 (by decide) (fun c267 => ?_) (fun c267 => ?_)
                · have c267 := (nI_leI (by omega) (by omega)).mp c267
                  have hkz : k9 = ff_sn KP n base bw := ff_chz hk9 hz4 c267
                  rw [hkz] at hP hD he
                  refine lv_aload_n hx hb dX6_sections_300 rfl (lv_at hl 0 rfl) ?_
                  refine gf_X6_62 hx hb hg hown hK hP 0 rfl rfl dX6_sections_301 ?_
                  exact hret _ _ 304 _ _ ((ff_N (n) (rn) (mn) (pn) (ff_sn KP n base bw) 0, ff_Z ((nI 0)) (((ff_D KP n base bw n).1 0)), ff_A14 (KP) (KL) (KR) (KM) (KN) (KS) (S9) (KT) (LC) (FW) (FE) (FE) (FE) (FE))) (Or.inr ⟨⟨c15, c27⟩, rfl, S9, LC, FW, FE, he, rfl⟩) hP hD hS dX6_sections_304
                · have c267 := mt (nI_leI (by omega) (by omega)).mpr c267
                  have hkz : k9 < ff_sn KP n base bw := ff_chl hk9 hz3 (by omega)
                  refine lv_aload_n hx hb dX6_sections_270 rfl (lv_at hl 0 rfl) ?_
                  refine gf_X6_28 hx hb hg hown hK hP 0 rfl rfl dX6_sections_271 ?_
                  refine lv_aload_n hx hb dX6_sections_274 rfl (lv_at hl 0 rfl) ?_
                  refine gf_X6_62 hx hb hg hown hK hP 0 rfl rfl dX6_sections_275 ?_
                  refine lv_iload_n hx hb dX6_sections_278 rfl (lv_at hl 3 rfl) ?_
                  refine ast hx hb hK hP hD hS 7 rfl rfl (by omega) dX6_sections_279 (fun H locs hP hD hS => ?_)
                  have hP : va_P D vwCl [(m0, .inr (6, [.int ((nI 0)), .int (nI n), .ref m1, .ref m2, .int (nI rn), .ref m3, .int (nI mn), .ref m4, .ref m5, .int (nI pn), .ref m6, .int (nI k9), .int (((ff_D KP n base bw n).1 0)), .ref m7, .ref m8, .ref m9, .ref m10, .ref m11])), (m1, oI cI 60 KP), (m2, oI cI 60 KL), (m3, oI cI 5400 KR), (m4, oI cI 12 KM), (m5, oI cI 12 KN), (m6, oI cI 60 KS), (m7, oI cI 60 (upd S9 k9 (nI (ff_ch (ff_D KP n base bw n).2.2 k9 0)))), (m8, oI cI 12 KT), (m9, oI cI 61 LC), (m10, oI cI 61 FW), (m11, oI cI 61 FE)] H := hP
                  have hD : va_D A [(m0, .inr (6, [.int ((nI 0)), .int (nI n), .ref m1, .ref m2, .int (nI rn), .ref m3, .int (nI mn), .ref m4, .ref m5, .int (nI pn), .ref m6, .int (nI k9), .int (((ff_D KP n base bw n).1 0)), .ref m7, .ref m8, .ref m9, .ref m10, .ref m11])), (m1, oI cI 60 KP), (m2, oI cI 60 KL), (m3, oI cI 5400 KR), (m4, oI cI 12 KM), (m5, oI cI 12 KN), (m6, oI cI 60 KS), (m7, oI cI 60 (upd S9 k9 (nI (ff_ch (ff_D KP n base bw n).2.2 k9 0)))), (m8, oI cI 12 KT), (m9, oI cI 61 LC), (m10, oI cI 61 FW), (m11, oI cI 61 FE)] := hD
                  refine lv_aload_n hx hb dX6_sections_280 rfl (lv_at hl 0 rfl) ?_
                  refine lv_dup hx hb dX6_sections_281 rfl ?_
                  refine gf_X6_62 hx hb hg hown hK hP 0 rfl rfl dX6_sections_282 ?_
                  refine lv_iconst (v := nI 1) hx hb dX6_sections_285 (by decide) ?_
                  refine lv_iadd hx hb dX6_sections_286 ?_
                  refine lv_asi (nI_add _ _) ?_
                  refine pf_X6_62 hx hb hg hown hK hP hD hS 0 rfl (Nat.le_of_ble_eq_true rfl) dX6_sections_287 (fun H locs hP hD hS => ?_)
                  have hP : va_P D vwCl [(m0, .inr (6, [.int ((nI 0)), .int (nI n), .ref m1, .ref m2, .int (nI rn), .ref m3, .int (nI mn), .ref m4, .ref m5, .int (nI pn), .ref m6, .int (nI (k9 + 1)), .int (((ff_D KP n base bw n).1 0)), .ref m7, .ref m8, .ref m9, .ref m10, .ref m11])), (m1, oI cI 60 KP), (m2, oI cI 60 KL), (m3, oI cI 5400 KR), (m4, oI cI 12 KM), (m5, oI cI 12 KN), (m6, oI cI 60 KS), (m7, oI cI 60 (upd S9 k9 (nI (ff_ch (ff_D KP n base bw n).2.2 k9 0)))), (m8, oI cI 12 KT), (m9, oI cI 61 LC), (m10, oI cI 61 FW), (m11, oI cI 61 FE)] H := hP
                  have hD : va_D A [(m0, .inr (6, [.int ((nI 0)), .int (nI n), .ref m1, .ref m2, .int (nI rn), .ref m3, .int (nI mn), .ref m4, .ref m5, .int (nI pn), .ref m6, .int (nI (k9 + 1)), .int (((ff_D KP n base bw n).1 0)), .ref m7, .ref m8, .ref m9, .ref m10, .ref m11])), (m1, oI cI 60 KP), (m2, oI cI 60 KL), (m3, oI cI 5400 KR), (m4, oI cI 12 KM), (m5, oI cI 12 KN), (m6, oI cI 60 KS), (m7, oI cI 60 (upd S9 k9 (nI (ff_ch (ff_D KP n base bw n).2.2 k9 0)))), (m8, oI cI 12 KT), (m9, oI cI 61 LC), (m10, oI cI 61 FW), (m11, oI cI 61 FE)] := hD
                  refine lv_aload_n hx hb dX6_sections_290 rfl (lv_at hl 0 rfl) ?_
                  refine gf_X6_40 hx hb hg hown hK hP 0 rfl rfl dX6_sections_291 ?_
                  refine lv_iload_n hx hb dX6_sections_294 rfl (lv_at hl 3 rfl) ?_
                  refine ald hx hb hK hP 11 rfl rfl (by omega) dX6_sections_295 ?_
                  refine lv_asi (y := nI (ff_ch (ff_D KP n base bw n).2.2 (k9 + 1) 0)) ((hdk _ (by omega) (by omega)).2.2 (by omega)) ?_
                  refine lv_istore_n (lv' := [(3, .int (nI (ff_ch (ff_D KP n base bw n).2.2 (k9 + 1) 0))), (0, .ref m0), (1, .int base), (2, .int bw)]) hx hb dX6_sections_296 rfl hl (by decide) rfl (fun ls hl => ?_)
                  refine lv_goto (tgt := 262) hx hb dX6_sections_297 (by decide) ?_
                  exact ih_262 (k9 + 1) (_) _ _ _ (by omega) (fun t ht => by by_cases h : t = k9 <;> first | (subst h; exact pk_us) | (rw [pk_un h]; exact he t (by omega))) (by omega) hP hD hS (lv_sub hl [1, 2, 3, 0] rfl)
            exact lp_262 (_ + 1) (0) (KB) _ _ _ (Nat.zero_le _) (fun t h => absurd h (Nat.not_lt_zero _)) (Nat.lt_succ_self _) hP hD hS (lv_sub hl [1, 2, 3, 0] rfl)
          · skip
            have c72 := mt (ff_dm (by omega)).mpr c72
            obtain ⟨d9, rfl⟩ : ∃ d9, d = d9 + 1 := ⟨d - 1, by omega⟩
            rw [show nI (d9 + 1) - nI 1 = nI d9 from pk_sub (by omega)] at hl
            refine lv_iload_n hx hb dX6_sections_75 rfl (lv_at hl 3 rfl) ?_
            refine lv_iconst (v := nI 1) hx hb dX6_sections_76 (by decide) ?_
            refine lv_iadd hx hb dX6_sections_77 ?_
            refine lv_asi (nI_add _ _) ?_
            refine lv_istore (lv' := [(4, .int (nI (d9 + 1))), (0, .ref m0), (1, .int base), (2, .int bw), (3, .int (nI d9))]) hx hb dX6_sections_78 hl (by decide) rfl (fun ls hl => ?_)
            have lp_80 : ∀ (k : Nat) (t : Nat) (L2 : Nat → Int32) (F2 : Nat → Int32) (E2 : Nat → Int32) (H : Heap) (locs : List Loc) (ls : Array Slot), (d9 + t ≤ n) → (∀ x, ¬ x = d9 → L2 x = LC x ∧ F2 x = FW x ∧ E2 x = FE x) → (1 ≤ t → L2 d9 = (ff_bs (ff_C base bw KP LC d9) (ff_W FW d9) d9 t).1 ∧ F2 d9 = (ff_bs (ff_C base bw KP LC d9) (ff_W FW d9) d9 t).2.1 ∧ E2 d9 = nI (ff_bs (ff_C base bw KP LC d9) (ff_W FW d9) d9 t).2.2) → (n - d9 - t < k) → va_P D vwCl [(m0, .inr (6, [.int ((nI 0)), .int (nI n), .ref m1, .ref m2, .int (nI rn), .ref m3, .int (nI mn), .ref m4, .ref m5, .int (nI pn), .ref m6, .int (nI sn), .int co, .ref m7, .ref m8, .ref m9, .ref m10, .ref m11])), (m1, oI cI 60 KP), (m2, oI cI 60 KL), (m3, oI cI 5400 KR), (m4, oI cI 12 KM), (m5, oI cI 12 KN), (m6, oI cI 60 KS), (m7, oI cI 60 KB), (m8, oI cI 12 KT), (m9, oI cI 61 L2), (m10, oI cI 61 F2), (m11, oI cI 61 E2)] H → va_D A [(m0, .inr (6, [.int ((nI 0)), .int (nI n), .ref m1, .ref m2, .int (nI rn), .ref m3, .int (nI mn), .ref m4, .ref m5, .int (nI pn), .ref m6, .int (nI sn), .int co, .ref m7, .ref m8, .ref m9, .ref m10, .ref m11])), (m1, oI cI 60 KP), (m2, oI cI 60 KL), (m3, oI cI 5400 KR), (m4, oI cI 12 KM), (m5, oI cI 12 KN), (m6, oI cI 60 KS), (m7, oI cI 60 KB), (m8, oI cI 12 KT), (m9, oI cI 61 L2), (m10, oI cI 61 F2), (m11, oI cI 61 E2)] → va_S A s.heap H locs → lv_has ls 8 [(0, .ref m0), (1, .int base), (2, .int bw), (3, .int (nI d9)), (4, .int (nI (d9 + 1 + t)))] → W p l e (rr 2 0 0) s m args below meth c H locs 0 0 Q (F0 m 80 ls []) := by
              intro k
              induction k with
              | zero =>
                intro t L2 F2 E2 H locs ls ht hx1 hx2 hk
                exact absurd hk (Nat.not_lt_zero _)
              | succ k ih_80 =>
                intro t L2 F2 E2 H locs ls ht hx1 hx2 hk hP hD hS hl
                refine lv_iload hx hb dX6_sections_80 (lv_at hl 4 rfl) ?_
                refine lv_aload_n hx hb dX6_sections_82 rfl (lv_at hl 0 rfl) ?_
                refine gf_X6_50 hx hb hg hown hK hP 0 rfl rfl dX6_sections_83 ?_
                refine lv_icmp_gt (tgt := 239) hx hb dX6_sections_86 (by decide) (fun c86 => ?_) (fun c86 => ?_)
                · have c86 := (nI_ltI (by omega) (by omega)).mp c86
                  refine lv_iinc (v := (nI d9 - nI 1)) (lv' := [(3, .int ((nI d9 - nI 1))), (0, .ref m0), (1, .int base), (2, .int bw), (4, .int (nI (d9 + 1 + t)))]) hx hb dX6_sections_239 hl (k := 3) rfl (by rw [Int32.sub_eq_add_neg]; rfl) (by decide) rfl (fun ls hl => ?_)
                  refine lv_goto (tgt := 71) hx hb dX6_sections_242 (by decide) ?_
                  exact ih_71 (d9) (_) (_) (_) _ _ _ (by omega) (by have e8 : t = n - d9 := (by omega); subst e8; exact ff_Dok_d (by omega) hdk ⟨hx1, hx2 (by omega)⟩) (by omega) hP hD hS (lv_sub hl [1, 2, 3, 0] rfl)
                · have c86 := mt (nI_ltI (by omega) (by omega)).mpr c86
                  refine lv_aload_n hx hb dX6_sections_89 rfl (lv_at hl 0 rfl) ?_
                  refine lv_iload_n hx hb dX6_sections_90 rfl (lv_at hl 3 rfl) ?_
                  refine lv_iload hx hb dX6_sections_91 (lv_at hl 4 rfl) ?_
                  refine lv_iload_n hx hb dX6_sections_93 rfl (lv_at hl 1 rfl) ?_
                  refine lv_iload_n hx hb dX6_sections_94 rfl (lv_at hl 2 rfl) ?_
                  have hco := k_costOf l D cI m0 m1 m2 m3 m4 m5 m6 m7 m8 m9 m10 m11 ((nI 0)) (co) (n) (rn) (mn) (pn) (sn) KP d9 (t + 1) base bw (by omega) (by omega) hn hR
                  rw [show d9 + (t + 1) = d9 + 1 + t by omega] at hco
                  refine Cp.callV (As := [.int (nI d9), .int (nI (d9 + 1 + t)), .int base, .int bw]) (rest := []) (cv_X6_126 hg ⟨Nat.le_of_ble_eq_true rfl, Nat.le_of_ble_eq_true rfl⟩) (hco) cx hK hP [0, 1] rfl (rq := 0) rfl rfl rfl hS rfl hl.1 rfl (Nat.le_of_ble_eq_true rfl) dX6_sections_95 ⟨Nat.zero_le _, Nat.zero_le _⟩ (fun H locs hP hS => ?_)
                  refine lv_aload_n hx hb dX6_sections_98 rfl (lv_at hl 0 rfl) ?_
                  refine gf_X6_34 hx hb hg hown hK hP 0 rfl rfl dX6_sections_99 ?_
                  refine lv_iload hx hb dX6_sections_102 (lv_at hl 4 rfl) ?_
                  refine ald hx hb hK hP 9 rfl rfl (by omega) dX6_sections_104 ?_
                  refine lv_asi (y := (LC (d9 + (t + 1)))) (by rw [show d9 + 1 + t = d9 + (t + 1) by omega]; exact (hx1 _ (by omega)).1) ?_
                  refine lv_iadd hx hb dX6_sections_105 ?_
                  refine lv_asi (y := (ff_C base bw KP LC d9 (t + 1))) (rfl) ?_
                  refine lv_istore (lv' := [(5, .int ((ff_C base bw KP LC d9 (t + 1)))), (0, .ref m0), (1, .int base), (2, .int bw), (3, .int (nI d9)), (4, .int (nI (d9 + 1 + t)))]) hx hb dX6_sections_106 hl (by decide) rfl (fun ls hl => ?_)
                  refine lv_aload_n hx hb dX6_sections_108 rfl (lv_at hl 1 rfl) ?_
                  refine gf_X6_37 hx hb hg hown hK hP 0 rfl rfl dX6_sections_109 ?_
                  refine lv_iload hx hb dX6_sections_112 (lv_at hl 5 rfl) ?_
                  refine ald hx hb hK hP 10 rfl rfl (by omega) dX6_sections_114 ?_
                  refine lv_asi (y := (FW (d9 + (t + 1)))) (by rw [show d9 + 1 + t = d9 + (t + 1) by omega]; exact (hx1 _ (by omega)).2.1) ?_
                  refine lv_iconst (v := nI 1) hx hb dX6_sections_115 (by decide) ?_
                  refine lv_iadd hx hb dX6_sections_116 ?_
                  refine lv_asi (y := (ff_W FW d9 (t + 1))) (Int32.add_comm _ _) ?_
                  refine lv_istore (lv' := [(6, .int ((ff_W FW d9 (t + 1)))), (5, .int ((ff_C base bw KP LC d9 (t + 1)))), (0, .ref m0), (1, .int base), (2, .int bw), (3, .int (nI d9)), (4, .int (nI (d9 + 1 + t)))]) hx hb dX6_sections_117 hl (by decide) rfl (fun ls hl => ?_)
                  refine lv_iload hx hb dX6_sections_119 (lv_at hl 6 rfl) ?_
                  refine lv_iload_n hx hb dX6_sections_121 rfl (lv_at hl 5 rfl) ?_
                  refine lv_iconst (v := nI 1) hx hb dX6_sections_122 (by decide) ?_
                  refine lv_iadd hx hb dX6_sections_123 ?_
                  refine lv_asi (nI_add _ _) ?_
                  refine lv_icmp_eq (tgt := 160) hx hb dX6_sections_124 (by decide) (fun c124 => ?_) (fun c124 => ?_)
                  · have c124 := (nI_eq (by omega) (by omega)).mp c124
                    refine lv_iconst (v := nI 1) hx hb dX6_sections_160 (by decide) ?_
                    refine lv_goto (tgt := 165) hx hb dX6_sections_161 (by decide) ?_
                    refine lv_istore (lv' := [(7, .int (nI 1)), (6, .int ((ff_W FW d9 (t + 1)))), (5, .int ((ff_C base bw KP LC d9 (t + 1)))), (0, .ref m0), (1, .int base), (2, .int bw), (3, .int (nI d9)), (4, .int (nI (d9 + 1 + t)))]) hx hb dX6_sections_165 hl (by decide) rfl (fun ls hl => ?_)
                    refine lv_aload_n hx hb dX6_sections_167 rfl (lv_at hl 3 rfl) ?_
                    refine gf_X6_34 hx hb hg hown hK hP 0 rfl rfl dX6_sections_168 ?_
                    refine lv_iload_n hx hb dX6_sections_171 rfl (lv_at hl 6 rfl) ?_
                    refine lv_iload hx hb dX6_sections_172 (lv_at hl 0 rfl) ?_
                    refine lv_if_eq (tgt := 182) hx hb dX6_sections_174 (by decide) (fun h9 => absurd h9 (by decide)) (fun _ => ?_)
                    refine lv_iload hx hb dX6_sections_177 (lv_at hl 2 rfl) ?_
                    refine lv_goto (tgt := 188) hx hb dX6_sections_179 (by decide) ?_
                    refine ast hx hb hK hP hD hS 9 rfl rfl (by omega) dX6_sections_188 (fun H locs hP hD hS => ?_)
                    have hP : va_P D vwCl [(m0, .inr (6, [.int ((nI 0)), .int (nI n), .ref m1, .ref m2, .int (nI rn), .ref m3, .int (nI mn), .ref m4, .ref m5, .int (nI pn), .ref m6, .int (nI sn), .int co, .ref m7, .ref m8, .ref m9, .ref m10, .ref m11])), (m1, oI cI 60 KP), (m2, oI cI 60 KL), (m3, oI cI 5400 KR), (m4, oI cI 12 KM), (m5, oI cI 12 KN), (m6, oI cI 60 KS), (m7, oI cI 60 KB), (m8, oI cI 12 KT), (m9, oI cI 61 (upd L2 d9 ((ff_C base bw KP LC d9 (t + 1))))), (m10, oI cI 61 F2), (m11, oI cI 61 E2)] H := hP
                    have hD : va_D A [(m0, .inr (6, [.int ((nI 0)), .int (nI n), .ref m1, .ref m2, .int (nI rn), .ref m3, .int (nI mn), .ref m4, .ref m5, .int (nI pn), .ref m6, .int (nI sn), .int co, .ref m7, .ref m8, .ref m9, .ref m10, .ref m11])), (m1, oI cI 60 KP), (m2, oI cI 60 KL), (m3, oI cI 5400 KR), (m4, oI cI 12 KM), (m5, oI cI 12 KN), (m6, oI cI 60 KS), (m7, oI cI 60 KB), (m8, oI cI 12 KT), (m9, oI cI 61 (upd L2 d9 ((ff_C base bw KP LC d9 (t + 1))))), (m10, oI cI 61 F2), (m11, oI cI 61 E2)] := hD
                    refine lv_aload_n hx hb dX6_sections_189 rfl (lv_at hl 3 rfl) ?_
                    refine gf_X6_37 hx hb hg hown hK hP 0 rfl rfl dX6_sections_190 ?_
                    refine lv_iload_n hx hb dX6_sections_193 rfl (lv_at hl 6 rfl) ?_
                    refine lv_iload hx hb dX6_sections_194 (lv_at hl 0 rfl) ?_
                    refine lv_if_eq (tgt := 204) hx hb dX6_sections_196 (by decide) (fun h9 => absurd h9 (by decide)) (fun _ => ?_)
                    refine lv_iload hx hb dX6_sections_199 (lv_at hl 1 rfl) ?_
                    refine lv_goto (tgt := 210) hx hb dX6_sections_201 (by decide) ?_
                    refine ast hx hb hK hP hD hS 10 rfl rfl (by omega) dX6_sections_210 (fun H locs hP hD hS => ?_)
                    have hP : va_P D vwCl [(m0, .inr (6, [.int ((nI 0)), .int (nI n), .ref m1, .ref m2, .int (nI rn), .ref m3, .int (nI mn), .ref m4, .ref m5, .int (nI pn), .ref m6, .int (nI sn), .int co, .ref m7, .ref m8, .ref m9, .ref m10, .ref m11])), (m1, oI cI 60 KP), (m2, oI cI 60 KL), (m3, oI cI 5400 KR), (m4, oI cI 12 KM), (m5, oI cI 12 KN), (m6, oI cI 60 KS), (m7, oI cI 60 KB), (m8, oI cI 12 KT), (m9, oI cI 61 (upd L2 d9 ((ff_C base bw KP LC d9 (t + 1))))), (m10, oI cI 61 (upd F2 d9 ((ff_W FW d9 (t + 1))))), (m11, oI cI 61 E2)] H := hP
                    have hD : va_D A [(m0, .inr (6, [.int ((nI 0)), .int (nI n), .ref m1, .ref m2, .int (nI rn), .ref m3, .int (nI mn), .ref m4, .ref m5, .int (nI pn), .ref m6, .int (nI sn), .int co, .ref m7, .ref m8, .ref m9, .ref m10, .ref m11])), (m1, oI cI 60 KP), (m2, oI cI 60 KL), (m3, oI cI 5400 KR), (m4, oI cI 12 KM), (m5, oI cI 12 KN), (m6, oI cI 60 KS), (m7, oI cI 60 KB), (m8, oI cI 12 KT), (m9, oI cI 61 (upd L2 d9 ((ff_C base bw KP LC d9 (t + 1))))), (m10, oI cI 61 (upd F2 d9 ((ff_W FW d9 (t + 1))))), (m11, oI cI 61 E2)] := hD
                    refine lv_aload_n hx hb dX6_sections_211 rfl (lv_at hl 3 rfl) ?_
                    refine gf_X6_40 hx hb hg hown hK hP 0 rfl rfl dX6_sections_212 ?_
                    refine lv_iload_n hx hb dX6_sections_215 rfl (lv_at hl 6 rfl) ?_
                    refine lv_iload hx hb dX6_sections_216 (lv_at hl 0 rfl) ?_
                    refine lv_if_eq (tgt := 226) hx hb dX6_sections_218 (by decide) (fun h9 => absurd h9 (by decide)) (fun _ => ?_)
                    refine lv_iload hx hb dX6_sections_221 (lv_at hl 7 rfl) ?_
                    refine lv_goto (tgt := 232) hx hb dX6_sections_223 (by decide) ?_
                    refine ast hx hb hK hP hD hS 11 rfl rfl (by omega) dX6_sections_232 (fun H locs hP hD hS => ?_)
                    have hP : va_P D vwCl [(m0, .inr (6, [.int ((nI 0)), .int (nI n), .ref m1, .ref m2, .int (nI rn), .ref m3, .int (nI mn), .ref m4, .ref m5, .int (nI pn), .ref m6, .int (nI sn), .int co, .ref m7, .ref m8, .ref m9, .ref m10, .ref m11])), (m1, oI cI 60 KP), (m2, oI cI 60 KL), (m3, oI cI 5400 KR), (m4, oI cI 12 KM), (m5, oI cI 12 KN), (m6, oI cI 60 KS), (m7, oI cI 60 KB), (m8, oI cI 12 KT), (m9, oI cI 61 (upd L2 d9 ((ff_C base bw KP LC d9 (t + 1))))), (m10, oI cI 61 (upd F2 d9 ((ff_W FW d9 (t + 1))))), (m11, oI cI 61 (upd E2 d9 (nI (d9 + 1 + t))))] H := hP
                    have hD : va_D A [(m0, .inr (6, [.int ((nI 0)), .int (nI n), .ref m1, .ref m2, .int (nI rn), .ref m3, .int (nI mn), .ref m4, .ref m5, .int (nI pn), .ref m6, .int (nI sn), .int co, .ref m7, .ref m8, .ref m9, .ref m10, .ref m11])), (m1, oI cI 60 KP), (m2, oI cI 60 KL), (m3, oI cI 5400 KR), (m4, oI cI 12 KM), (m5, oI cI 12 KN), (m6, oI cI 60 KS), (m7, oI cI 60 KB), (m8, oI cI 12 KT), (m9, oI cI 61 (upd L2 d9 ((ff_C base bw KP LC d9 (t + 1))))), (m10, oI cI 61 (upd F2 d9 ((ff_W FW d9 (t + 1))))), (m11, oI cI 61 (upd E2 d9 (nI (d9 + 1 + t))))] := hD
                    refine lv_iinc (v := nI (d9 + 1 + t + 1)) (lv' := [(4, .int (nI (d9 + 1 + t + 1))), (7, .int (nI 1)), (6, .int ((ff_W FW d9 (t + 1)))), (5, .int ((ff_C base bw KP LC d9 (t + 1)))), (0, .ref m0), (1, .int base), (2, .int bw), (3, .int (nI d9))]) hx hb dX6_sections_233 hl (k := 7) rfl (nI_1 _) (by decide) rfl (fun ls hl => ?_)
                    refine lv_goto (tgt := 80) hx hb dX6_sections_236 (by decide) ?_
                    rw [show d9 + 1 + t + 1 = d9 + 1 + (t + 1) by omega] at hl
                    exact ih_80 (t + 1) (_) (_) (_) _ _ _ (by omega) (ff_w1 hx1) (fun _ => by first | exact ff_w2 (Or.inl (by omega)) | exact ff_w2 (Or.inr (ff_w3 (hx2 (by omega)) (Or.inl c135))) | exact ff_w2 (Or.inr (ff_w3 (hx2 (by omega)) (Or.inr ⟨c146, i_nle.mp c157⟩))) | exact ff_w5 (hx2 (by omega)) (by omega) (fun q => q.elim c135 (fun q => by first | exact c146 q.1 | exact i_nlt.mpr c157 q.2))) (by omega) hP hD hS (lv_sub hl [4, 5, 6, 7, 0] rfl)
                  · have c124 := mt (nI_eq (by omega) (by omega)).mpr c124
                    refine lv_iload hx hb dX6_sections_127 (lv_at hl 1 rfl) ?_
                    refine lv_aload_n hx hb dX6_sections_129 rfl (lv_at hl 2 rfl) ?_
                    refine gf_X6_34 hx hb hg hown hK hP 0 rfl rfl dX6_sections_130 ?_
                    refine lv_iload_n hx hb dX6_sections_133 rfl (lv_at hl 5 rfl) ?_
                    refine ald hx hb hK hP 9 rfl rfl (by omega) dX6_sections_134 ?_
                    refine lv_icmp_lt (tgt := 160) hx hb dX6_sections_135 (by decide) (fun c135 => ?_) (fun c135 => ?_)
                    · skip
                      refine lv_iconst (v := nI 1) hx hb dX6_sections_160 (by decide) ?_
                      refine lv_goto (tgt := 165) hx hb dX6_sections_161 (by decide) ?_
                      refine lv_istore (lv' := [(7, .int (nI 1)), (6, .int ((ff_W FW d9 (t + 1)))), (5, .int ((ff_C base bw KP LC d9 (t + 1)))), (0, .ref m0), (1, .int base), (2, .int bw), (3, .int (nI d9)), (4, .int (nI (d9 + 1 + t)))]) hx hb dX6_sections_165 hl (by decide) rfl (fun ls hl => ?_)
                      refine lv_aload_n hx hb dX6_sections_167 rfl (lv_at hl 3 rfl) ?_
                      refine gf_X6_34 hx hb hg hown hK hP 0 rfl rfl dX6_sections_168 ?_
                      refine lv_iload_n hx hb dX6_sections_171 rfl (lv_at hl 6 rfl) ?_
                      refine lv_iload hx hb dX6_sections_172 (lv_at hl 0 rfl) ?_
                      refine lv_if_eq (tgt := 182) hx hb dX6_sections_174 (by decide) (fun h9 => absurd h9 (by decide)) (fun _ => ?_)
                      refine lv_iload hx hb dX6_sections_177 (lv_at hl 2 rfl) ?_
                      refine lv_goto (tgt := 188) hx hb dX6_sections_179 (by decide) ?_
                      refine ast hx hb hK hP hD hS 9 rfl rfl (by omega) dX6_sections_188 (fun H locs hP hD hS => ?_)
                      have hP : va_P D vwCl [(m0, .inr (6, [.int ((nI 0)), .int (nI n), .ref m1, .ref m2, .int (nI rn), .ref m3, .int (nI mn), .ref m4, .ref m5, .int (nI pn), .ref m6, .int (nI sn), .int co, .ref m7, .ref m8, .ref m9, .ref m10, .ref m11])), (m1, oI cI 60 KP), (m2, oI cI 60 KL), (m3, oI cI 5400 KR), (m4, oI cI 12 KM), (m5, oI cI 12 KN), (m6, oI cI 60 KS), (m7, oI cI 60 KB), (m8, oI cI 12 KT), (m9, oI cI 61 (upd L2 d9 ((ff_C base bw KP LC d9 (t + 1))))), (m10, oI cI 61 F2), (m11, oI cI 61 E2)] H := hP
                      have hD : va_D A [(m0, .inr (6, [.int ((nI 0)), .int (nI n), .ref m1, .ref m2, .int (nI rn), .ref m3, .int (nI mn), .ref m4, .ref m5, .int (nI pn), .ref m6, .int (nI sn), .int co, .ref m7, .ref m8, .ref m9, .ref m10, .ref m11])), (m1, oI cI 60 KP), (m2, oI cI 60 KL), (m3, oI cI 5400 KR), (m4, oI cI 12 KM), (m5, oI cI 12 KN), (m6, oI cI 60 KS), (m7, oI cI 60 KB), (m8, oI cI 12 KT), (m9, oI cI 61 (upd L2 d9 ((ff_C base bw KP LC d9 (t + 1))))), (m10, oI cI 61 F2), (m11, oI cI 61 E2)] := hD
                      refine lv_aload_n hx hb dX6_sections_189 rfl (lv_at hl 3 rfl) ?_
                      refine gf_X6_37 hx hb hg hown hK hP 0 rfl rfl dX6_sections_190 ?_
                      refine lv_iload_n hx hb dX6_sections_193 rfl (lv_at hl 6 rfl) ?_
                      refine lv_iload hx hb dX6_sections_194 (lv_at hl 0 rfl) ?_
                      refine lv_if_eq (tgt := 204) hx hb dX6_sections_196 (by decide) (fun h9 => absurd h9 (by decide)) (fun _ => ?_)
                      refine lv_iload hx hb dX6_sections_199 (lv_at hl 1 rfl) ?_
                      refine lv_goto (tgt := 210) hx hb dX6_sections_201 (by decide) ?_
                      refine ast hx hb hK hP hD hS 10 rfl rfl (by omega) dX6_sections_210 (fun H locs hP hD hS => ?_)
                      have hP : va_P D vwCl [(m0, .inr (6, [.int ((nI 0)), .int (nI n), .ref m1, .ref m2, .int (nI rn), .ref m3, .int (nI mn), .ref m4, .ref m5, .int (nI pn), .ref m6, .int (nI sn), .int co, .ref m7, .ref m8, .ref m9, .ref m10, .ref m11])), (m1, oI cI 60 KP), (m2, oI cI 60 KL), (m3, oI cI 5400 KR), (m4, oI cI 12 KM), (m5, oI cI 12 KN), (m6, oI cI 60 KS), (m7, oI cI 60 KB), (m8, oI cI 12 KT), (m9, oI cI 61 (upd L2 d9 ((ff_C base bw KP LC d9 (t + 1))))), (m10, oI cI 61 (upd F2 d9 ((ff_W FW d9 (t + 1))))), (m11, oI cI 61 E2)] H := hP
                      have hD : va_D A [(m0, .inr (6, [.int ((nI 0)), .int (nI n), .ref m1, .ref m2, .int (nI rn), .ref m3, .int (nI mn), .ref m4, .ref m5, .int (nI pn), .ref m6, .int (nI sn), .int co, .ref m7, .ref m8, .ref m9, .ref m10, .ref m11])), (m1, oI cI 60 KP), (m2, oI cI 60 KL), (m3, oI cI 5400 KR), (m4, oI cI 12 KM), (m5, oI cI 12 KN), (m6, oI cI 60 KS), (m7, oI cI 60 KB), (m8, oI cI 12 KT), (m9, oI cI 61 (upd L2 d9 ((ff_C base bw KP LC d9 (t + 1))))), (m10, oI cI 61 (upd F2 d9 ((ff_W FW d9 (t + 1))))), (m11, oI cI 61 E2)] := hD
                      refine lv_aload_n hx hb dX6_sections_211 rfl (lv_at hl 3 rfl) ?_
                      refine gf_X6_40 hx hb hg hown hK hP 0 rfl rfl dX6_sections_212 ?_
                      refine lv_iload_n hx hb dX6_sections_215 rfl (lv_at hl 6 rfl) ?_
                      refine lv_iload hx hb dX6_sections_216 (lv_at hl 0 rfl) ?_
                      refine lv_if_eq (tgt := 226) hx hb dX6_sections_218 (by decide) (fun h9 => absurd h9 (by decide)) (fun _ => ?_)
                      refine lv_iload hx hb dX6_sections_221 (lv_at hl 7 rfl) ?_
                      refine lv_goto (tgt := 232) hx hb dX6_sections_223 (by decide) ?_
                      refine ast hx hb hK hP hD hS 11 rfl rfl (by omega) dX6_sections_232 (fun H locs hP hD hS => ?_)
                      have hP : va_P D vwCl [(m0, .inr (6, [.int ((nI 0)), .int (nI n), .ref m1, .ref m2, .int (nI rn), .ref m3, .int (nI mn), .ref m4, .ref m5, .int (nI pn), .ref m6, .int (nI sn), .int co, .ref m7, .ref m8, .ref m9, .ref m10, .ref m11])), (m1, oI cI 60 KP), (m2, oI cI 60 KL), (m3, oI cI 5400 KR), (m4, oI cI 12 KM), (m5, oI cI 12 KN), (m6, oI cI 60 KS), (m7, oI cI 60 KB), (m8, oI cI 12 KT), (m9, oI cI 61 (upd L2 d9 ((ff_C base bw KP LC d9 (t + 1))))), (m10, oI cI 61 (upd F2 d9 ((ff_W FW d9 (t + 1))))), (m11, oI cI 61 (upd E2 d9 (nI (d9 + 1 + t))))] H := hP
                      have hD : va_D A [(m0, .inr (6, [.int ((nI 0)), .int (nI n), .ref m1, .ref m2, .int (nI rn), .ref m3, .int (nI mn), .ref m4, .ref m5, .int (nI pn), .ref m6, .int (nI sn), .int co, .ref m7, .ref m8, .ref m9, .ref m10, .ref m11])), (m1, oI cI 60 KP), (m2, oI cI 60 KL), (m3, oI cI 5400 KR), (m4, oI cI 12 KM), (m5, oI cI 12 KN), (m6, oI cI 60 KS), (m7, oI cI 60 KB), (m8, oI cI 12 KT), (m9, oI cI 61 (upd L2 d9 ((ff_C base bw KP LC d9 (t + 1))))), (m10, oI cI 61 (upd F2 d9 ((ff_W FW d9 (t + 1))))), (m11, oI cI 61 (upd E2 d9 (nI (d9 + 1 + t))))] := hD
                      refine lv_iinc (v := nI (d9 + 1 + t + 1)) (lv' := [(4, .int (nI (d9 + 1 + t + 1))), (7, .int (nI 1)), (6, .int ((ff_W FW d9 (t + 1)))), (5, .int ((ff_C base bw KP LC d9 (t + 1)))), (0, .ref m0), (1, .int base), (2, .int bw), (3, .int (nI d9))]) hx hb dX6_sections_233 hl (k := 7) rfl (nI_1 _) (by decide) rfl (fun ls hl => ?_)
                      refine lv_goto (tgt := 80) hx hb dX6_sections_236 (by decide) ?_
                      rw [show d9 + 1 + t + 1 = d9 + 1 + (t + 1) by omega] at hl
                      exact ih_80 (t + 1) (_) (_) (_) _ _ _ (by omega) (ff_w1 hx1) (fun _ => by first | exact ff_w2 (Or.inl (by omega)) | exact ff_w2 (Or.inr (ff_w3 (hx2 (by omega)) (Or.inl c135))) | exact ff_w2 (Or.inr (ff_w3 (hx2 (by omega)) (Or.inr ⟨c146, i_nle.mp c157⟩))) | exact ff_w5 (hx2 (by omega)) (by omega) (fun q => q.elim c135 (fun q => by first | exact c146 q.1 | exact i_nlt.mpr c157 q.2))) (by omega) hP hD hS (lv_sub hl [4, 5, 6, 7, 0] rfl)
                    · skip
                      refine lv_iload hx hb dX6_sections_138 (lv_at hl 1 rfl) ?_
                      refine lv_aload_n hx hb dX6_sections_140 rfl (lv_at hl 2 rfl) ?_
                      refine gf_X6_34 hx hb hg hown hK hP 0 rfl rfl dX6_sections_141 ?_
                      refine lv_iload_n hx hb dX6_sections_144 rfl (lv_at hl 5 rfl) ?_
                      refine ald hx hb hK hP 9 rfl rfl (by omega) dX6_sections_145 ?_
                      refine lv_icmp_ne (tgt := 164) hx hb dX6_sections_146 (by decide) (fun c146 => ?_) (fun c146 => ?_)
                      · skip
                        refine lv_iconst (v := nI 0) hx hb dX6_sections_164 (by decide) ?_
                        refine lv_istore (lv' := [(7, .int (nI 0)), (6, .int ((ff_W FW d9 (t + 1)))), (5, .int ((ff_C base bw KP LC d9 (t + 1)))), (0, .ref m0), (1, .int base), (2, .int bw), (3, .int (nI d9)), (4, .int (nI (d9 + 1 + t)))]) hx hb dX6_sections_165 hl (by decide) rfl (fun ls hl => ?_)
                        refine lv_aload_n hx hb dX6_sections_167 rfl (lv_at hl 3 rfl) ?_
                        refine gf_X6_34 hx hb hg hown hK hP 0 rfl rfl dX6_sections_168 ?_
                        refine lv_iload_n hx hb dX6_sections_171 rfl (lv_at hl 6 rfl) ?_
                        refine lv_iload hx hb dX6_sections_172 (lv_at hl 0 rfl) ?_
                        refine lv_if_eq (tgt := 182) hx hb dX6_sections_174 (by decide) (fun _ => ?_) (fun h9 => absurd (by decide) h9)
                        refine lv_aload_n hx hb dX6_sections_182 rfl (lv_at hl 3 rfl) ?_
                        refine gf_X6_34 hx hb hg hown hK hP 0 rfl rfl dX6_sections_183 ?_
                        refine lv_iload_n hx hb dX6_sections_186 rfl (lv_at hl 6 rfl) ?_
                        refine ald hx hb hK hP 9 rfl rfl (by omega) dX6_sections_187 ?_
                        refine ast hx hb hK hP hD hS 9 rfl rfl (by omega) dX6_sections_188 (fun H locs hP hD hS => ?_)
                        have hP : va_P D vwCl [(m0, .inr (6, [.int ((nI 0)), .int (nI n), .ref m1, .ref m2, .int (nI rn), .ref m3, .int (nI mn), .ref m4, .ref m5, .int (nI pn), .ref m6, .int (nI sn), .int co, .ref m7, .ref m8, .ref m9, .ref m10, .ref m11])), (m1, oI cI 60 KP), (m2, oI cI 60 KL), (m3, oI cI 5400 KR), (m4, oI cI 12 KM), (m5, oI cI 12 KN), (m6, oI cI 60 KS), (m7, oI cI 60 KB), (m8, oI cI 12 KT), (m9, oI cI 61 (upd L2 d9 ((L2 d9)))), (m10, oI cI 61 F2), (m11, oI cI 61 E2)] H := hP
                        have hD : va_D A [(m0, .inr (6, [.int ((nI 0)), .int (nI n), .ref m1, .ref m2, .int (nI rn), .ref m3, .int (nI mn), .ref m4, .ref m5, .int (nI pn), .ref m6, .int (nI sn), .int co, .ref m7, .ref m8, .ref m9, .ref m10, .ref m11])), (m1, oI cI 60 KP), (m2, oI cI 60 KL), (m3, oI cI 5400 KR), (m4, oI cI 12 KM), (m5, oI cI 12 KN), (m6, oI cI 60 KS), (m7, oI cI 60 KB), (m8, oI cI 12 KT), (m9, oI cI 61 (upd L2 d9 ((L2 d9)))), (m10, oI cI 61 F2), (m11, oI cI 61 E2)] := hD
                        refine lv_aload_n hx hb dX6_sections_189 rfl (lv_at hl 3 rfl) ?_
                        refine gf_X6_37 hx hb hg hown hK hP 0 rfl rfl dX6_sections_190 ?_
                        refine lv_iload_n hx hb dX6_sections_193 rfl (lv_at hl 6 rfl) ?_
                        refine lv_iload hx hb dX6_sections_194 (lv_at hl 0 rfl) ?_
                        refine lv_if_eq (tgt := 204) hx hb dX6_sections_196 (by decide) (fun _ => ?_) (fun h9 => absurd (by decide) h9)
                        refine lv_aload_n hx hb dX6_sections_204 rfl (lv_at hl 3 rfl) ?_
                        refine gf_X6_37 hx hb hg hown hK hP 0 rfl rfl dX6_sections_205 ?_
                        refine lv_iload_n hx hb dX6_sections_208 rfl (lv_at hl 6 rfl) ?_
                        refine ald hx hb hK hP 10 rfl rfl (by omega) dX6_sections_209 ?_
                        refine ast hx hb hK hP hD hS 10 rfl rfl (by omega) dX6_sections_210 (fun H locs hP hD hS => ?_)
                        have hP : va_P D vwCl [(m0, .inr (6, [.int ((nI 0)), .int (nI n), .ref m1, .ref m2, .int (nI rn), .ref m3, .int (nI mn), .ref m4, .ref m5, .int (nI pn), .ref m6, .int (nI sn), .int co, .ref m7, .ref m8, .ref m9, .ref m10, .ref m11])), (m1, oI cI 60 KP), (m2, oI cI 60 KL), (m3, oI cI 5400 KR), (m4, oI cI 12 KM), (m5, oI cI 12 KN), (m6, oI cI 60 KS), (m7, oI cI 60 KB), (m8, oI cI 12 KT), (m9, oI cI 61 (upd L2 d9 ((L2 d9)))), (m10, oI cI 61 (upd F2 d9 ((F2 d9)))), (m11, oI cI 61 E2)] H := hP
                        have hD : va_D A [(m0, .inr (6, [.int ((nI 0)), .int (nI n), .ref m1, .ref m2, .int (nI rn), .ref m3, .int (nI mn), .ref m4, .ref m5, .int (nI pn), .ref m6, .int (nI sn), .int co, .ref m7, .ref m8, .ref m9, .ref m10, .ref m11])), (m1, oI cI 60 KP), (m2, oI cI 60 KL), (m3, oI cI 5400 KR), (m4, oI cI 12 KM), (m5, oI cI 12 KN), (m6, oI cI 60 KS), (m7, oI cI 60 KB), (m8, oI cI 12 KT), (m9, oI cI 61 (upd L2 d9 ((L2 d9)))), (m10, oI cI 61 (upd F2 d9 ((F2 d9)))), (m11, oI cI 61 E2)] := hD
                        refine lv_aload_n hx hb dX6_sections_211 rfl (lv_at hl 3 rfl) ?_
                        refine gf_X6_40 hx hb hg hown hK hP 0 rfl rfl dX6_sections_212 ?_
                        refine lv_iload_n hx hb dX6_sections_215 rfl (lv_at hl 6 rfl) ?_
                        refine lv_iload hx hb dX6_sections_216 (lv_at hl 0 rfl) ?_
                        refine lv_if_eq (tgt := 226) hx hb dX6_sections_218 (by decide) (fun _ => ?_) (fun h9 => absurd (by decide) h9)
                        refine lv_aload_n hx hb dX6_sections_226 rfl (lv_at hl 3 rfl) ?_
                        refine gf_X6_40 hx hb hg hown hK hP 0 rfl rfl dX6_sections_227 ?_
                        refine lv_iload_n hx hb dX6_sections_230 rfl (lv_at hl 6 rfl) ?_
                        refine ald hx hb hK hP 11 rfl rfl (by omega) dX6_sections_231 ?_
                        refine ast hx hb hK hP hD hS 11 rfl rfl (by omega) dX6_sections_232 (fun H locs hP hD hS => ?_)
                        have hP : va_P D vwCl [(m0, .inr (6, [.int ((nI 0)), .int (nI n), .ref m1, .ref m2, .int (nI rn), .ref m3, .int (nI mn), .ref m4, .ref m5, .int (nI pn), .ref m6, .int (nI sn), .int co, .ref m7, .ref m8, .ref m9, .ref m10, .ref m11])), (m1, oI cI 60 KP), (m2, oI cI 60 KL), (m3, oI cI 5400 KR), (m4, oI cI 12 KM), (m5, oI cI 12 KN), (m6, oI cI 60 KS), (m7, oI cI 60 KB), (m8, oI cI 12 KT), (m9, oI cI 61 (upd L2 d9 ((L2 d9)))), (m10, oI cI 61 (upd F2 d9 ((F2 d9)))), (m11, oI cI 61 (upd E2 d9 ((E2 d9))))] H := hP
                        have hD : va_D A [(m0, .inr (6, [.int ((nI 0)), .int (nI n), .ref m1, .ref m2, .int (nI rn), .ref m3, .int (nI mn), .ref m4, .ref m5, .int (nI pn), .ref m6, .int (nI sn), .int co, .ref m7, .ref m8, .ref m9, .ref m10, .ref m11])), (m1, oI cI 60 KP), (m2, oI cI 60 KL), (m3, oI cI 5400 KR), (m4, oI cI 12 KM), (m5, oI cI 12 KN), (m6, oI cI 60 KS), (m7, oI cI 60 KB), (m8, oI cI 12 KT), (m9, oI cI 61 (upd L2 d9 ((L2 d9)))), (m10, oI cI 61 (upd F2 d9 ((F2 d9)))), (m11, oI cI 61 (upd E2 d9 ((E2 d9))))] := hD
                        refine lv_iinc (v := nI (d9 + 1 + t + 1)) (lv' := [(4, .int (nI (d9 + 1 + t + 1))), (7, .int (nI 0)), (6, .int ((ff_W FW d9 (t + 1)))), (5, .int ((ff_C base bw KP LC d9 (t + 1)))), (0, .ref m0), (1, .int base), (2, .int bw), (3, .int (nI d9))]) hx hb dX6_sections_233 hl (k := 7) rfl (nI_1 _) (by decide) rfl (fun ls hl => ?_)
                        refine lv_goto (tgt := 80) hx hb dX6_sections_236 (by decide) ?_
                        rw [show d9 + 1 + t + 1 = d9 + 1 + (t + 1) by omega] at hl
                        exact ih_80 (t + 1) (_) (_) (_) _ _ _ (by omega) (ff_w1 hx1) (fun _ => by first | exact ff_w2 (Or.inl (by omega)) | exact ff_w2 (Or.inr (ff_w3 (hx2 (by omega)) (Or.inl c135))) | exact ff_w2 (Or.inr (ff_w3 (hx2 (by omega)) (Or.inr ⟨c146, i_nle.mp c157⟩))) | exact ff_w5 (hx2 (by omega)) (by omega) (fun q => q.elim c135 (fun q => by first | exact c146 q.1 | exact i_nlt.mpr c157 q.2))) (by omega) hP hD hS (lv_sub hl [4, 5, 6, 7, 0] rfl)
                      · skip
                        refine lv_iload hx hb dX6_sections_149 (lv_at hl 0 rfl) ?_
                        refine lv_aload_n hx hb dX6_sections_151 rfl (lv_at hl 2 rfl) ?_
                        refine gf_X6_37 hx hb hg hown hK hP 0 rfl rfl dX6_sections_152 ?_
                        refine lv_iload_n hx hb dX6_sections_155 rfl (lv_at hl 5 rfl) ?_
                        refine ald hx hb hK hP 10 rfl rfl (by omega) dX6_sections_156 ?_
                        refine lv_icmp_ge (tgt := 164) hx hb dX6_sections_157 (by decide) (fun c157 => ?_) (fun c157 => ?_)
                        · skip
                          refine lv_iconst (v := nI 0) hx hb dX6_sections_164 (by decide) ?_
                          refine lv_istore (lv' := [(7, .int (nI 0)), (6, .int ((ff_W FW d9 (t + 1)))), (5, .int ((ff_C base bw KP LC d9 (t + 1)))), (0, .ref m0), (1, .int base), (2, .int bw), (3, .int (nI d9)), (4, .int (nI (d9 + 1 + t)))]) hx hb dX6_sections_165 hl (by decide) rfl (fun ls hl => ?_)
                          refine lv_aload_n hx hb dX6_sections_167 rfl (lv_at hl 3 rfl) ?_
                          refine gf_X6_34 hx hb hg hown hK hP 0 rfl rfl dX6_sections_168 ?_
                          refine lv_iload_n hx hb dX6_sections_171 rfl (lv_at hl 6 rfl) ?_
                          refine lv_iload hx hb dX6_sections_172 (lv_at hl 0 rfl) ?_
                          refine lv_if_eq (tgt := 182) hx hb dX6_sections_174 (by decide) (fun _ => ?_) (fun h9 => absurd (by decide) h9)
                          refine lv_aload_n hx hb dX6_sections_182 rfl (lv_at hl 3 rfl) ?_
                          refine gf_X6_34 hx hb hg hown hK hP 0 rfl rfl dX6_sections_183 ?_
                          refine lv_iload_n hx hb dX6_sections_186 rfl (lv_at hl 6 rfl) ?_
                          refine ald hx hb hK hP 9 rfl rfl (by omega) dX6_sections_187 ?_
                          refine ast hx hb hK hP hD hS 9 rfl rfl (by omega) dX6_sections_188 (fun H locs hP hD hS => ?_)
                          have hP : va_P D vwCl [(m0, .inr (6, [.int ((nI 0)), .int (nI n), .ref m1, .ref m2, .int (nI rn), .ref m3, .int (nI mn), .ref m4, .ref m5, .int (nI pn), .ref m6, .int (nI sn), .int co, .ref m7, .ref m8, .ref m9, .ref m10, .ref m11])), (m1, oI cI 60 KP), (m2, oI cI 60 KL), (m3, oI cI 5400 KR), (m4, oI cI 12 KM), (m5, oI cI 12 KN), (m6, oI cI 60 KS), (m7, oI cI 60 KB), (m8, oI cI 12 KT), (m9, oI cI 61 (upd L2 d9 ((L2 d9)))), (m10, oI cI 61 F2), (m11, oI cI 61 E2)] H := hP
                          have hD : va_D A [(m0, .inr (6, [.int ((nI 0)), .int (nI n), .ref m1, .ref m2, .int (nI rn), .ref m3, .int (nI mn), .ref m4, .ref m5, .int (nI pn), .ref m6, .int (nI sn), .int co, .ref m7, .ref m8, .ref m9, .ref m10, .ref m11])), (m1, oI cI 60 KP), (m2, oI cI 60 KL), (m3, oI cI 5400 KR), (m4, oI cI 12 KM), (m5, oI cI 12 KN), (m6, oI cI 60 KS), (m7, oI cI 60 KB), (m8, oI cI 12 KT), (m9, oI cI 61 (upd L2 d9 ((L2 d9)))), (m10, oI cI 61 F2), (m11, oI cI 61 E2)] := hD
                          refine lv_aload_n hx hb dX6_sections_189 rfl (lv_at hl 3 rfl) ?_
                          refine gf_X6_37 hx hb hg hown hK hP 0 rfl rfl dX6_sections_190 ?_
                          refine lv_iload_n hx hb dX6_sections_193 rfl (lv_at hl 6 rfl) ?_
                          refine lv_iload hx hb dX6_sections_194 (lv_at hl 0 rfl) ?_
                          refine lv_if_eq (tgt := 204) hx hb dX6_sections_196 (by decide) (fun _ => ?_) (fun h9 => absurd (by decide) h9)
                          refine lv_aload_n hx hb dX6_sections_204 rfl (lv_at hl 3 rfl) ?_
                          refine gf_X6_37 hx hb hg hown hK hP 0 rfl rfl dX6_sections_205 ?_
                          refine lv_iload_n hx hb dX6_sections_208 rfl (lv_at hl 6 rfl) ?_
                          refine ald hx hb hK hP 10 rfl rfl (by omega) dX6_sections_209 ?_
                          refine ast hx hb hK hP hD hS 10 rfl rfl (by omega) dX6_sections_210 (fun H locs hP hD hS => ?_)
                          have hP : va_P D vwCl [(m0, .inr (6, [.int ((nI 0)), .int (nI n), .ref m1, .ref m2, .int (nI rn), .ref m3, .int (nI mn), .ref m4, .ref m5, .int (nI pn), .ref m6, .int (nI sn), .int co, .ref m7, .ref m8, .ref m9, .ref m10, .ref m11])), (m1, oI cI 60 KP), (m2, oI cI 60 KL), (m3, oI cI 5400 KR), (m4, oI cI 12 KM), (m5, oI cI 12 KN), (m6, oI cI 60 KS), (m7, oI cI 60 KB), (m8, oI cI 12 KT), (m9, oI cI 61 (upd L2 d9 ((L2 d9)))), (m10, oI cI 61 (upd F2 d9 ((F2 d9)))), (m11, oI cI 61 E2)] H := hP
                          have hD : va_D A [(m0, .inr (6, [.int ((nI 0)), .int (nI n), .ref m1, .ref m2, .int (nI rn), .ref m3, .int (nI mn), .ref m4, .ref m5, .int (nI pn), .ref m6, .int (nI sn), .int co, .ref m7, .ref m8, .ref m9, .ref m10, .ref m11])), (m1, oI cI 60 KP), (m2, oI cI 60 KL), (m3, oI cI 5400 KR), (m4, oI cI 12 KM), (m5, oI cI 12 KN), (m6, oI cI 60 KS), (m7, oI cI 60 KB), (m8, oI cI 12 KT), (m9, oI cI 61 (upd L2 d9 ((L2 d9)))), (m10, oI cI 61 (upd F2 d9 ((F2 d9)))), (m11, oI cI 61 E2)] := hD
                          refine lv_aload_n hx hb dX6_sections_211 rfl (lv_at hl 3 rfl) ?_
                          refine gf_X6_40 hx hb hg hown hK hP 0 rfl rfl dX6_sections_212 ?_
                          refine lv_iload_n hx hb dX6_sections_215 rfl (lv_at hl 6 rfl) ?_
                          refine lv_iload hx hb dX6_sections_216 (lv_at hl 0 rfl) ?_
                          refine lv_if_eq (tgt := 226) hx hb dX6_sections_218 (by decide) (fun _ => ?_) (fun h9 => absurd (by decide) h9)
                          refine lv_aload_n hx hb dX6_sections_226 rfl (lv_at hl 3 rfl) ?_
                          refine gf_X6_40 hx hb hg hown hK hP 0 rfl rfl dX6_sections_227 ?_
                          refine lv_iload_n hx hb dX6_sections_230 rfl (lv_at hl 6 rfl) ?_
                          refine ald hx hb hK hP 11 rfl rfl (by omega) dX6_sections_231 ?_
                          refine ast hx hb hK hP hD hS 11 rfl rfl (by omega) dX6_sections_232 (fun H locs hP hD hS => ?_)
                          have hP : va_P D vwCl [(m0, .inr (6, [.int ((nI 0)), .int (nI n), .ref m1, .ref m2, .int (nI rn), .ref m3, .int (nI mn), .ref m4, .ref m5, .int (nI pn), .ref m6, .int (nI sn), .int co, .ref m7, .ref m8, .ref m9, .ref m10, .ref m11])), (m1, oI cI 60 KP), (m2, oI cI 60 KL), (m3, oI cI 5400 KR), (m4, oI cI 12 KM), (m5, oI cI 12 KN), (m6, oI cI 60 KS), (m7, oI cI 60 KB), (m8, oI cI 12 KT), (m9, oI cI 61 (upd L2 d9 ((L2 d9)))), (m10, oI cI 61 (upd F2 d9 ((F2 d9)))), (m11, oI cI 61 (upd E2 d9 ((E2 d9))))] H := hP
                          have hD : va_D A [(m0, .inr (6, [.int ((nI 0)), .int (nI n), .ref m1, .ref m2, .int (nI rn), .ref m3, .int (nI mn), .ref m4, .ref m5, .int (nI pn), .ref m6, .int (nI sn), .int co, .ref m7, .ref m8, .ref m9, .ref m10, .ref m11])), (m1, oI cI 60 KP), (m2, oI cI 60 KL), (m3, oI cI 5400 KR), (m4, oI cI 12 KM), (m5, oI cI 12 KN), (m6, oI cI 60 KS), (m7, oI cI 60 KB), (m8, oI cI 12 KT), (m9, oI cI 61 (upd L2 d9 ((L2 d9)))), (m10, oI cI 61 (upd F2 d9 ((F2 d9)))), (m11, oI cI 61 (upd E2 d9 ((E2 d9))))] := hD
                          refine lv_iinc (v := nI (d9 + 1 + t + 1)) (lv' := [(4, .int (nI (d9 + 1 + t + 1))), (7, .int (nI 0)), (6, .int ((ff_W FW d9 (t + 1)))), (5, .int ((ff_C base bw KP LC d9 (t + 1)))), (0, .ref m0), (1, .int base), (2, .int bw), (3, .int (nI d9))]) hx hb dX6_sections_233 hl (k := 7) rfl (nI_1 _) (by decide) rfl (fun ls hl => ?_)
                          refine lv_goto (tgt := 80) hx hb dX6_sections_236 (by decide) ?_
                          rw [show d9 + 1 + t + 1 = d9 + 1 + (t + 1) by omega] at hl
                          exact ih_80 (t + 1) (_) (_) (_) _ _ _ (by omega) (ff_w1 hx1) (fun _ => by first | exact ff_w2 (Or.inl (by omega)) | exact ff_w2 (Or.inr (ff_w3 (hx2 (by omega)) (Or.inl c135))) | exact ff_w2 (Or.inr (ff_w3 (hx2 (by omega)) (Or.inr ⟨c146, i_nle.mp c157⟩))) | exact ff_w5 (hx2 (by omega)) (by omega) (fun q => q.elim c135 (fun q => by first | exact c146 q.1 | exact i_nlt.mpr c157 q.2))) (by omega) hP hD hS (lv_sub hl [4, 5, 6, 7, 0] rfl)
                        · skip
                          refine lv_iconst (v := nI 1) hx hb dX6_sections_160 (by decide) ?_
                          refine lv_goto (tgt := 165) hx hb dX6_sections_161 (by decide) ?_
                          refine lv_istore (lv' := [(7, .int (nI 1)), (6, .int ((ff_W FW d9 (t + 1)))), (5, .int ((ff_C base bw KP LC d9 (t + 1)))), (0, .ref m0), (1, .int base), (2, .int bw), (3, .int (nI d9)), (4, .int (nI (d9 + 1 + t)))]) hx hb dX6_sections_165 hl (by decide) rfl (fun ls hl => ?_)
                          refine lv_aload_n hx hb dX6_sections_167 rfl (lv_at hl 3 rfl) ?_
                          refine gf_X6_34 hx hb hg hown hK hP 0 rfl rfl dX6_sections_168 ?_
                          refine lv_iload_n hx hb dX6_sections_171 rfl (lv_at hl 6 rfl) ?_
                          refine lv_iload hx hb dX6_sections_172 (lv_at hl 0 rfl) ?_
                          refine lv_if_eq (tgt := 182) hx hb dX6_sections_174 (by decide) (fun h9 => absurd h9 (by decide)) (fun _ => ?_)
                          refine lv_iload hx hb dX6_sections_177 (lv_at hl 2 rfl) ?_
                          refine lv_goto (tgt := 188) hx hb dX6_sections_179 (by decide) ?_
                          refine ast hx hb hK hP hD hS 9 rfl rfl (by omega) dX6_sections_188 (fun H locs hP hD hS => ?_)
                          have hP : va_P D vwCl [(m0, .inr (6, [.int ((nI 0)), .int (nI n), .ref m1, .ref m2, .int (nI rn), .ref m3, .int (nI mn), .ref m4, .ref m5, .int (nI pn), .ref m6, .int (nI sn), .int co, .ref m7, .ref m8, .ref m9, .ref m10, .ref m11])), (m1, oI cI 60 KP), (m2, oI cI 60 KL), (m3, oI cI 5400 KR), (m4, oI cI 12 KM), (m5, oI cI 12 KN), (m6, oI cI 60 KS), (m7, oI cI 60 KB), (m8, oI cI 12 KT), (m9, oI cI 61 (upd L2 d9 ((ff_C base bw KP LC d9 (t + 1))))), (m10, oI cI 61 F2), (m11, oI cI 61 E2)] H := hP
                          have hD : va_D A [(m0, .inr (6, [.int ((nI 0)), .int (nI n), .ref m1, .ref m2, .int (nI rn), .ref m3, .int (nI mn), .ref m4, .ref m5, .int (nI pn), .ref m6, .int (nI sn), .int co, .ref m7, .ref m8, .ref m9, .ref m10, .ref m11])), (m1, oI cI 60 KP), (m2, oI cI 60 KL), (m3, oI cI 5400 KR), (m4, oI cI 12 KM), (m5, oI cI 12 KN), (m6, oI cI 60 KS), (m7, oI cI 60 KB), (m8, oI cI 12 KT), (m9, oI cI 61 (upd L2 d9 ((ff_C base bw KP LC d9 (t + 1))))), (m10, oI cI 61 F2), (m11, oI cI 61 E2)] := hD
                          refine lv_aload_n hx hb dX6_sections_189 rfl (lv_at hl 3 rfl) ?_
                          refine gf_X6_37 hx hb hg hown hK hP 0 rfl rfl dX6_sections_190 ?_
                          refine lv_iload_n hx hb dX6_sections_193 rfl (lv_at hl 6 rfl) ?_
                          refine lv_iload hx hb dX6_sections_194 (lv_at hl 0 rfl) ?_
                          refine lv_if_eq (tgt := 204) hx hb dX6_sections_196 (by decide) (fun h9 => absurd h9 (by decide)) (fun _ => ?_)
                          refine lv_iload hx hb dX6_sections_199 (lv_at hl 1 rfl) ?_
                          refine lv_goto (tgt := 210) hx hb dX6_sections_201 (by decide) ?_
                          refine ast hx hb hK hP hD hS 10 rfl rfl (by omega) dX6_sections_210 (fun H locs hP hD hS => ?_)
                          have hP : va_P D vwCl [(m0, .inr (6, [.int ((nI 0)), .int (nI n), .ref m1, .ref m2, .int (nI rn), .ref m3, .int (nI mn), .ref m4, .ref m5, .int (nI pn), .ref m6, .int (nI sn), .int co, .ref m7, .ref m8, .ref m9, .ref m10, .ref m11])), (m1, oI cI 60 KP), (m2, oI cI 60 KL), (m3, oI cI 5400 KR), (m4, oI cI 12 KM), (m5, oI cI 12 KN), (m6, oI cI 60 KS), (m7, oI cI 60 KB), (m8, oI cI 12 KT), (m9, oI cI 61 (upd L2 d9 ((ff_C base bw KP LC d9 (t + 1))))), (m10, oI cI 61 (upd F2 d9 ((ff_W FW d9 (t + 1))))), (m11, oI cI 61 E2)] H := hP
                          have hD : va_D A [(m0, .inr (6, [.int ((nI 0)), .int (nI n), .ref m1, .ref m2, .int (nI rn), .ref m3, .int (nI mn), .ref m4, .ref m5, .int (nI pn), .ref m6, .int (nI sn), .int co, .ref m7, .ref m8, .ref m9, .ref m10, .ref m11])), (m1, oI cI 60 KP), (m2, oI cI 60 KL), (m3, oI cI 5400 KR), (m4, oI cI 12 KM), (m5, oI cI 12 KN), (m6, oI cI 60 KS), (m7, oI cI 60 KB), (m8, oI cI 12 KT), (m9, oI cI 61 (upd L2 d9 ((ff_C base bw KP LC d9 (t + 1))))), (m10, oI cI 61 (upd F2 d9 ((ff_W FW d9 (t + 1))))), (m11, oI cI 61 E2)] := hD
                          refine lv_aload_n hx hb dX6_sections_211 rfl (lv_at hl 3 rfl) ?_
                          refine gf_X6_40 hx hb hg hown hK hP 0 rfl rfl dX6_sections_212 ?_
                          refine lv_iload_n hx hb dX6_sections_215 rfl (lv_at hl 6 rfl) ?_
                          refine lv_iload hx hb dX6_sections_216 (lv_at hl 0 rfl) ?_
                          refine lv_if_eq (tgt := 226) hx hb dX6_sections_218 (by decide) (fun h9 => absurd h9 (by decide)) (fun _ => ?_)
                          refine lv_iload hx hb dX6_sections_221 (lv_at hl 7 rfl) ?_
                          refine lv_goto (tgt := 232) hx hb dX6_sections_223 (by decide) ?_
                          refine ast hx hb hK hP hD hS 11 rfl rfl (by omega) dX6_sections_232 (fun H locs hP hD hS => ?_)
                          have hP : va_P D vwCl [(m0, .inr (6, [.int ((nI 0)), .int (nI n), .ref m1, .ref m2, .int (nI rn), .ref m3, .int (nI mn), .ref m4, .ref m5, .int (nI pn), .ref m6, .int (nI sn), .int co, .ref m7, .ref m8, .ref m9, .ref m10, .ref m11])), (m1, oI cI 60 KP), (m2, oI cI 60 KL), (m3, oI cI 5400 KR), (m4, oI cI 12 KM), (m5, oI cI 12 KN), (m6, oI cI 60 KS), (m7, oI cI 60 KB), (m8, oI cI 12 KT), (m9, oI cI 61 (upd L2 d9 ((ff_C base bw KP LC d9 (t + 1))))), (m10, oI cI 61 (upd F2 d9 ((ff_W FW d9 (t + 1))))), (m11, oI cI 61 (upd E2 d9 (nI (d9 + 1 + t))))] H := hP
                          have hD : va_D A [(m0, .inr (6, [.int ((nI 0)), .int (nI n), .ref m1, .ref m2, .int (nI rn), .ref m3, .int (nI mn), .ref m4, .ref m5, .int (nI pn), .ref m6, .int (nI sn), .int co, .ref m7, .ref m8, .ref m9, .ref m10, .ref m11])), (m1, oI cI 60 KP), (m2, oI cI 60 KL), (m3, oI cI 5400 KR), (m4, oI cI 12 KM), (m5, oI cI 12 KN), (m6, oI cI 60 KS), (m7, oI cI 60 KB), (m8, oI cI 12 KT), (m9, oI cI 61 (upd L2 d9 ((ff_C base bw KP LC d9 (t + 1))))), (m10, oI cI 61 (upd F2 d9 ((ff_W FW d9 (t + 1))))), (m11, oI cI 61 (upd E2 d9 (nI (d9 + 1 + t))))] := hD
                          refine lv_iinc (v := nI (d9 + 1 + t + 1)) (lv' := [(4, .int (nI (d9 + 1 + t + 1))), (7, .int (nI 1)), (6, .int ((ff_W FW d9 (t + 1)))), (5, .int ((ff_C base bw KP LC d9 (t + 1)))), (0, .ref m0), (1, .int base), (2, .int bw), (3, .int (nI d9))]) hx hb dX6_sections_233 hl (k := 7) rfl (nI_1 _) (by decide) rfl (fun ls hl => ?_)
                          refine lv_goto (tgt := 80) hx hb dX6_sections_236 (by decide) ?_
                          rw [show d9 + 1 + t + 1 = d9 + 1 + (t + 1) by omega] at hl
                          exact ih_80 (t + 1) (_) (_) (_) _ _ _ (by omega) (ff_w1 hx1) (fun _ => by first | exact ff_w2 (Or.inl (by omega)) | exact ff_w2 (Or.inr (ff_w3 (hx2 (by omega)) (Or.inl c135))) | exact ff_w2 (Or.inr (ff_w3 (hx2 (by omega)) (Or.inr ⟨c146, i_nle.mp c157⟩))) | exact ff_w5 (hx2 (by omega)) (by omega) (fun q => q.elim c135 (fun q => by first | exact c146 q.1 | exact i_nlt.mpr c157 q.2))) (by omega) hP hD hS (lv_sub hl [4, 5, 6, 7, 0] rfl)
            exact lp_80 (_ + 1) (0) (LC) (FW) (FE) _ _ _ (by omega) (fun x _ => ⟨rfl, rfl, rfl⟩) (fun h => absurd h (by omega)) (Nat.lt_succ_self _) hP hD hS (lv_sub hl [1, 2, 3, 4, 0] rfl)
      exact lp_71 (_ + 1) (n) (_) (_) (_) _ _ _ (Nat.le_refl _) (ff_Dok_0 _ _ _) (Nat.lt_succ_self _) hP hD hS (lv_sub hl [1, 2, 3, 0] rfl)
