theorem ff_G_fin {r : Nat → Nat → Nat} {least c q i : Nat} (hi : i = c) (hl : least ≤ q) (h1 : 1 ≤ q) (h6 : ff_cn r least (ff_ar c c) 60 = 0) (h2 : q ≤ 60) : ff_G (ff_cn r least (ff_ar c c)) q + (ff_F r q (ff_ar c i)).length = ff_G (ff_cn r least (ff_ar c c)) (q - 1) := by
  subst hi
  rw [← ff_G_n h1 h2 h6]
  congr 1
  exact (if_pos hl).symm
set_option maxHeartbeats 4000000 in
set_option maxRecDepth 100000 in
theorem c_find (l : Launch) (D : va_G) (cI : ClassId) (m0 m1 m2 m3 m4 m5 m6 m7 m8 m9 m10 m11 : Nat) (th co : Int32) (n rn mn pn sn : Nat) (KP KL KR KM KN KS KB KT KE KF KX : Nat → Int32) (hn : n ≤ 60) (hmn : mn ≤ 12) (fo up dn : Int32) : Ci l yX6_find cX6_find 8 (some .int) 2 0 0 D (tI cI) [.ref m0, .int fo, .int up, .int dn] [(m0, .inr (6, [.int th, .int (nI n), .ref m1, .ref m2, .int (nI rn), .ref m3, .int (nI mn), .ref m4, .ref m5, .int (nI pn), .ref m6, .int (nI sn), .int co, .ref m7, .ref m8, .ref m9, .ref m10, .ref m11])), (m1, oI cI 60 KP), (m2, oI cI 60 KL), (m3, oI cI 5400 KR), (m4, oI cI 12 KM), (m5, oI cI 12 KN), (m6, oI cI 60 KS), (m7, oI cI 60 KB), (m8, oI cI 12 KT), (m9, oI cI 61 KE), (m10, oI cI 61 KF), (m11, oI cI 61 KX)] (S := ff_S) (fun r u => (¬ okFi fo up dn ∧ r = nI 0 ∧ u = (ff_N (n) (rn) (mn) (pn) (sn) 0, ff_Z ((nI 1)) (co), ff_A14 (KP) (KL) (KR) (KM) (KN) (KS) (KB) (KT) (KE) (KF) (KX) (KX) (KX) (KX))) ∨ (okFi fo up dn ∧ mn = 0 ∧ r = nI 0 ∧ u = (ff_N (n) (rn) (mn) (pn) (sn) 0, ff_Z ((nI 2)) (co), ff_A14 (KP) (KL) (KR) (KM) (KN) (KS) (KB) (KT) (KE) (KF) (KX) (KX) (KX) (KX))) ∨ (okFi fo up dn ∧ 0 < mn ∧ ∃ ul : Nat → Int32, ff_hits (ff_pm n KP KL (ff_fill (ff_fp KM (cl fo) mn) KT mn) (ff_fl KN (cl fo) mn) mn up dn) n ul ∧ r = nI (ff_ct (ff_pm n KP KL (ff_fill (ff_fp KM (cl fo) mn) KT mn) (ff_fl KN (cl fo) mn) mn up dn) n) ∧ u = (ff_N (n) (rn) (mn) (ff_ct (ff_pm n KP KL (ff_fill (ff_fp KM (cl fo) mn) KT mn) (ff_fl KN (cl fo) mn) mn up dn) n) (sn) 0, ff_Z ((nI 0)) (co), ff_A14 (KP) (KL) (KR) (KM) (KN) (ul) (KB) (ff_fill (ff_fp KM (cl fo) mn) KT mn) (KE) (KF) (KX) (KX) (KX) (KX)))) (fun u => [(m0, .inr (6, [.int ((u.2.1 0)), .int (nI (u.1 0)), .ref m1, .ref m2, .int (nI (u.1 1)), .ref m3, .int (nI (u.1 2)), .ref m4, .ref m5, .int (nI (u.1 3)), .ref m6, .int (nI (u.1 4)), .int ((u.2.1 1)), .ref m7, .ref m8, .ref m9, .ref m10, .ref m11])), (m1, oI cI 60 (u.2.2 0)), (m2, oI cI 60 (u.2.2 1)), (m3, oI cI 5400 (u.2.2 2)), (m4, oI cI 12 (u.2.2 3)), (m5, oI cI 12 (u.2.2 4)), (m6, oI cI 60 (u.2.2 5)), (m7, oI cI 60 (u.2.2 6)), (m8, oI cI 12 (u.2.2 7)), (m9, oI cI 61 (u.2.2 8)), (m10, oI cI 61 (u.2.2 9)), (m11, oI cI 61 (u.2.2 10))]) := by
  refine Ci.of (own := RX6) (lv := [(0, .ref m0), (1, .int fo), (2, .int up), (3, .int dn)]) (by decide +kernel) rfl (Nat.le_of_ble_eq_true rfl) rfl (fun x u h => vp_nar_int _) ?_
  intro p e s m args below meth c Q A cx hK hP hD hA hret ls hl
  obtain ⟨hx, hb, hml, hown, hg⟩ := id cx
  have hS : va_S A s.heap s.heap [] := va_S.rf
  refine lv_aload_n hx hb dX6_find_0 rfl (lv_at hl 0 rfl) ?_
  refine lv_iconst (v := nI 0) hx hb dX6_find_1 (by decide) ?_
  refine pf_X6_46 hx hb hg hown hK hP hD hS 0 rfl (Nat.le_of_ble_eq_true rfl) dX6_find_2 (fun H locs hP hD hS => ?_)
  have hP : va_P D vwCl [(m0, .inr (6, [.int (nI 0), .int (nI n), .ref m1, .ref m2, .int (nI rn), .ref m3, .int (nI mn), .ref m4, .ref m5, .int (nI pn), .ref m6, .int (nI sn), .int co, .ref m7, .ref m8, .ref m9, .ref m10, .ref m11])), (m1, oI cI 60 KP), (m2, oI cI 60 KL), (m3, oI cI 5400 KR), (m4, oI cI 12 KM), (m5, oI cI 12 KN), (m6, oI cI 60 KS), (m7, oI cI 60 KB), (m8, oI cI 12 KT), (m9, oI cI 61 KE), (m10, oI cI 61 KF), (m11, oI cI 61 KX)] H := hP
  have hD : va_D A [(m0, .inr (6, [.int (nI 0), .int (nI n), .ref m1, .ref m2, .int (nI rn), .ref m3, .int (nI mn), .ref m4, .ref m5, .int (nI pn), .ref m6, .int (nI sn), .int co, .ref m7, .ref m8, .ref m9, .ref m10, .ref m11])), (m1, oI cI 60 KP), (m2, oI cI 60 KL), (m3, oI cI 5400 KR), (m4, oI cI 12 KM), (m5, oI cI 12 KN), (m6, oI cI 60 KS), (m7, oI cI 60 KB), (m8, oI cI 12 KT), (m9, oI cI 61 KE), (m10, oI cI 61 KF), (m11, oI cI 61 KX)] := hD
  refine lv_iload_n hx hb dX6_find_5 rfl (lv_at hl 1 rfl) ?_
  refine lv_i2l hx hb dX6_find_6 rfl ?_
  refine lv_lconst (v := 0) hx hb dX6_find_7 (by decide) ?_
  refine lv_ldc2 (v := 3) hx hb hown (hg _ wd_cl_X6_107) dX6_find_8 ?_
  refine Cp.callS (As := [.long ((Int32.toInt64 (fo))), .long ((0 : Int64)), .long ((3 : Int64))]) (rest := []) (cv_X6_70 hg ⟨Nat.le_of_ble_eq_true rfl, Nat.le_of_ble_eq_true rfl⟩) (k_isIn32 l D cI [] (fo) (nI 0) (nI 3) _ _ (by decide) (by decide)) cx hK hP [] rfl hS rfl hl.1 rfl (Nat.le_of_ble_eq_true rfl) dX6_find_11 ⟨Nat.zero_le _, Nat.zero_le _⟩ (fun H locs hP hS => ?_)
  refine lv_if_eq (tgt := 53) hx hb dX6_find_14 (by decide) (fun c14 => ?_) (fun c14 => ?_)
  · have c14 := bI_z.mp c14
    refine lv_iconst (v := nI 0) hx hb dX6_find_53 (by decide) ?_
    refine lv_istore (lv' := [(4, .int (nI 0)), (0, .ref m0), (1, .int fo), (2, .int up), (3, .int dn)]) hx hb dX6_find_54 hl (by decide) rfl (fun ls hl => ?_)
    refine lv_aload_n hx hb dX6_find_56 rfl (lv_at hl 1 rfl) ?_
    refine lv_iload hx hb dX6_find_57 (lv_at hl 0 rfl) ?_
    refine lv_iconst (v := nI 1) hx hb dX6_find_59 (by decide) ?_
    refine Ci.callV (As := [.int (nI 0), .int (nI 1)]) (rest := []) (wr := [(m1, oI cI 60 KP), (m2, oI cI 60 KL), (m3, oI cI 5400 KR), (m4, oI cI 12 KM), (m5, oI cI 12 KN), (m6, oI cI 60 KS), (m7, oI cI 60 KB), (m8, oI cI 12 KT), (m9, oI cI 61 KE), (m10, oI cI 61 KF), (m11, oI cI 61 KX)]) (wn := (fun _ => [(m0, .inr (6, [.int ((nI 1)), .int (nI n), .ref m1, .ref m2, .int (nI rn), .ref m3, .int (nI mn), .ref m4, .ref m5, .int (nI pn), .ref m6, .int (nI sn), .int co, .ref m7, .ref m8, .ref m9, .ref m10, .ref m11])), (m1, oI cI 60 KP), (m2, oI cI 60 KL), (m3, oI cI 5400 KR), (m4, oI cI 12 KM), (m5, oI cI 12 KN), (m6, oI cI 60 KS), (m7, oI cI 60 KB), (m8, oI cI 12 KT), (m9, oI cI 61 KE), (m10, oI cI 61 KF), (m11, oI cI 61 KX)])) (cv_X6_76 hg ⟨Nat.le_of_ble_eq_true rfl, Nat.le_of_ble_eq_true rfl⟩) (k_go0 l D cI m0 (.int (nI n)) (.ref m1) (.ref m2) (.int (nI rn)) (.ref m3) (.int (nI mn)) (.ref m4) (.ref m5) (.int (nI pn)) (.ref m6) (.int (nI sn)) (.int co) (.ref m7) (.ref m8) (.ref m9) (.ref m10) (.ref m11) 1 (by decide) (by decide)) cx hK hP hD hA [0] [1, 2, 3, 4, 5, 6, 7, 8, 9, 10, 11] [11, 0, 1, 2, 3, 4, 5, 6, 7, 8, 9, 10] rfl rfl (by decide) (fun _ => rfl) (rq := 0) rfl rfl rfl hS rfl hl.1 rfl (Nat.le_of_ble_eq_true rfl) dX6_find_60 ⟨Nat.le_refl _, Nat.le_refl _⟩ (fun H locs r60 _ p60 hP hD hS => ?_)
    subst p60
    refine lv_if_eq (tgt := 86) hx hb dX6_find_63 (by decide) (fun _ => ?_) (fun h9 => absurd (by decide) h9)
    refine lv_iconst (v := nI 0) hx hb dX6_find_86 (by decide) ?_
    exact hret _ _ 87 _ _ ((ff_N (n) (rn) (mn) (pn) (sn) 0, ff_Z ((nI 1)) (co), ff_A14 (KP) (KL) (KR) (KM) (KN) (KS) (KB) (KT) (KE) (KF) (KX) (KX) (KX) (KX))) (by first | exact Or.inr (Or.inl ⟨⟨⟨f9, hf9, rfl⟩, (by first | exact Or.inl ⟨c18, c22⟩ | exact Or.inr ⟨c34, c46⟩)⟩, c71, rfl, rfl⟩) | exact Or.inl ⟨fun h => by first | (obtain ⟨⟨f8, h1, e1⟩, _⟩ := h; exact c14 (by rw [e1]; exact ff_le h1 (by decide))) | exact h.2.elim (fun h => by first | exact c18 h.1 | exact c22 h.2) (fun h => by first | exact c34 h.1 | exact c46 h.2), rfl, rfl⟩) hP hD hS dX6_find_87
  · have c14 := bI_nz.mp c14
    obtain ⟨f9, hf9, rfl⟩ := ff_of (by decide) c14
    refine lv_iload_n hx hb dX6_find_17 rfl (lv_at hl 2 rfl) ?_
    refine lv_if_ne (tgt := 25) hx hb dX6_find_18 (by decide) (fun c18 => ?_) (fun c18 => ?_)
    · skip
      refine lv_iload_n hx hb dX6_find_25 rfl (lv_at hl 2 rfl) ?_
      refine lv_i2l hx hb dX6_find_26 rfl ?_
      refine lv_lconst (v := 1) hx hb dX6_find_27 (by decide) ?_
      refine lv_ldc2 (v := 9) hx hb hown (hg _ wd_cl_X6_112) dX6_find_28 ?_
      refine Cp.callS (As := [.long ((Int32.toInt64 (up))), .long ((1 : Int64)), .long ((9 : Int64))]) (rest := []) (cv_X6_70 hg ⟨Nat.le_of_ble_eq_true rfl, Nat.le_of_ble_eq_true rfl⟩) (k_isIn32 l D cI [] (up) (nI 1) (nI 9) _ _ (by decide) (by decide)) cx hK hP [] rfl hS rfl hl.1 rfl (Nat.le_of_ble_eq_true rfl) dX6_find_31 ⟨Nat.zero_le _, Nat.zero_le _⟩ (fun H locs hP hS => ?_)
      refine lv_if_eq (tgt := 53) hx hb dX6_find_34 (by decide) (fun c34 => ?_) (fun c34 => ?_)
      · have c34 := bI_z.mp c34
        refine lv_iconst (v := nI 0) hx hb dX6_find_53 (by decide) ?_
        refine lv_istore (lv' := [(4, .int (nI 0)), (0, .ref m0), (1, .int (nI f9)), (2, .int up), (3, .int dn)]) hx hb dX6_find_54 hl (by decide) rfl (fun ls hl => ?_)
        refine lv_aload_n hx hb dX6_find_56 rfl (lv_at hl 1 rfl) ?_
        refine lv_iload hx hb dX6_find_57 (lv_at hl 0 rfl) ?_
        refine lv_iconst (v := nI 1) hx hb dX6_find_59 (by decide) ?_
        refine Ci.callV (As := [.int (nI 0), .int (nI 1)]) (rest := []) (wr := [(m1, oI cI 60 KP), (m2, oI cI 60 KL), (m3, oI cI 5400 KR), (m4, oI cI 12 KM), (m5, oI cI 12 KN), (m6, oI cI 60 KS), (m7, oI cI 60 KB), (m8, oI cI 12 KT), (m9, oI cI 61 KE), (m10, oI cI 61 KF), (m11, oI cI 61 KX)]) (wn := (fun _ => [(m0, .inr (6, [.int ((nI 1)), .int (nI n), .ref m1, .ref m2, .int (nI rn), .ref m3, .int (nI mn), .ref m4, .ref m5, .int (nI pn), .ref m6, .int (nI sn), .int co, .ref m7, .ref m8, .ref m9, .ref m10, .ref m11])), (m1, oI cI 60 KP), (m2, oI cI 60 KL), (m3, oI cI 5400 KR), (m4, oI cI 12 KM), (m5, oI cI 12 KN), (m6, oI cI 60 KS), (m7, oI cI 60 KB), (m8, oI cI 12 KT), (m9, oI cI 61 KE), (m10, oI cI 61 KF), (m11, oI cI 61 KX)])) (cv_X6_76 hg ⟨Nat.le_of_ble_eq_true rfl, Nat.le_of_ble_eq_true rfl⟩) (k_go0 l D cI m0 (.int (nI n)) (.ref m1) (.ref m2) (.int (nI rn)) (.ref m3) (.int (nI mn)) (.ref m4) (.ref m5) (.int (nI pn)) (.ref m6) (.int (nI sn)) (.int co) (.ref m7) (.ref m8) (.ref m9) (.ref m10) (.ref m11) 1 (by decide) (by decide)) cx hK hP hD hA [0] [1, 2, 3, 4, 5, 6, 7, 8, 9, 10, 11] [11, 0, 1, 2, 3, 4, 5, 6, 7, 8, 9, 10] rfl rfl (by decide) (fun _ => rfl) (rq := 0) rfl rfl rfl hS rfl hl.1 rfl (Nat.le_of_ble_eq_true rfl) dX6_find_60 ⟨Nat.le_refl _, Nat.le_refl _⟩ (fun H locs r60 _ p60 hP hD hS => ?_)
        subst p60
        refine lv_if_eq (tgt := 86) hx hb dX6_find_63 (by decide) (fun _ => ?_) (fun h9 => absurd (by decide) h9)
        refine lv_iconst (v := nI 0) hx hb dX6_find_86 (by decide) ?_
        exact hret _ _ 87 _ _ ((ff_N (n) (rn) (mn) (pn) (sn) 0, ff_Z ((nI 1)) (co), ff_A14 (KP) (KL) (KR) (KM) (KN) (KS) (KB) (KT) (KE) (KF) (KX) (KX) (KX) (KX))) (by first | exact Or.inr (Or.inl ⟨⟨⟨f9, hf9, rfl⟩, (by first | exact Or.inl ⟨c18, c22⟩ | exact Or.inr ⟨c34, c46⟩)⟩, c71, rfl, rfl⟩) | exact Or.inl ⟨fun h => by first | (obtain ⟨⟨f8, h1, e1⟩, _⟩ := h; exact c14 (by rw [e1]; exact ff_le h1 (by decide))) | exact h.2.elim (fun h => by first | exact c18 h.1 | exact c22 h.2) (fun h => by first | exact c34 h.1 | exact c46 h.2), rfl, rfl⟩) hP hD hS dX6_find_87
      · have c34 := bI_nz.mp c34
        refine lv_iload_n hx hb dX6_find_37 rfl (lv_at hl 3 rfl) ?_
        refine lv_i2l hx hb dX6_find_38 rfl ?_
        refine lv_lconst (v := 1) hx hb dX6_find_39 (by decide) ?_
        refine lv_ldc2 (v := 9) hx hb hown (hg _ wd_cl_X6_112) dX6_find_40 ?_
        refine Cp.callS (As := [.long ((Int32.toInt64 (dn))), .long ((1 : Int64)), .long ((9 : Int64))]) (rest := []) (cv_X6_70 hg ⟨Nat.le_of_ble_eq_true rfl, Nat.le_of_ble_eq_true rfl⟩) (k_isIn32 l D cI [] (dn) (nI 1) (nI 9) _ _ (by decide) (by decide)) cx hK hP [] rfl hS rfl hl.1 rfl (Nat.le_of_ble_eq_true rfl) dX6_find_43 ⟨Nat.zero_le _, Nat.zero_le _⟩ (fun H locs hP hS => ?_)
        refine lv_if_eq (tgt := 53) hx hb dX6_find_46 (by decide) (fun c46 => ?_) (fun c46 => ?_)
        · have c46 := bI_z.mp c46
          refine lv_iconst (v := nI 0) hx hb dX6_find_53 (by decide) ?_
          refine lv_istore (lv' := [(4, .int (nI 0)), (0, .ref m0), (1, .int (nI f9)), (2, .int up), (3, .int dn)]) hx hb dX6_find_54 hl (by decide) rfl (fun ls hl => ?_)
          refine lv_aload_n hx hb dX6_find_56 rfl (lv_at hl 1 rfl) ?_
          refine lv_iload hx hb dX6_find_57 (lv_at hl 0 rfl) ?_
          refine lv_iconst (v := nI 1) hx hb dX6_find_59 (by decide) ?_
          refine Ci.callV (As := [.int (nI 0), .int (nI 1)]) (rest := []) (wr := [(m1, oI cI 60 KP), (m2, oI cI 60 KL), (m3, oI cI 5400 KR), (m4, oI cI 12 KM), (m5, oI cI 12 KN), (m6, oI cI 60 KS), (m7, oI cI 60 KB), (m8, oI cI 12 KT), (m9, oI cI 61 KE), (m10, oI cI 61 KF), (m11, oI cI 61 KX)]) (wn := (fun _ => [(m0, .inr (6, [.int ((nI 1)), .int (nI n), .ref m1, .ref m2, .int (nI rn), .ref m3, .int (nI mn), .ref m4, .ref m5, .int (nI pn), .ref m6, .int (nI sn), .int co, .ref m7, .ref m8, .ref m9, .ref m10, .ref m11])), (m1, oI cI 60 KP), (m2, oI cI 60 KL), (m3, oI cI 5400 KR), (m4, oI cI 12 KM), (m5, oI cI 12 KN), (m6, oI cI 60 KS), (m7, oI cI 60 KB), (m8, oI cI 12 KT), (m9, oI cI 61 KE), (m10, oI cI 61 KF), (m11, oI cI 61 KX)])) (cv_X6_76 hg ⟨Nat.le_of_ble_eq_true rfl, Nat.le_of_ble_eq_true rfl⟩) (k_go0 l D cI m0 (.int (nI n)) (.ref m1) (.ref m2) (.int (nI rn)) (.ref m3) (.int (nI mn)) (.ref m4) (.ref m5) (.int (nI pn)) (.ref m6) (.int (nI sn)) (.int co) (.ref m7) (.ref m8) (.ref m9) (.ref m10) (.ref m11) 1 (by decide) (by decide)) cx hK hP hD hA [0] [1, 2, 3, 4, 5, 6, 7, 8, 9, 10, 11] [11, 0, 1, 2, 3, 4, 5, 6, 7, 8, 9, 10] rfl rfl (by decide) (fun _ => rfl) (rq := 0) rfl rfl rfl hS rfl hl.1 rfl (Nat.le_of_ble_eq_true rfl) dX6_find_60 ⟨Nat.le_refl _, Nat.le_refl _⟩ (fun H locs r60 _ p60 hP hD hS => ?_)
          subst p60
          refine lv_if_eq (tgt := 86) hx hb dX6_find_63 (by decide) (fun _ => ?_) (fun h9 => absurd (by decide) h9)
          refine lv_iconst (v := nI 0) hx hb dX6_find_86 (by decide) ?_
          exact hret _ _ 87 _ _ ((ff_N (n) (rn) (mn) (pn) (sn) 0, ff_Z ((nI 1)) (co), ff_A14 (KP) (KL) (KR) (KM) (KN) (KS) (KB) (KT) (KE) (KF) (KX) (KX) (KX) (KX))) (by first | exact Or.inr (Or.inl ⟨⟨⟨f9, hf9, rfl⟩, (by first | exact Or.inl ⟨c18, c22⟩ | exact Or.inr ⟨c34, c46⟩)⟩, c71, rfl, rfl⟩) | exact Or.inl ⟨fun h => by first | (obtain ⟨⟨f8, h1, e1⟩, _⟩ := h; exact c14 (by rw [e1]; exact ff_le h1 (by decide))) | exact h.2.elim (fun h => by first | exact c18 h.1 | exact c22 h.2) (fun h => by first | exact c34 h.1 | exact c46 h.2), rfl, rfl⟩) hP hD hS dX6_find_87
        · have c46 := bI_nz.mp c46
          refine lv_iconst (v := nI 1) hx hb dX6_find_49 (by decide) ?_
          refine lv_goto (tgt := 54) hx hb dX6_find_50 (by decide) ?_
          refine lv_istore (lv' := [(4, .int (nI 1)), (0, .ref m0), (1, .int (nI f9)), (2, .int up), (3, .int dn)]) hx hb dX6_find_54 hl (by decide) rfl (fun ls hl => ?_)
          refine lv_aload_n hx hb dX6_find_56 rfl (lv_at hl 1 rfl) ?_
          refine lv_iload hx hb dX6_find_57 (lv_at hl 0 rfl) ?_
          refine lv_iconst (v := nI 1) hx hb dX6_find_59 (by decide) ?_
          refine Ci.callV (As := [.int (nI 1), .int (nI 1)]) (rest := []) (wr := [(m1, oI cI 60 KP), (m2, oI cI 60 KL), (m3, oI cI 5400 KR), (m4, oI cI 12 KM), (m5, oI cI 12 KN), (m6, oI cI 60 KS), (m7, oI cI 60 KB), (m8, oI cI 12 KT), (m9, oI cI 61 KE), (m10, oI cI 61 KF), (m11, oI cI 61 KX)]) (wn := (fun _ => [(m0, .inr (6, [.int (nI 0), .int (nI n), .ref m1, .ref m2, .int (nI rn), .ref m3, .int (nI mn), .ref m4, .ref m5, .int (nI pn), .ref m6, .int (nI sn), .int co, .ref m7, .ref m8, .ref m9, .ref m10, .ref m11])), (m1, oI cI 60 KP), (m2, oI cI 60 KL), (m3, oI cI 5400 KR), (m4, oI cI 12 KM), (m5, oI cI 12 KN), (m6, oI cI 60 KS), (m7, oI cI 60 KB), (m8, oI cI 12 KT), (m9, oI cI 61 KE), (m10, oI cI 61 KF), (m11, oI cI 61 KX)])) (cv_X6_76 hg ⟨Nat.le_of_ble_eq_true rfl, Nat.le_of_ble_eq_true rfl⟩) (k_go1 l D cI m0 (.int (nI n)) (.ref m1) (.ref m2) (.int (nI rn)) (.ref m3) (.int (nI mn)) (.ref m4) (.ref m5) (.int (nI pn)) (.ref m6) (.int (nI sn)) (.int co) (.ref m7) (.ref m8) (.ref m9) (.ref m10) (.ref m11) (nI 1)) cx hK hP hD hA [0] [1, 2, 3, 4, 5, 6, 7, 8, 9, 10, 11] [11, 0, 1, 2, 3, 4, 5, 6, 7, 8, 9, 10] rfl rfl (by decide) (fun _ => rfl) (rq := 0) rfl rfl rfl hS rfl hl.1 rfl (Nat.le_of_ble_eq_true rfl) dX6_find_60 ⟨Nat.le_refl _, Nat.le_refl _⟩ (fun H locs r60 _ p60 hP hD hS => ?_)
          subst p60
          refine lv_if_eq (tgt := 86) hx hb dX6_find_63 (by decide) (fun h9 => absurd h9 (by decide)) (fun _ => ?_)
          refine lv_aload_n hx hb dX6_find_66 rfl (lv_at hl 1 rfl) ?_
          refine lv_aload_n hx hb dX6_find_67 rfl (lv_at hl 1 rfl) ?_
          refine gf_X6_56 hx hb hg hown hK hP 0 rfl rfl dX6_find_68 ?_
          refine lv_if_le (tgt := 78) hx hb dX6_find_71 (by decide) (fun c71 => ?_) (fun c71 => ?_)
          · have c71 := (nz_le (by omega)).mp c71
            refine lv_iconst (v := nI 0) hx hb dX6_find_78 (by decide) ?_
            refine lv_iconst (v := nI 2) hx hb dX6_find_79 (by decide) ?_
            refine Ci.callV (As := [.int (nI 0), .int (nI 2)]) (rest := []) (wr := [(m1, oI cI 60 KP), (m2, oI cI 60 KL), (m3, oI cI 5400 KR), (m4, oI cI 12 KM), (m5, oI cI 12 KN), (m6, oI cI 60 KS), (m7, oI cI 60 KB), (m8, oI cI 12 KT), (m9, oI cI 61 KE), (m10, oI cI 61 KF), (m11, oI cI 61 KX)]) (wn := (fun _ => [(m0, .inr (6, [.int ((nI 2)), .int (nI n), .ref m1, .ref m2, .int (nI rn), .ref m3, .int (nI mn), .ref m4, .ref m5, .int (nI pn), .ref m6, .int (nI sn), .int co, .ref m7, .ref m8, .ref m9, .ref m10, .ref m11])), (m1, oI cI 60 KP), (m2, oI cI 60 KL), (m3, oI cI 5400 KR), (m4, oI cI 12 KM), (m5, oI cI 12 KN), (m6, oI cI 60 KS), (m7, oI cI 60 KB), (m8, oI cI 12 KT), (m9, oI cI 61 KE), (m10, oI cI 61 KF), (m11, oI cI 61 KX)])) (cv_X6_76 hg ⟨Nat.le_of_ble_eq_true rfl, Nat.le_of_ble_eq_true rfl⟩) (k_go0 l D cI m0 (.int (nI n)) (.ref m1) (.ref m2) (.int (nI rn)) (.ref m3) (.int (nI mn)) (.ref m4) (.ref m5) (.int (nI pn)) (.ref m6) (.int (nI sn)) (.int co) (.ref m7) (.ref m8) (.ref m9) (.ref m10) (.ref m11) 2 (by decide) (by decide)) cx hK hP hD hA [0] [1, 2, 3, 4, 5, 6, 7, 8, 9, 10, 11] [11, 0, 1, 2, 3, 4, 5, 6, 7, 8, 9, 10] rfl rfl (by decide) (fun _ => rfl) (rq := 0) rfl rfl rfl hS rfl hl.1 rfl (Nat.le_of_ble_eq_true rfl) dX6_find_80 ⟨Nat.le_refl _, Nat.le_refl _⟩ (fun H locs r80 _ p80 hP hD hS => ?_)
            subst p80
            refine lv_if_ne (tgt := 88) hx hb dX6_find_83 (by decide) (fun h9 => absurd (by decide) h9) (fun _ => ?_)
            refine lv_iconst (v := nI 0) hx hb dX6_find_86 (by decide) ?_
            exact hret _ _ 87 _ _ ((ff_N (n) (rn) (mn) (pn) (sn) 0, ff_Z ((nI 2)) (co), ff_A14 (KP) (KL) (KR) (KM) (KN) (KS) (KB) (KT) (KE) (KF) (KX) (KX) (KX) (KX))) (by first | exact Or.inr (Or.inl ⟨⟨⟨f9, hf9, rfl⟩, (by first | exact Or.inl ⟨c18, c22⟩ | exact Or.inr ⟨c34, c46⟩)⟩, c71, rfl, rfl⟩) | exact Or.inl ⟨fun h => by first | (obtain ⟨⟨f8, h1, e1⟩, _⟩ := h; exact c14 (by rw [e1]; exact ff_le h1 (by decide))) | exact h.2.elim (fun h => by first | exact c18 h.1 | exact c22 h.2) (fun h => by first | exact c34 h.1 | exact c46 h.2), rfl, rfl⟩) hP hD hS dX6_find_87
          · have c71 := mt (nz_le (by omega)).mpr c71
            refine lv_iconst (v := nI 1) hx hb dX6_find_74 (by decide) ?_
            refine lv_goto (tgt := 79) hx hb dX6_find_75 (by decide) ?_
            refine lv_iconst (v := nI 2) hx hb dX6_find_79 (by decide) ?_
            refine Ci.callV (As := [.int (nI 1), .int (nI 2)]) (rest := []) (wr := [(m1, oI cI 60 KP), (m2, oI cI 60 KL), (m3, oI cI 5400 KR), (m4, oI cI 12 KM), (m5, oI cI 12 KN), (m6, oI cI 60 KS), (m7, oI cI 60 KB), (m8, oI cI 12 KT), (m9, oI cI 61 KE), (m10, oI cI 61 KF), (m11, oI cI 61 KX)]) (wn := (fun _ => [(m0, .inr (6, [.int (nI 0), .int (nI n), .ref m1, .ref m2, .int (nI rn), .ref m3, .int (nI mn), .ref m4, .ref m5, .int (nI pn), .ref m6, .int (nI sn), .int co, .ref m7, .ref m8, .ref m9, .ref m10, .ref m11])), (m1, oI cI 60 KP), (m2, oI cI 60 KL), (m3, oI cI 5400 KR), (m4, oI cI 12 KM), (m5, oI cI 12 KN), (m6, oI cI 60 KS), (m7, oI cI 60 KB), (m8, oI cI 12 KT), (m9, oI cI 61 KE), (m10, oI cI 61 KF), (m11, oI cI 61 KX)])) (cv_X6_76 hg ⟨Nat.le_of_ble_eq_true rfl, Nat.le_of_ble_eq_true rfl⟩) (k_go1 l D cI m0 (.int (nI n)) (.ref m1) (.ref m2) (.int (nI rn)) (.ref m3) (.int (nI mn)) (.ref m4) (.ref m5) (.int (nI pn)) (.ref m6) (.int (nI sn)) (.int co) (.ref m7) (.ref m8) (.ref m9) (.ref m10) (.ref m11) (nI 2)) cx hK hP hD hA [0] [1, 2, 3, 4, 5, 6, 7, 8, 9, 10, 11] [11, 0, 1, 2, 3, 4, 5, 6, 7, 8, 9, 10] rfl rfl (by decide) (fun _ => rfl) (rq := 0) rfl rfl rfl hS rfl hl.1 rfl (Nat.le_of_ble_eq_true rfl) dX6_find_80 ⟨Nat.le_refl _, Nat.le_refl _⟩ (fun H locs r80 _ p80 hP hD hS => ?_)
            subst p80
            refine lv_if_ne (tgt := 88) hx hb dX6_find_83 (by decide) (fun _ => ?_) (fun h9 => absurd h9 (by decide))
            refine lv_iconst (v := nI 0) hx hb dX6_find_88 (by decide) ?_
            refine lv_istore (lv' := [(5, .int (nI 0)), (4, .int (nI 1)), (0, .ref m0), (1, .int (nI f9)), (2, .int up), (3, .int dn)]) hx hb dX6_find_89 hl (by decide) rfl (fun ls hl => ?_)
            rw [← ff_fill_0 (ff_fp KM f9 mn) KT] at hP hD
            have lp_91 : ∀ (k : Nat) (w9 : Nat) (H : Heap) (locs : List Loc) (ls : Array Slot), (w9 ≤ mn) → (mn - w9 < k) → va_P D vwCl [(m0, .inr (6, [.int ((nI 0)), .int (nI n), .ref m1, .ref m2, .int (nI rn), .ref m3, .int (nI mn), .ref m4, .ref m5, .int (nI pn), .ref m6, .int (nI sn), .int co, .ref m7, .ref m8, .ref m9, .ref m10, .ref m11])), (m1, oI cI 60 KP), (m2, oI cI 60 KL), (m3, oI cI 5400 KR), (m4, oI cI 12 KM), (m5, oI cI 12 KN), (m6, oI cI 60 KS), (m7, oI cI 60 KB), (m8, oI cI 12 (ff_fill (ff_fp KM f9 mn) KT w9)), (m9, oI cI 61 KE), (m10, oI cI 61 KF), (m11, oI cI 61 KX)] H → va_D A [(m0, .inr (6, [.int ((nI 0)), .int (nI n), .ref m1, .ref m2, .int (nI rn), .ref m3, .int (nI mn), .ref m4, .ref m5, .int (nI pn), .ref m6, .int (nI sn), .int co, .ref m7, .ref m8, .ref m9, .ref m10, .ref m11])), (m1, oI cI 60 KP), (m2, oI cI 60 KL), (m3, oI cI 5400 KR), (m4, oI cI 12 KM), (m5, oI cI 12 KN), (m6, oI cI 60 KS), (m7, oI cI 60 KB), (m8, oI cI 12 (ff_fill (ff_fp KM f9 mn) KT w9)), (m9, oI cI 61 KE), (m10, oI cI 61 KF), (m11, oI cI 61 KX)] → va_S A s.heap H locs → lv_has ls 8 [(0, .ref m0), (1, .int (nI f9)), (2, .int up), (3, .int dn), (5, .int (nI w9))] → W p l e (rr 2 0 0) s m args below meth c H locs 0 0 Q (F0 m 91 ls []) := by
              intro k
              induction k with
              | zero =>
                intro w9 H locs ls hw hk
                exact absurd hk (Nat.not_lt_zero _)
              | succ k ih_91 =>
                intro w9 H locs ls hw hk hP hD hS hl
                refine lv_iload hx hb dX6_find_91 (lv_at hl 4 rfl) ?_
                refine lv_aload_n hx hb dX6_find_93 rfl (lv_at hl 0 rfl) ?_
                refine gf_X6_56 hx hb hg hown hK hP 0 rfl rfl dX6_find_94 ?_
                refine lv_icmp_ge (tgt := 120) hx hb dX6_find_97 (by decide) (fun c97 => ?_) (fun c97 => ?_)
                · have c97 := (nI_leI (by omega) (by omega)).mp c97
                  obtain rfl : mn = w9 := by omega
                  refine lv_aload_n hx hb dX6_find_120 rfl (lv_at hl 0 rfl) ?_
                  refine lv_iconst (v := nI 0) hx hb dX6_find_121 (by decide) ?_
                  refine pf_X6_59 hx hb hg hown hK hP hD hS 0 rfl (Nat.le_of_ble_eq_true rfl) dX6_find_122 (fun H locs hP hD hS => ?_)
                  have hP : va_P D vwCl [(m0, .inr (6, [.int ((nI 0)), .int (nI n), .ref m1, .ref m2, .int (nI rn), .ref m3, .int (nI mn), .ref m4, .ref m5, .int (nI 0), .ref m6, .int (nI sn), .int co, .ref m7, .ref m8, .ref m9, .ref m10, .ref m11])), (m1, oI cI 60 KP), (m2, oI cI 60 KL), (m3, oI cI 5400 KR), (m4, oI cI 12 KM), (m5, oI cI 12 KN), (m6, oI cI 60 KS), (m7, oI cI 60 KB), (m8, oI cI 12 (ff_fill (ff_fp KM f9 mn) KT mn)), (m9, oI cI 61 KE), (m10, oI cI 61 KF), (m11, oI cI 61 KX)] H := hP
                  have hD : va_D A [(m0, .inr (6, [.int ((nI 0)), .int (nI n), .ref m1, .ref m2, .int (nI rn), .ref m3, .int (nI mn), .ref m4, .ref m5, .int (nI 0), .ref m6, .int (nI sn), .int co, .ref m7, .ref m8, .ref m9, .ref m10, .ref m11])), (m1, oI cI 60 KP), (m2, oI cI 60 KL), (m3, oI cI 5400 KR), (m4, oI cI 12 KM), (m5, oI cI 12 KN), (m6, oI cI 60 KS), (m7, oI cI 60 KB), (m8, oI cI 12 (ff_fill (ff_fp KM f9 mn) KT mn)), (m9, oI cI 61 KE), (m10, oI cI 61 KF), (m11, oI cI 61 KX)] := hD
                  refine lv_iconst (v := nI 0) hx hb dX6_find_125 (by decide) ?_
                  refine lv_istore (lv' := [(5, .int (nI 0)), (0, .ref m0), (1, .int (nI f9)), (2, .int up), (3, .int dn)]) hx hb dX6_find_126 hl (by decide) rfl (fun ls hl => ?_)
                  have lp_128 : ∀ (k : Nat) (z : Nat) (G : Nat → Int32) (H : Heap) (locs : List Loc) (ls : Array Slot), (z ≤ n) → (ff_hits (ff_pm n KP KL (ff_fill (ff_fp KM f9 mn) KT mn) (ff_fl KN f9 mn) mn up dn) z G) → (n - z < k) → va_P D vwCl [(m0, .inr (6, [.int ((nI 0)), .int (nI n), .ref m1, .ref m2, .int (nI rn), .ref m3, .int (nI mn), .ref m4, .ref m5, .int (nI (ff_ct (ff_pm n KP KL (ff_fill (ff_fp KM f9 mn) KT mn) (ff_fl KN f9 mn) mn up dn) z)), .ref m6, .int (nI sn), .int co, .ref m7, .ref m8, .ref m9, .ref m10, .ref m11])), (m1, oI cI 60 KP), (m2, oI cI 60 KL), (m3, oI cI 5400 KR), (m4, oI cI 12 KM), (m5, oI cI 12 KN), (m6, oI cI 60 G), (m7, oI cI 60 KB), (m8, oI cI 12 (ff_fill (ff_fp KM f9 mn) KT mn)), (m9, oI cI 61 KE), (m10, oI cI 61 KF), (m11, oI cI 61 KX)] H → va_D A [(m0, .inr (6, [.int ((nI 0)), .int (nI n), .ref m1, .ref m2, .int (nI rn), .ref m3, .int (nI mn), .ref m4, .ref m5, .int (nI (ff_ct (ff_pm n KP KL (ff_fill (ff_fp KM f9 mn) KT mn) (ff_fl KN f9 mn) mn up dn) z)), .ref m6, .int (nI sn), .int co, .ref m7, .ref m8, .ref m9, .ref m10, .ref m11])), (m1, oI cI 60 KP), (m2, oI cI 60 KL), (m3, oI cI 5400 KR), (m4, oI cI 12 KM), (m5, oI cI 12 KN), (m6, oI cI 60 G), (m7, oI cI 60 KB), (m8, oI cI 12 (ff_fill (ff_fp KM f9 mn) KT mn)), (m9, oI cI 61 KE), (m10, oI cI 61 KF), (m11, oI cI 61 KX)] → va_S A s.heap H locs → lv_has ls 8 [(0, .ref m0), (1, .int (nI f9)), (2, .int up), (3, .int dn), (5, .int (nI z))] → W p l e (rr 2 0 0) s m args below meth c H locs 0 0 Q (F0 m 128 ls []) := by
                    intro k
                    induction k with
                    | zero =>
                      intro z G H locs ls hz hG hk
                      exact absurd hk (Nat.not_lt_zero _)
                    | succ k ih_128 =>
                      intro z G H locs ls hz hG hk hP hD hS hl
                      have hcz := ff_ct_le (ff_pm n KP KL (ff_fill (ff_fp KM f9 mn) KT mn) (ff_fl KN f9 mn) mn up dn) z
                      refine lv_iload hx hb dX6_find_128 (lv_at hl 4 rfl) ?_
                      refine lv_aload_n hx hb dX6_find_130 rfl (lv_at hl 0 rfl) ?_
                      refine gf_X6_50 hx hb hg hown hK hP 0 rfl rfl dX6_find_131 ?_
                      refine lv_icmp_ge (tgt := 236) hx hb dX6_find_134 (by decide) (fun c134 => ?_) (fun c134 => ?_)
                      · have c134 := (nI_leI (by omega) (by omega)).mp c134
                        obtain rfl : n = z := by omega
                        refine lv_aload_n hx hb dX6_find_236 rfl (lv_at hl 0 rfl) ?_
                        refine gf_X6_59 hx hb hg hown hK hP 0 rfl rfl dX6_find_237 ?_
                        exact hret _ _ 240 _ _ ((ff_N (n) (rn) (mn) (ff_ct (ff_pm n KP KL (ff_fill (ff_fp KM f9 mn) KT mn) (ff_fl KN f9 mn) mn up dn) n) (sn) 0, ff_Z ((nI 0)) (co), ff_A14 (KP) (KL) (KR) (KM) (KN) (G) (KB) (ff_fill (ff_fp KM f9 mn) KT mn) (KE) (KF) (KX) (KX) (KX) (KX))) (Or.inr (Or.inr ⟨⟨⟨f9, hf9, rfl⟩, (by first | exact Or.inl ⟨c18, c22⟩ | exact Or.inr ⟨c34, c46⟩)⟩, by omega, G, by rw [cl_n (by omega)]; exact ⟨hG, rfl, rfl⟩⟩)) hP hD hS dX6_find_240
                      · have c134 := mt (nI_leI (by omega) (by omega)).mpr c134
                        refine lv_aload_n hx hb dX6_find_137 rfl (lv_at hl 0 rfl) ?_
                        refine lv_iload hx hb dX6_find_138 (lv_at hl 4 rfl) ?_
                        refine Cp.callV (As := [.int (nI z)]) (rest := []) (cv_X6_114 hg ⟨Nat.le_of_ble_eq_true rfl, Nat.le_of_ble_eq_true rfl⟩) (k_goes l D cI m0 m1 m2 m3 m4 m5 m6 m7 m8 m9 m10 m11 ((nI 0)) (co) (n) (rn) (mn) (ff_ct (ff_pm n KP KL (ff_fill (ff_fp KM f9 mn) KT mn) (ff_fl KN f9 mn) mn up dn) z) (sn) KP (ff_fill (ff_fp KM f9 mn) KT mn) z (by omega) hn (by omega) hmn) cx hK hP [0, 1, 8] rfl (rq := 0) rfl rfl rfl hS rfl hl.1 rfl (Nat.le_of_ble_eq_true rfl) dX6_find_140 ⟨Nat.zero_le _, Nat.zero_le _⟩ (fun H locs hP hS => ?_)
                        refine lv_asi (y := bI (ff_go n KP (ff_fill (ff_fp KM f9 mn) KT mn) mn z = true ∧ ff_all (fun t => decide (KL (z + t) * dn = ff_fl KN f9 mn t * up)) 0 = true)) (bI_if ⟨fun h => ⟨h, rfl⟩, fun h => h.1⟩) ?_
                        refine lv_istore (lv' := [(6, .int (bI (ff_go n KP (ff_fill (ff_fp KM f9 mn) KT mn) mn z = true ∧ ff_all (fun t => decide (KL (z + t) * dn = ff_fl KN f9 mn t * up)) 0 = true))), (0, .ref m0), (1, .int (nI f9)), (2, .int up), (3, .int dn), (5, .int (nI z))]) hx hb dX6_find_143 hl (by decide) rfl (fun ls hl => ?_)
                        refine lv_iconst (v := nI 0) hx hb dX6_find_145 (by decide) ?_
                        refine lv_istore (lv' := [(7, .int (nI 0)), (6, .int (bI (ff_go n KP (ff_fill (ff_fp KM f9 mn) KT mn) mn z = true ∧ ff_all (fun t => decide (KL (z + t) * dn = ff_fl KN f9 mn t * up)) 0 = true))), (0, .ref m0), (1, .int (nI f9)), (2, .int up), (3, .int dn), (5, .int (nI z))]) hx hb dX6_find_146 hl (by decide) rfl (fun ls hl => ?_)
                        have lp_148 : ∀ (k : Nat) (t : Nat) (H : Heap) (locs : List Loc) (ls : Array Slot), (t ≤ mn) → (mn - t < k) → va_P D vwCl [(m0, .inr (6, [.int ((nI 0)), .int (nI n), .ref m1, .ref m2, .int (nI rn), .ref m3, .int (nI mn), .ref m4, .ref m5, .int (nI (ff_ct (ff_pm n KP KL (ff_fill (ff_fp KM f9 mn) KT mn) (ff_fl KN f9 mn) mn up dn) z)), .ref m6, .int (nI sn), .int co, .ref m7, .ref m8, .ref m9, .ref m10, .ref m11])), (m1, oI cI 60 KP), (m2, oI cI 60 KL), (m3, oI cI 5400 KR), (m4, oI cI 12 KM), (m5, oI cI 12 KN), (m6, oI cI 60 G), (m7, oI cI 60 KB), (m8, oI cI 12 (ff_fill (ff_fp KM f9 mn) KT mn)), (m9, oI cI 61 KE), (m10, oI cI 61 KF), (m11, oI cI 61 KX)] H → va_D A [(m0, .inr (6, [.int ((nI 0)), .int (nI n), .ref m1, .ref m2, .int (nI rn), .ref m3, .int (nI mn), .ref m4, .ref m5, .int (nI (ff_ct (ff_pm n KP KL (ff_fill (ff_fp KM f9 mn) KT mn) (ff_fl KN f9 mn) mn up dn) z)), .ref m6, .int (nI sn), .int co, .ref m7, .ref m8, .ref m9, .ref m10, .ref m11])), (m1, oI cI 60 KP), (m2, oI cI 60 KL), (m3, oI cI 5400 KR), (m4, oI cI 12 KM), (m5, oI cI 12 KN), (m6, oI cI 60 G), (m7, oI cI 60 KB), (m8, oI cI 12 (ff_fill (ff_fp KM f9 mn) KT mn)), (m9, oI cI 61 KE), (m10, oI cI 61 KF), (m11, oI cI 61 KX)] → va_S A s.heap H locs → lv_has ls 8 [(0, .ref m0), (1, .int (nI f9)), (2, .int up), (3, .int dn), (5, .int (nI z)), (6, .int (bI (ff_go n KP (ff_fill (ff_fp KM f9 mn) KT mn) mn z = true ∧ ff_all (fun t => decide (KL (z + t) * dn = ff_fl KN f9 mn t * up)) t = true))), (7, .int (nI t))] → W p l e (rr 2 0 0) s m args below meth c H locs 0 0 Q (F0 m 148 ls []) := by
                          intro k
                          induction k with
                          | zero =>
                            intro t H locs ls ht hk
                            exact absurd hk (Nat.not_lt_zero _)
                          | succ k ih_148 =>
                            intro t H locs ls ht hk hP hD hS hl
                            refine lv_iload hx hb dX6_find_148 (lv_at hl 6 rfl) ?_
                            refine lv_aload_n hx hb dX6_find_150 rfl (lv_at hl 0 rfl) ?_
                            refine gf_X6_56 hx hb hg hown hK hP 0 rfl rfl dX6_find_151 ?_
                            refine lv_icmp_ge (tgt := 204) hx hb dX6_find_154 (by decide) (fun c154 => ?_) (fun c154 => ?_)
                            · have c154 := (nI_leI (by omega) (by omega)).mp c154
                              refine lv_iload hx hb dX6_find_204 (lv_at hl 5 rfl) ?_
                              refine lv_if_eq (tgt := 230) hx hb dX6_find_206 (by decide) (fun c206 => ?_) (fun c206 => ?_)
                              · have c206 := bI_z.mp c206
                                have hnp : ¬ ff_pm n KP KL (ff_fill (ff_fp KM f9 mn) KT mn) (ff_fl KN f9 mn) mn up dn z = true := ff_pm_f (by omega) c206
                                have e9 : ff_ct (ff_pm n KP KL (ff_fill (ff_fp KM f9 mn) KT mn) (ff_fl KN f9 mn) mn up dn) (z + 1) = ff_ct (ff_pm n KP KL (ff_fill (ff_fp KM f9 mn) KT mn) (ff_fl KN f9 mn) mn up dn) z := ff_ct_f hnp
                                refine lv_iinc (v := nI (z + 1)) (lv' := [(5, .int (nI (z + 1))), (0, .ref m0), (1, .int (nI f9)), (2, .int up), (3, .int dn), (6, .int (bI (ff_go n KP (ff_fill (ff_fp KM f9 mn) KT mn) mn z = true ∧ ff_all (fun t => decide (KL (z + t) * dn = ff_fl KN f9 mn t * up)) t = true))), (7, .int (nI t))]) hx hb dX6_find_230 hl (k := 4) rfl (nI_1 _) (by decide) rfl (fun ls hl => ?_)
                                refine lv_goto (tgt := 128) hx hb dX6_find_233 (by decide) ?_
                                rw [← e9] at hP hD
                                exact ih_128 (z + 1) (_) _ _ _ (by omega) (by first | exact ff_hits_t hG | exact ff_hits_f hG hnp) (by omega) hP hD hS (lv_sub hl [1, 2, 3, 4, 0] rfl)
                              · have c206 := bI_nz.mp c206
                                have hyp : ff_pm n KP KL (ff_fill (ff_fp KM f9 mn) KT mn) (ff_fl KN f9 mn) mn up dn z = true := by first | exact ff_pm_t (by omega) c206 | exact absurd c206 c159
                                have e9 : ff_ct (ff_pm n KP KL (ff_fill (ff_fp KM f9 mn) KT mn) (ff_fl KN f9 mn) mn up dn) (z + 1) = ff_ct (ff_pm n KP KL (ff_fill (ff_fp KM f9 mn) KT mn) (ff_fl KN f9 mn) mn up dn) z + 1 := ff_ct_t hyp
                                refine lv_aload_n hx hb dX6_find_209 rfl (lv_at hl 0 rfl) ?_
                                refine gf_X6_25 hx hb hg hown hK hP 0 rfl rfl dX6_find_210 ?_
                                refine lv_aload_n hx hb dX6_find_213 rfl (lv_at hl 0 rfl) ?_
                                refine gf_X6_59 hx hb hg hown hK hP 0 rfl rfl dX6_find_214 ?_
                                refine lv_iload hx hb dX6_find_217 (lv_at hl 4 rfl) ?_
                                refine ast hx hb hK hP hD hS 6 rfl rfl (by omega) dX6_find_219 (fun H locs hP hD hS => ?_)
                                have hP : va_P D vwCl [(m0, .inr (6, [.int ((nI 0)), .int (nI n), .ref m1, .ref m2, .int (nI rn), .ref m3, .int (nI mn), .ref m4, .ref m5, .int (nI (ff_ct (ff_pm n KP KL (ff_fill (ff_fp KM f9 mn) KT mn) (ff_fl KN f9 mn) mn up dn) z)), .ref m6, .int (nI sn), .int co, .ref m7, .ref m8, .ref m9, .ref m10, .ref m11])), (m1, oI cI 60 KP), (m2, oI cI 60 KL), (m3, oI cI 5400 KR), (m4, oI cI 12 KM), (m5, oI cI 12 KN), (m6, oI cI 60 (upd G (ff_ct (ff_pm n KP KL (ff_fill (ff_fp KM f9 mn) KT mn) (ff_fl KN f9 mn) mn up dn) z) (nI z))), (m7, oI cI 60 KB), (m8, oI cI 12 (ff_fill (ff_fp KM f9 mn) KT mn)), (m9, oI cI 61 KE), (m10, oI cI 61 KF), (m11, oI cI 61 KX)] H := hP
                                have hD : va_D A [(m0, .inr (6, [.int ((nI 0)), .int (nI n), .ref m1, .ref m2, .int (nI rn), .ref m3, .int (nI mn), .ref m4, .ref m5, .int (nI (ff_ct (ff_pm n KP KL (ff_fill (ff_fp KM f9 mn) KT mn) (ff_fl KN f9 mn) mn up dn) z)), .ref m6, .int (nI sn), .int co, .ref m7, .ref m8, .ref m9, .ref m10, .ref m11])), (m1, oI cI 60 KP), (m2, oI cI 60 KL), (m3, oI cI 5400 KR), (m4, oI cI 12 KM), (m5, oI cI 12 KN), (m6, oI cI 60 (upd G (ff_ct (ff_pm n KP KL (ff_fill (ff_fp KM f9 mn) KT mn) (ff_fl KN f9 mn) mn up dn) z) (nI z))), (m7, oI cI 60 KB), (m8, oI cI 12 (ff_fill (ff_fp KM f9 mn) KT mn)), (m9, oI cI 61 KE), (m10, oI cI 61 KF), (m11, oI cI 61 KX)] := hD
                                refine lv_aload_n hx hb dX6_find_220 rfl (lv_at hl 0 rfl) ?_
                                refine lv_dup hx hb dX6_find_221 rfl ?_
                                refine gf_X6_59 hx hb hg hown hK hP 0 rfl rfl dX6_find_222 ?_
                                refine lv_iconst (v := nI 1) hx hb dX6_find_225 (by decide) ?_
                                refine lv_iadd hx hb dX6_find_226 ?_
                                refine lv_asi (nI_add _ _) ?_
                                refine pf_X6_59 hx hb hg hown hK hP hD hS 0 rfl (Nat.le_of_ble_eq_true rfl) dX6_find_227 (fun H locs hP hD hS => ?_)
                                have hP : va_P D vwCl [(m0, .inr (6, [.int ((nI 0)), .int (nI n), .ref m1, .ref m2, .int (nI rn), .ref m3, .int (nI mn), .ref m4, .ref m5, .int (nI (ff_ct (ff_pm n KP KL (ff_fill (ff_fp KM f9 mn) KT mn) (ff_fl KN f9 mn) mn up dn) z + 1)), .ref m6, .int (nI sn), .int co, .ref m7, .ref m8, .ref m9, .ref m10, .ref m11])), (m1, oI cI 60 KP), (m2, oI cI 60 KL), (m3, oI cI 5400 KR), (m4, oI cI 12 KM), (m5, oI cI 12 KN), (m6, oI cI 60 (upd G (ff_ct (ff_pm n KP KL (ff_fill (ff_fp KM f9 mn) KT mn) (ff_fl KN f9 mn) mn up dn) z) (nI z))), (m7, oI cI 60 KB), (m8, oI cI 12 (ff_fill (ff_fp KM f9 mn) KT mn)), (m9, oI cI 61 KE), (m10, oI cI 61 KF), (m11, oI cI 61 KX)] H := hP
                                have hD : va_D A [(m0, .inr (6, [.int ((nI 0)), .int (nI n), .ref m1, .ref m2, .int (nI rn), .ref m3, .int (nI mn), .ref m4, .ref m5, .int (nI (ff_ct (ff_pm n KP KL (ff_fill (ff_fp KM f9 mn) KT mn) (ff_fl KN f9 mn) mn up dn) z + 1)), .ref m6, .int (nI sn), .int co, .ref m7, .ref m8, .ref m9, .ref m10, .ref m11])), (m1, oI cI 60 KP), (m2, oI cI 60 KL), (m3, oI cI 5400 KR), (m4, oI cI 12 KM), (m5, oI cI 12 KN), (m6, oI cI 60 (upd G (ff_ct (ff_pm n KP KL (ff_fill (ff_fp KM f9 mn) KT mn) (ff_fl KN f9 mn) mn up dn) z) (nI z))), (m7, oI cI 60 KB), (m8, oI cI 12 (ff_fill (ff_fp KM f9 mn) KT mn)), (m9, oI cI 61 KE), (m10, oI cI 61 KF), (m11, oI cI 61 KX)] := hD
                                refine lv_iinc (v := nI (z + 1)) (lv' := [(5, .int (nI (z + 1))), (0, .ref m0), (1, .int (nI f9)), (2, .int up), (3, .int dn), (6, .int (bI (ff_go n KP (ff_fill (ff_fp KM f9 mn) KT mn) mn z = true ∧ ff_all (fun t => decide (KL (z + t) * dn = ff_fl KN f9 mn t * up)) t = true))), (7, .int (nI t))]) hx hb dX6_find_230 hl (k := 4) rfl (nI_1 _) (by decide) rfl (fun ls hl => ?_)
                                refine lv_goto (tgt := 128) hx hb dX6_find_233 (by decide) ?_
                                rw [← e9] at hP hD
                                exact ih_128 (z + 1) (_) _ _ _ (by omega) (by first | exact ff_hits_t hG | exact ff_hits_f hG hnp) (by omega) hP hD hS (lv_sub hl [1, 2, 3, 4, 0] rfl)
                            · have c154 := mt (nI_leI (by omega) (by omega)).mpr c154
                              refine lv_iload hx hb dX6_find_157 (lv_at hl 5 rfl) ?_
                              refine lv_if_eq (tgt := 204) hx hb dX6_find_159 (by decide) (fun c159 => ?_) (fun c159 => ?_)
                              · have c159 := bI_z.mp c159
                                refine lv_iload hx hb dX6_find_204 (lv_at hl 5 rfl) ?_
                                refine lv_if_eq (tgt := 230) hx hb dX6_find_206 (by decide) (fun c206 => ?_) (fun c206 => ?_)
                                · have c206 := bI_z.mp c206
                                  have hnp : ¬ ff_pm n KP KL (ff_fill (ff_fp KM f9 mn) KT mn) (ff_fl KN f9 mn) mn up dn z = true := ff_pm_f (by omega) c206
                                  have e9 : ff_ct (ff_pm n KP KL (ff_fill (ff_fp KM f9 mn) KT mn) (ff_fl KN f9 mn) mn up dn) (z + 1) = ff_ct (ff_pm n KP KL (ff_fill (ff_fp KM f9 mn) KT mn) (ff_fl KN f9 mn) mn up dn) z := ff_ct_f hnp
                                  refine lv_iinc (v := nI (z + 1)) (lv' := [(5, .int (nI (z + 1))), (0, .ref m0), (1, .int (nI f9)), (2, .int up), (3, .int dn), (6, .int (bI (ff_go n KP (ff_fill (ff_fp KM f9 mn) KT mn) mn z = true ∧ ff_all (fun t => decide (KL (z + t) * dn = ff_fl KN f9 mn t * up)) t = true))), (7, .int (nI t))]) hx hb dX6_find_230 hl (k := 4) rfl (nI_1 _) (by decide) rfl (fun ls hl => ?_)
                                  refine lv_goto (tgt := 128) hx hb dX6_find_233 (by decide) ?_
                                  rw [← e9] at hP hD
                                  exact ih_128 (z + 1) (_) _ _ _ (by omega) (by first | exact ff_hits_t hG | exact ff_hits_f hG hnp) (by omega) hP hD hS (lv_sub hl [1, 2, 3, 4, 0] rfl)
                                · have c206 := bI_nz.mp c206
                                  have hyp : ff_pm n KP KL (ff_fill (ff_fp KM f9 mn) KT mn) (ff_fl KN f9 mn) mn up dn z = true := by first | exact ff_pm_t (by omega) c206 | exact absurd c206 c159
                                  have e9 : ff_ct (ff_pm n KP KL (ff_fill (ff_fp KM f9 mn) KT mn) (ff_fl KN f9 mn) mn up dn) (z + 1) = ff_ct (ff_pm n KP KL (ff_fill (ff_fp KM f9 mn) KT mn) (ff_fl KN f9 mn) mn up dn) z + 1 := ff_ct_t hyp
                                  refine lv_aload_n hx hb dX6_find_209 rfl (lv_at hl 0 rfl) ?_
                                  refine gf_X6_25 hx hb hg hown hK hP 0 rfl rfl dX6_find_210 ?_
                                  refine lv_aload_n hx hb dX6_find_213 rfl (lv_at hl 0 rfl) ?_
                                  refine gf_X6_59 hx hb hg hown hK hP 0 rfl rfl dX6_find_214 ?_
                                  refine lv_iload hx hb dX6_find_217 (lv_at hl 4 rfl) ?_
                                  refine ast hx hb hK hP hD hS 6 rfl rfl (by omega) dX6_find_219 (fun H locs hP hD hS => ?_)
                                  have hP : va_P D vwCl [(m0, .inr (6, [.int ((nI 0)), .int (nI n), .ref m1, .ref m2, .int (nI rn), .ref m3, .int (nI mn), .ref m4, .ref m5, .int (nI (ff_ct (ff_pm n KP KL (ff_fill (ff_fp KM f9 mn) KT mn) (ff_fl KN f9 mn) mn up dn) z)), .ref m6, .int (nI sn), .int co, .ref m7, .ref m8, .ref m9, .ref m10, .ref m11])), (m1, oI cI 60 KP), (m2, oI cI 60 KL), (m3, oI cI 5400 KR), (m4, oI cI 12 KM), (m5, oI cI 12 KN), (m6, oI cI 60 (upd G (ff_ct (ff_pm n KP KL (ff_fill (ff_fp KM f9 mn) KT mn) (ff_fl KN f9 mn) mn up dn) z) (nI z))), (m7, oI cI 60 KB), (m8, oI cI 12 (ff_fill (ff_fp KM f9 mn) KT mn)), (m9, oI cI 61 KE), (m10, oI cI 61 KF), (m11, oI cI 61 KX)] H := hP
                                  have hD : va_D A [(m0, .inr (6, [.int ((nI 0)), .int (nI n), .ref m1, .ref m2, .int (nI rn), .ref m3, .int (nI mn), .ref m4, .ref m5, .int (nI (ff_ct (ff_pm n KP KL (ff_fill (ff_fp KM f9 mn) KT mn) (ff_fl KN f9 mn) mn up dn) z)), .ref m6, .int (nI sn), .int co, .ref m7, .ref m8, .ref m9, .ref m10, .ref m11])), (m1, oI cI 60 KP), (m2, oI cI 60 KL), (m3, oI cI 5400 KR), (m4, oI cI 12 KM), (m5, oI cI 12 KN), (m6, oI cI 60 (upd G (ff_ct (ff_pm n KP KL (ff_fill (ff_fp KM f9 mn) KT mn) (ff_fl KN f9 mn) mn up dn) z) (nI z))), (m7, oI cI 60 KB), (m8, oI cI 12 (ff_fill (ff_fp KM f9 mn) KT mn)), (m9, oI cI 61 KE), (m10, oI cI 61 KF), (m11, oI cI 61 KX)] := hD
                                  refine lv_aload_n hx hb dX6_find_220 rfl (lv_at hl 0 rfl) ?_
                                  refine lv_dup hx hb dX6_find_221 rfl ?_
                                  refine gf_X6_59 hx hb hg hown hK hP 0 rfl rfl dX6_find_222 ?_
                                  refine lv_iconst (v := nI 1) hx hb dX6_find_225 (by decide) ?_
                                  refine lv_iadd hx hb dX6_find_226 ?_
                                  refine lv_asi (nI_add _ _) ?_
                                  refine pf_X6_59 hx hb hg hown hK hP hD hS 0 rfl (Nat.le_of_ble_eq_true rfl) dX6_find_227 (fun H locs hP hD hS => ?_)
                                  have hP : va_P D vwCl [(m0, .inr (6, [.int ((nI 0)), .int (nI n), .ref m1, .ref m2, .int (nI rn), .ref m3, .int (nI mn), .ref m4, .ref m5, .int (nI (ff_ct (ff_pm n KP KL (ff_fill (ff_fp KM f9 mn) KT mn) (ff_fl KN f9 mn) mn up dn) z + 1)), .ref m6, .int (nI sn), .int co, .ref m7, .ref m8, .ref m9, .ref m10, .ref m11])), (m1, oI cI 60 KP), (m2, oI cI 60 KL), (m3, oI cI 5400 KR), (m4, oI cI 12 KM), (m5, oI cI 12 KN), (m6, oI cI 60 (upd G (ff_ct (ff_pm n KP KL (ff_fill (ff_fp KM f9 mn) KT mn) (ff_fl KN f9 mn) mn up dn) z) (nI z))), (m7, oI cI 60 KB), (m8, oI cI 12 (ff_fill (ff_fp KM f9 mn) KT mn)), (m9, oI cI 61 KE), (m10, oI cI 61 KF), (m11, oI cI 61 KX)] H := hP
                                  have hD : va_D A [(m0, .inr (6, [.int ((nI 0)), .int (nI n), .ref m1, .ref m2, .int (nI rn), .ref m3, .int (nI mn), .ref m4, .ref m5, .int (nI (ff_ct (ff_pm n KP KL (ff_fill (ff_fp KM f9 mn) KT mn) (ff_fl KN f9 mn) mn up dn) z + 1)), .ref m6, .int (nI sn), .int co, .ref m7, .ref m8, .ref m9, .ref m10, .ref m11])), (m1, oI cI 60 KP), (m2, oI cI 60 KL), (m3, oI cI 5400 KR), (m4, oI cI 12 KM), (m5, oI cI 12 KN), (m6, oI cI 60 (upd G (ff_ct (ff_pm n KP KL (ff_fill (ff_fp KM f9 mn) KT mn) (ff_fl KN f9 mn) mn up dn) z) (nI z))), (m7, oI cI 60 KB), (m8, oI cI 12 (ff_fill (ff_fp KM f9 mn) KT mn)), (m9, oI cI 61 KE), (m10, oI cI 61 KF), (m11, oI cI 61 KX)] := hD
                                  refine lv_iinc (v := nI (z + 1)) (lv' := [(5, .int (nI (z + 1))), (0, .ref m0), (1, .int (nI f9)), (2, .int up), (3, .int dn), (6, .int (bI (ff_go n KP (ff_fill (ff_fp KM f9 mn) KT mn) mn z = true ∧ ff_all (fun t => decide (KL (z + t) * dn = ff_fl KN f9 mn t * up)) t = true))), (7, .int (nI t))]) hx hb dX6_find_230 hl (k := 4) rfl (nI_1 _) (by decide) rfl (fun ls hl => ?_)
                                  refine lv_goto (tgt := 128) hx hb dX6_find_233 (by decide) ?_
                                  rw [← e9] at hP hD
                                  exact ih_128 (z + 1) (_) _ _ _ (by omega) (by first | exact ff_hits_t hG | exact ff_hits_f hG hnp) (by omega) hP hD hS (lv_sub hl [1, 2, 3, 4, 0] rfl)
                              · have c159 := bI_nz.mp c159
                                have hzn := ff_go_le c159.1
                                have hs9 := ff_src_lt (fo := f9) (tn := mn) (i := t) (by omega)
                                refine lv_aload_n hx hb dX6_find_162 rfl (lv_at hl 0 rfl) ?_
                                refine gf_X6_13 hx hb hg hown hK hP 0 rfl rfl dX6_find_163 ?_
                                refine lv_iload hx hb dX6_find_166 (lv_at hl 4 rfl) ?_
                                refine lv_iload hx hb dX6_find_168 (lv_at hl 6 rfl) ?_
                                refine lv_iadd hx hb dX6_find_170 ?_
                                refine lv_asi (nI_add _ _) ?_
                                refine ald hx hb hK hP 2 rfl rfl (by omega) dX6_find_171 ?_
                                refine lv_iload_n hx hb dX6_find_172 rfl (lv_at hl 3 rfl) ?_
                                refine lv_imul hx hb dX6_find_173 ?_
                                refine lv_aload_n hx hb dX6_find_174 rfl (lv_at hl 0 rfl) ?_
                                refine gf_X6_22 hx hb hg hown hK hP 0 rfl rfl dX6_find_175 ?_
                                refine lv_aload_n hx hb dX6_find_178 rfl (lv_at hl 0 rfl) ?_
                                refine lv_iload_n hx hb dX6_find_179 rfl (lv_at hl 1 rfl) ?_
                                refine lv_iload hx hb dX6_find_180 (lv_at hl 6 rfl) ?_
                                refine Cp.callV (As := [.int (nI f9), .int (nI t)]) (rest := [.ref m5, .int (((KL (z + t)) * dn))]) (cv_X6_104 hg ⟨Nat.le_of_ble_eq_true rfl, Nat.le_of_ble_eq_true rfl⟩) (k_source l D cI m0 m1 m2 m3 m4 m5 m6 m7 m8 m9 m10 m11 ((nI 0)) (co) (n) (rn) (mn) (ff_ct (ff_pm n KP KL (ff_fill (ff_fp KM f9 mn) KT mn) (ff_fl KN f9 mn) mn up dn) z) (sn) f9 t hf9 (by omega) hmn) cx hK hP [0] rfl (rq := 0) rfl rfl rfl hS rfl hl.1 rfl (Nat.le_of_ble_eq_true rfl) dX6_find_182 ⟨Nat.zero_le _, Nat.zero_le _⟩ (fun H locs hP hS => ?_)
                                refine ald hx hb hK hP 5 rfl rfl (by omega) dX6_find_185 ?_
                                refine lv_iload_n hx hb dX6_find_186 rfl (lv_at hl 2 rfl) ?_
                                refine lv_imul hx hb dX6_find_187 ?_
                                refine lv_icmp_ne (tgt := 195) hx hb dX6_find_188 (by decide) (fun c188 => ?_) (fun c188 => ?_)
                                · skip
                                  refine lv_iconst (v := nI 0) hx hb dX6_find_195 (by decide) ?_
                                  refine lv_asi (y := bI (ff_go n KP (ff_fill (ff_fp KM f9 mn) KT mn) mn z = true ∧ ff_all (fun t => decide (KL (z + t) * dn = ff_fl KN f9 mn t * up)) (t + 1) = true)) (by first | exact bI_1 (ff_pm_s c159 c188) | exact bI_0 (ff_pm_n c188)) ?_
                                  refine lv_istore (lv' := [(6, .int (bI (ff_go n KP (ff_fill (ff_fp KM f9 mn) KT mn) mn z = true ∧ ff_all (fun t => decide (KL (z + t) * dn = ff_fl KN f9 mn t * up)) (t + 1) = true))), (0, .ref m0), (1, .int (nI f9)), (2, .int up), (3, .int dn), (5, .int (nI z)), (7, .int (nI t))]) hx hb dX6_find_196 hl (by decide) rfl (fun ls hl => ?_)
                                  refine lv_iinc (v := nI (t + 1)) (lv' := [(7, .int (nI (t + 1))), (6, .int (bI (ff_go n KP (ff_fill (ff_fp KM f9 mn) KT mn) mn z = true ∧ ff_all (fun t => decide (KL (z + t) * dn = ff_fl KN f9 mn t * up)) (t + 1) = true))), (0, .ref m0), (1, .int (nI f9)), (2, .int up), (3, .int dn), (5, .int (nI z))]) hx hb dX6_find_198 hl (k := 6) rfl (nI_1 _) (by decide) rfl (fun ls hl => ?_)
                                  refine lv_goto (tgt := 148) hx hb dX6_find_201 (by decide) ?_
                                  exact ih_148 (t + 1) _ _ _ (by omega) (by omega) hP hD hS (lv_sub hl [2, 3, 4, 5, 6, 1, 0] rfl)
                                · skip
                                  refine lv_iconst (v := nI 1) hx hb dX6_find_191 (by decide) ?_
                                  refine lv_goto (tgt := 196) hx hb dX6_find_192 (by decide) ?_
                                  refine lv_asi (y := bI (ff_go n KP (ff_fill (ff_fp KM f9 mn) KT mn) mn z = true ∧ ff_all (fun t => decide (KL (z + t) * dn = ff_fl KN f9 mn t * up)) (t + 1) = true)) (by first | exact bI_1 (ff_pm_s c159 c188) | exact bI_0 (ff_pm_n c188)) ?_
                                  refine lv_istore (lv' := [(6, .int (bI (ff_go n KP (ff_fill (ff_fp KM f9 mn) KT mn) mn z = true ∧ ff_all (fun t => decide (KL (z + t) * dn = ff_fl KN f9 mn t * up)) (t + 1) = true))), (0, .ref m0), (1, .int (nI f9)), (2, .int up), (3, .int dn), (5, .int (nI z)), (7, .int (nI t))]) hx hb dX6_find_196 hl (by decide) rfl (fun ls hl => ?_)
                                  refine lv_iinc (v := nI (t + 1)) (lv' := [(7, .int (nI (t + 1))), (6, .int (bI (ff_go n KP (ff_fill (ff_fp KM f9 mn) KT mn) mn z = true ∧ ff_all (fun t => decide (KL (z + t) * dn = ff_fl KN f9 mn t * up)) (t + 1) = true))), (0, .ref m0), (1, .int (nI f9)), (2, .int up), (3, .int dn), (5, .int (nI z))]) hx hb dX6_find_198 hl (k := 6) rfl (nI_1 _) (by decide) rfl (fun ls hl => ?_)
                                  refine lv_goto (tgt := 148) hx hb dX6_find_201 (by decide) ?_
                                  exact ih_148 (t + 1) _ _ _ (by omega) (by omega) hP hD hS (lv_sub hl [2, 3, 4, 5, 6, 1, 0] rfl)
                        exact lp_148 (_ + 1) (0) _ _ _ (Nat.zero_le _) (Nat.lt_succ_self _) hP hD hS (lv_sub hl [2, 3, 4, 5, 6, 1, 0] rfl)
                  exact lp_128 (_ + 1) (0) (KS) _ _ _ (Nat.zero_le _) (ff_hits_0 _ _) (Nat.lt_succ_self _) hP hD hS (lv_sub hl [1, 2, 3, 4, 0] rfl)
                · have c97 := mt (nI_leI (by omega) (by omega)).mpr c97
                  refine lv_aload_n hx hb dX6_find_100 rfl (lv_at hl 0 rfl) ?_
                  refine gf_X6_31 hx hb hg hown hK hP 0 rfl rfl dX6_find_101 ?_
                  refine lv_iload hx hb dX6_find_104 (lv_at hl 4 rfl) ?_
                  refine lv_aload_n hx hb dX6_find_106 rfl (lv_at hl 0 rfl) ?_
                  refine lv_iload_n hx hb dX6_find_107 rfl (lv_at hl 1 rfl) ?_
                  refine lv_iload hx hb dX6_find_108 (lv_at hl 4 rfl) ?_
                  refine Cp.callV (As := [.int (nI f9), .int (nI w9)]) (rest := [.int (nI w9), .ref m8]) (cv_X6_109 hg ⟨Nat.le_of_ble_eq_true rfl, Nat.le_of_ble_eq_true rfl⟩) (k_MformPitch l D cI m0 m1 m2 m3 m4 m5 m6 m7 m8 m9 m10 m11 ((nI 0)) (co) (n) (rn) (mn) (pn) (sn) KM f9 w9 hf9 (by omega) hmn) cx hK hP [0, 4] rfl (rq := 0) rfl rfl rfl hS rfl hl.1 rfl (Nat.le_of_ble_eq_true rfl) dX6_find_110 ⟨Nat.zero_le _, Nat.zero_le _⟩ (fun H locs hP hS => ?_)
                  refine ast hx hb hK hP hD hS 8 rfl rfl (by omega) dX6_find_113 (fun H locs hP hD hS => ?_)
                  have hP : va_P D vwCl [(m0, .inr (6, [.int ((nI 0)), .int (nI n), .ref m1, .ref m2, .int (nI rn), .ref m3, .int (nI mn), .ref m4, .ref m5, .int (nI pn), .ref m6, .int (nI sn), .int co, .ref m7, .ref m8, .ref m9, .ref m10, .ref m11])), (m1, oI cI 60 KP), (m2, oI cI 60 KL), (m3, oI cI 5400 KR), (m4, oI cI 12 KM), (m5, oI cI 12 KN), (m6, oI cI 60 KS), (m7, oI cI 60 KB), (m8, oI cI 12 (upd (ff_fill (ff_fp KM f9 mn) KT w9) w9 ((ff_fp KM f9 mn w9)))), (m9, oI cI 61 KE), (m10, oI cI 61 KF), (m11, oI cI 61 KX)] H := hP
                  have hD : va_D A [(m0, .inr (6, [.int ((nI 0)), .int (nI n), .ref m1, .ref m2, .int (nI rn), .ref m3, .int (nI mn), .ref m4, .ref m5, .int (nI pn), .ref m6, .int (nI sn), .int co, .ref m7, .ref m8, .ref m9, .ref m10, .ref m11])), (m1, oI cI 60 KP), (m2, oI cI 60 KL), (m3, oI cI 5400 KR), (m4, oI cI 12 KM), (m5, oI cI 12 KN), (m6, oI cI 60 KS), (m7, oI cI 60 KB), (m8, oI cI 12 (upd (ff_fill (ff_fp KM f9 mn) KT w9) w9 ((ff_fp KM f9 mn w9)))), (m9, oI cI 61 KE), (m10, oI cI 61 KF), (m11, oI cI 61 KX)] := hD
                  have e9 : upd (ff_fill (ff_fp KM f9 mn) KT w9) w9 ((ff_fp KM f9 mn w9)) = ff_fill (ff_fp KM f9 mn) KT (w9 + 1) := ff_fill_s (ff_fp KM f9 mn) KT w9
                  rw [e9] at hP hD
                  refine lv_iinc (v := nI (w9 + 1)) (lv' := [(5, .int (nI (w9 + 1))), (0, .ref m0), (1, .int (nI f9)), (2, .int up), (3, .int dn)]) hx hb dX6_find_114 hl (k := 4) rfl (nI_1 _) (by decide) rfl (fun ls hl => ?_)
                  refine lv_goto (tgt := 91) hx hb dX6_find_117 (by decide) ?_
                  exact ih_91 (w9 + 1) _ _ _ (by omega) (by omega) hP hD hS (lv_sub hl [1, 2, 3, 4, 0] rfl)
            exact lp_91 (_ + 1) (0) _ _ _ (Nat.zero_le _) (Nat.lt_succ_self _) hP hD hS (lv_sub hl [2, 3, 4, 5, 0] rfl)
    · skip
      refine lv_iload_n hx hb dX6_find_21 rfl (lv_at hl 3 rfl) ?_
      refine lv_if_eq (tgt := 49) hx hb dX6_find_22 (by decide) (fun c22 => ?_) (fun c22 => ?_)
      · skip
        refine lv_iconst (v := nI 1) hx hb dX6_find_49 (by decide) ?_
        refine lv_goto (tgt := 54) hx hb dX6_find_50 (by decide) ?_
        refine lv_istore (lv' := [(4, .int (nI 1)), (0, .ref m0), (1, .int (nI f9)), (2, .int up), (3, .int dn)]) hx hb dX6_find_54 hl (by decide) rfl (fun ls hl => ?_)
        refine lv_aload_n hx hb dX6_find_56 rfl (lv_at hl 1 rfl) ?_
        refine lv_iload hx hb dX6_find_57 (lv_at hl 0 rfl) ?_
        refine lv_iconst (v := nI 1) hx hb dX6_find_59 (by decide) ?_
        refine Ci.callV (As := [.int (nI 1), .int (nI 1)]) (rest := []) (wr := [(m1, oI cI 60 KP), (m2, oI cI 60 KL), (m3, oI cI 5400 KR), (m4, oI cI 12 KM), (m5, oI cI 12 KN), (m6, oI cI 60 KS), (m7, oI cI 60 KB), (m8, oI cI 12 KT), (m9, oI cI 61 KE), (m10, oI cI 61 KF), (m11, oI cI 61 KX)]) (wn := (fun _ => [(m0, .inr (6, [.int (nI 0), .int (nI n), .ref m1, .ref m2, .int (nI rn), .ref m3, .int (nI mn), .ref m4, .ref m5, .int (nI pn), .ref m6, .int (nI sn), .int co, .ref m7, .ref m8, .ref m9, .ref m10, .ref m11])), (m1, oI cI 60 KP), (m2, oI cI 60 KL), (m3, oI cI 5400 KR), (m4, oI cI 12 KM), (m5, oI cI 12 KN), (m6, oI cI 60 KS), (m7, oI cI 60 KB), (m8, oI cI 12 KT), (m9, oI cI 61 KE), (m10, oI cI 61 KF), (m11, oI cI 61 KX)])) (cv_X6_76 hg ⟨Nat.le_of_ble_eq_true rfl, Nat.le_of_ble_eq_true rfl⟩) (k_go1 l D cI m0 (.int (nI n)) (.ref m1) (.ref m2) (.int (nI rn)) (.ref m3) (.int (nI mn)) (.ref m4) (.ref m5) (.int (nI pn)) (.ref m6) (.int (nI sn)) (.int co) (.ref m7) (.ref m8) (.ref m9) (.ref m10) (.ref m11) (nI 1)) cx hK hP hD hA [0] [1, 2, 3, 4, 5, 6, 7, 8, 9, 10, 11] [11, 0, 1, 2, 3, 4, 5, 6, 7, 8, 9, 10] rfl rfl (by decide) (fun _ => rfl) (rq := 0) rfl rfl rfl hS rfl hl.1 rfl (Nat.le_of_ble_eq_true rfl) dX6_find_60 ⟨Nat.le_refl _, Nat.le_refl _⟩ (fun H locs r60 _ p60 hP hD hS => ?_)
        subst p60
        refine lv_if_eq (tgt := 86) hx hb dX6_find_63 (by decide) (fun h9 => absurd h9 (by decide)) (fun _ => ?_)
        refine lv_aload_n hx hb dX6_find_66 rfl (lv_at hl 1 rfl) ?_
        refine lv_aload_n hx hb dX6_find_67 rfl (lv_at hl 1 rfl) ?_
        refine gf_X6_56 hx hb hg hown hK hP 0 rfl rfl dX6_find_68 ?_
        refine lv_if_le (tgt := 78) hx hb dX6_find_71 (by decide) (fun c71 => ?_) (fun c71 => ?_)
        · have c71 := (nz_le (by omega)).mp c71
          refine lv_iconst (v := nI 0) hx hb dX6_find_78 (by decide) ?_
          refine lv_iconst (v := nI 2) hx hb dX6_find_79 (by decide) ?_
          refine Ci.callV (As := [.int (nI 0), .int (nI 2)]) (rest := []) (wr := [(m1, oI cI 60 KP), (m2, oI cI 60 KL), (m3, oI cI 5400 KR), (m4, oI cI 12 KM), (m5, oI cI 12 KN), (m6, oI cI 60 KS), (m7, oI cI 60 KB), (m8, oI cI 12 KT), (m9, oI cI 61 KE), (m10, oI cI 61 KF), (m11, oI cI 61 KX)]) (wn := (fun _ => [(m0, .inr (6, [.int ((nI 2)), .int (nI n), .ref m1, .ref m2, .int (nI rn), .ref m3, .int (nI mn), .ref m4, .ref m5, .int (nI pn), .ref m6, .int (nI sn), .int co, .ref m7, .ref m8, .ref m9, .ref m10, .ref m11])), (m1, oI cI 60 KP), (m2, oI cI 60 KL), (m3, oI cI 5400 KR), (m4, oI cI 12 KM), (m5, oI cI 12 KN), (m6, oI cI 60 KS), (m7, oI cI 60 KB), (m8, oI cI 12 KT), (m9, oI cI 61 KE), (m10, oI cI 61 KF), (m11, oI cI 61 KX)])) (cv_X6_76 hg ⟨Nat.le_of_ble_eq_true rfl, Nat.le_of_ble_eq_true rfl⟩) (k_go0 l D cI m0 (.int (nI n)) (.ref m1) (.ref m2) (.int (nI rn)) (.ref m3) (.int (nI mn)) (.ref m4) (.ref m5) (.int (nI pn)) (.ref m6) (.int (nI sn)) (.int co) (.ref m7) (.ref m8) (.ref m9) (.ref m10) (.ref m11) 2 (by decide) (by decide)) cx hK hP hD hA [0] [1, 2, 3, 4, 5, 6, 7, 8, 9, 10, 11] [11, 0, 1, 2, 3, 4, 5, 6, 7, 8, 9, 10] rfl rfl (by decide) (fun _ => rfl) (rq := 0) rfl rfl rfl hS rfl hl.1 rfl (Nat.le_of_ble_eq_true rfl) dX6_find_80 ⟨Nat.le_refl _, Nat.le_refl _⟩ (fun H locs r80 _ p80 hP hD hS => ?_)
          subst p80
          refine lv_if_ne (tgt := 88) hx hb dX6_find_83 (by decide) (fun h9 => absurd (by decide) h9) (fun _ => ?_)
          refine lv_iconst (v := nI 0) hx hb dX6_find_86 (by decide) ?_
          exact hret _ _ 87 _ _ ((ff_N (n) (rn) (mn) (pn) (sn) 0, ff_Z ((nI 2)) (co), ff_A14 (KP) (KL) (KR) (KM) (KN) (KS) (KB) (KT) (KE) (KF) (KX) (KX) (KX) (KX))) (by first | exact Or.inr (Or.inl ⟨⟨⟨f9, hf9, rfl⟩, (by first | exact Or.inl ⟨c18, c22⟩ | exact Or.inr ⟨c34, c46⟩)⟩, c71, rfl, rfl⟩) | exact Or.inl ⟨fun h => by first | (obtain ⟨⟨f8, h1, e1⟩, _⟩ := h; exact c14 (by rw [e1]; exact ff_le h1 (by decide))) | exact h.2.elim (fun h => by first | exact c18 h.1 | exact c22 h.2) (fun h => by first | exact c34 h.1 | exact c46 h.2), rfl, rfl⟩) hP hD hS dX6_find_87
        · have c71 := mt (nz_le (by omega)).mpr c71
          refine lv_iconst (v := nI 1) hx hb dX6_find_74 (by decide) ?_
          refine lv_goto (tgt := 79) hx hb dX6_find_75 (by decide) ?_
          refine lv_iconst (v := nI 2) hx hb dX6_find_79 (by decide) ?_
          refine Ci.callV (As := [.int (nI 1), .int (nI 2)]) (rest := []) (wr := [(m1, oI cI 60 KP), (m2, oI cI 60 KL), (m3, oI cI 5400 KR), (m4, oI cI 12 KM), (m5, oI cI 12 KN), (m6, oI cI 60 KS), (m7, oI cI 60 KB), (m8, oI cI 12 KT), (m9, oI cI 61 KE), (m10, oI cI 61 KF), (m11, oI cI 61 KX)]) (wn := (fun _ => [(m0, .inr (6, [.int (nI 0), .int (nI n), .ref m1, .ref m2, .int (nI rn), .ref m3, .int (nI mn), .ref m4, .ref m5, .int (nI pn), .ref m6, .int (nI sn), .int co, .ref m7, .ref m8, .ref m9, .ref m10, .ref m11])), (m1, oI cI 60 KP), (m2, oI cI 60 KL), (m3, oI cI 5400 KR), (m4, oI cI 12 KM), (m5, oI cI 12 KN), (m6, oI cI 60 KS), (m7, oI cI 60 KB), (m8, oI cI 12 KT), (m9, oI cI 61 KE), (m10, oI cI 61 KF), (m11, oI cI 61 KX)])) (cv_X6_76 hg ⟨Nat.le_of_ble_eq_true rfl, Nat.le_of_ble_eq_true rfl⟩) (k_go1 l D cI m0 (.int (nI n)) (.ref m1) (.ref m2) (.int (nI rn)) (.ref m3) (.int (nI mn)) (.ref m4) (.ref m5) (.int (nI pn)) (.ref m6) (.int (nI sn)) (.int co) (.ref m7) (.ref m8) (.ref m9) (.ref m10) (.ref m11) (nI 2)) cx hK hP hD hA [0] [1, 2, 3, 4, 5, 6, 7, 8, 9, 10, 11] [11, 0, 1, 2, 3, 4, 5, 6, 7, 8, 9, 10] rfl rfl (by decide) (fun _ => rfl) (rq := 0) rfl rfl rfl hS rfl hl.1 rfl (Nat.le_of_ble_eq_true rfl) dX6_find_80 ⟨Nat.le_refl _, Nat.le_refl _⟩ (fun H locs r80 _ p80 hP hD hS => ?_)
          subst p80
          refine lv_if_ne (tgt := 88) hx hb dX6_find_83 (by decide) (fun _ => ?_) (fun h9 => absurd h9 (by decide))
          refine lv_iconst (v := nI 0) hx hb dX6_find_88 (by decide) ?_
          refine lv_istore (lv' := [(5, .int (nI 0)), (4, .int (nI 1)), (0, .ref m0), (1, .int (nI f9)), (2, .int up), (3, .int dn)]) hx hb dX6_find_89 hl (by decide) rfl (fun ls hl => ?_)
          rw [← ff_fill_0 (ff_fp KM f9 mn) KT] at hP hD
          have lp_91 : ∀ (k : Nat) (w9 : Nat) (H : Heap) (locs : List Loc) (ls : Array Slot), (w9 ≤ mn) → (mn - w9 < k) → va_P D vwCl [(m0, .inr (6, [.int ((nI 0)), .int (nI n), .ref m1, .ref m2, .int (nI rn), .ref m3, .int (nI mn), .ref m4, .ref m5, .int (nI pn), .ref m6, .int (nI sn), .int co, .ref m7, .ref m8, .ref m9, .ref m10, .ref m11])), (m1, oI cI 60 KP), (m2, oI cI 60 KL), (m3, oI cI 5400 KR), (m4, oI cI 12 KM), (m5, oI cI 12 KN), (m6, oI cI 60 KS), (m7, oI cI 60 KB), (m8, oI cI 12 (ff_fill (ff_fp KM f9 mn) KT w9)), (m9, oI cI 61 KE), (m10, oI cI 61 KF), (m11, oI cI 61 KX)] H → va_D A [(m0, .inr (6, [.int ((nI 0)), .int (nI n), .ref m1, .ref m2, .int (nI rn), .ref m3, .int (nI mn), .ref m4, .ref m5, .int (nI pn), .ref m6, .int (nI sn), .int co, .ref m7, .ref m8, .ref m9, .ref m10, .ref m11])), (m1, oI cI 60 KP), (m2, oI cI 60 KL), (m3, oI cI 5400 KR), (m4, oI cI 12 KM), (m5, oI cI 12 KN), (m6, oI cI 60 KS), (m7, oI cI 60 KB), (m8, oI cI 12 (ff_fill (ff_fp KM f9 mn) KT w9)), (m9, oI cI 61 KE), (m10, oI cI 61 KF), (m11, oI cI 61 KX)] → va_S A s.heap H locs → lv_has ls 8 [(0, .ref m0), (1, .int (nI f9)), (2, .int up), (3, .int dn), (5, .int (nI w9))] → W p l e (rr 2 0 0) s m args below meth c H locs 0 0 Q (F0 m 91 ls []) := by
            intro k
            induction k with
            | zero =>
              intro w9 H locs ls hw hk
              exact absurd hk (Nat.not_lt_zero _)
            | succ k ih_91 =>
              intro w9 H locs ls hw hk hP hD hS hl
              refine lv_iload hx hb dX6_find_91 (lv_at hl 4 rfl) ?_
              refine lv_aload_n hx hb dX6_find_93 rfl (lv_at hl 0 rfl) ?_
              refine gf_X6_56 hx hb hg hown hK hP 0 rfl rfl dX6_find_94 ?_
              refine lv_icmp_ge (tgt := 120) hx hb dX6_find_97 (by decide) (fun c97 => ?_) (fun c97 => ?_)
              · have c97 := (nI_leI (by omega) (by omega)).mp c97
                obtain rfl : mn = w9 := by omega
                refine lv_aload_n hx hb dX6_find_120 rfl (lv_at hl 0 rfl) ?_
                refine lv_iconst (v := nI 0) hx hb dX6_find_121 (by decide) ?_
                refine pf_X6_59 hx hb hg hown hK hP hD hS 0 rfl (Nat.le_of_ble_eq_true rfl) dX6_find_122 (fun H locs hP hD hS => ?_)
                have hP : va_P D vwCl [(m0, .inr (6, [.int ((nI 0)), .int (nI n), .ref m1, .ref m2, .int (nI rn), .ref m3, .int (nI mn), .ref m4, .ref m5, .int (nI 0), .ref m6, .int (nI sn), .int co, .ref m7, .ref m8, .ref m9, .ref m10, .ref m11])), (m1, oI cI 60 KP), (m2, oI cI 60 KL), (m3, oI cI 5400 KR), (m4, oI cI 12 KM), (m5, oI cI 12 KN), (m6, oI cI 60 KS), (m7, oI cI 60 KB), (m8, oI cI 12 (ff_fill (ff_fp KM f9 mn) KT mn)), (m9, oI cI 61 KE), (m10, oI cI 61 KF), (m11, oI cI 61 KX)] H := hP
                have hD : va_D A [(m0, .inr (6, [.int ((nI 0)), .int (nI n), .ref m1, .ref m2, .int (nI rn), .ref m3, .int (nI mn), .ref m4, .ref m5, .int (nI 0), .ref m6, .int (nI sn), .int co, .ref m7, .ref m8, .ref m9, .ref m10, .ref m11])), (m1, oI cI 60 KP), (m2, oI cI 60 KL), (m3, oI cI 5400 KR), (m4, oI cI 12 KM), (m5, oI cI 12 KN), (m6, oI cI 60 KS), (m7, oI cI 60 KB), (m8, oI cI 12 (ff_fill (ff_fp KM f9 mn) KT mn)), (m9, oI cI 61 KE), (m10, oI cI 61 KF), (m11, oI cI 61 KX)] := hD
                refine lv_iconst (v := nI 0) hx hb dX6_find_125 (by decide) ?_
                refine lv_istore (lv' := [(5, .int (nI 0)), (0, .ref m0), (1, .int (nI f9)), (2, .int up), (3, .int dn)]) hx hb dX6_find_126 hl (by decide) rfl (fun ls hl => ?_)
                have lp_128 : ∀ (k : Nat) (z : Nat) (G : Nat → Int32) (H : Heap) (locs : List Loc) (ls : Array Slot), (z ≤ n) → (ff_hits (ff_pm n KP KL (ff_fill (ff_fp KM f9 mn) KT mn) (ff_fl KN f9 mn) mn up dn) z G) → (n - z < k) → va_P D vwCl [(m0, .inr (6, [.int ((nI 0)), .int (nI n), .ref m1, .ref m2, .int (nI rn), .ref m3, .int (nI mn), .ref m4, .ref m5, .int (nI (ff_ct (ff_pm n KP KL (ff_fill (ff_fp KM f9 mn) KT mn) (ff_fl KN f9 mn) mn up dn) z)), .ref m6, .int (nI sn), .int co, .ref m7, .ref m8, .ref m9, .ref m10, .ref m11])), (m1, oI cI 60 KP), (m2, oI cI 60 KL), (m3, oI cI 5400 KR), (m4, oI cI 12 KM), (m5, oI cI 12 KN), (m6, oI cI 60 G), (m7, oI cI 60 KB), (m8, oI cI 12 (ff_fill (ff_fp KM f9 mn) KT mn)), (m9, oI cI 61 KE), (m10, oI cI 61 KF), (m11, oI cI 61 KX)] H → va_D A [(m0, .inr (6, [.int ((nI 0)), .int (nI n), .ref m1, .ref m2, .int (nI rn), .ref m3, .int (nI mn), .ref m4, .ref m5, .int (nI (ff_ct (ff_pm n KP KL (ff_fill (ff_fp KM f9 mn) KT mn) (ff_fl KN f9 mn) mn up dn) z)), .ref m6, .int (nI sn), .int co, .ref m7, .ref m8, .ref m9, .ref m10, .ref m11])), (m1, oI cI 60 KP), (m2, oI cI 60 KL), (m3, oI cI 5400 KR), (m4, oI cI 12 KM), (m5, oI cI 12 KN), (m6, oI cI 60 G), (m7, oI cI 60 KB), (m8, oI cI 12 (ff_fill (ff_fp KM f9 mn) KT mn)), (m9, oI cI 61 KE), (m10, oI cI 61 KF), (m11, oI cI 61 KX)] → va_S A s.heap H locs → lv_has ls 8 [(0, .ref m0), (1, .int (nI f9)), (2, .int up), (3, .int dn), (5, .int (nI z))] → W p l e (rr 2 0 0) s m args below meth c H locs 0 0 Q (F0 m 128 ls []) := by
                  intro k
                  induction k with
                  | zero =>
                    intro z G H locs ls hz hG hk
                    exact absurd hk (Nat.not_lt_zero _)
                  | succ k ih_128 =>
                    intro z G H locs ls hz hG hk hP hD hS hl
                    have hcz := ff_ct_le (ff_pm n KP KL (ff_fill (ff_fp KM f9 mn) KT mn) (ff_fl KN f9 mn) mn up dn) z
                    refine lv_iload hx hb dX6_find_128 (lv_at hl 4 rfl) ?_
                    refine lv_aload_n hx hb dX6_find_130 rfl (lv_at hl 0 rfl) ?_
                    refine gf_X6_50 hx hb hg hown hK hP 0 rfl rfl dX6_find_131 ?_
                    refine lv_icmp_ge (tgt := 236) hx hb dX6_find_134 (by decide) (fun c134 => ?_) (fun c134 => ?_)
                    · have c134 := (nI_leI (by omega) (by omega)).mp c134
                      obtain rfl : n = z := by omega
                      refine lv_aload_n hx hb dX6_find_236 rfl (lv_at hl 0 rfl) ?_
                      refine gf_X6_59 hx hb hg hown hK hP 0 rfl rfl dX6_find_237 ?_
                      exact hret _ _ 240 _ _ ((ff_N (n) (rn) (mn) (ff_ct (ff_pm n KP KL (ff_fill (ff_fp KM f9 mn) KT mn) (ff_fl KN f9 mn) mn up dn) n) (sn) 0, ff_Z ((nI 0)) (co), ff_A14 (KP) (KL) (KR) (KM) (KN) (G) (KB) (ff_fill (ff_fp KM f9 mn) KT mn) (KE) (KF) (KX) (KX) (KX) (KX))) (Or.inr (Or.inr ⟨⟨⟨f9, hf9, rfl⟩, (by first | exact Or.inl ⟨c18, c22⟩ | exact Or.inr ⟨c34, c46⟩)⟩, by omega, G, by rw [cl_n (by omega)]; exact ⟨hG, rfl, rfl⟩⟩)) hP hD hS dX6_find_240
                    · have c134 := mt (nI_leI (by omega) (by omega)).mpr c134
                      refine lv_aload_n hx hb dX6_find_137 rfl (lv_at hl 0 rfl) ?_
                      refine lv_iload hx hb dX6_find_138 (lv_at hl 4 rfl) ?_
                      refine Cp.callV (As := [.int (nI z)]) (rest := []) (cv_X6_114 hg ⟨Nat.le_of_ble_eq_true rfl, Nat.le_of_ble_eq_true rfl⟩) (k_goes l D cI m0 m1 m2 m3 m4 m5 m6 m7 m8 m9 m10 m11 ((nI 0)) (co) (n) (rn) (mn) (ff_ct (ff_pm n KP KL (ff_fill (ff_fp KM f9 mn) KT mn) (ff_fl KN f9 mn) mn up dn) z) (sn) KP (ff_fill (ff_fp KM f9 mn) KT mn) z (by omega) hn (by omega) hmn) cx hK hP [0, 1, 8] rfl (rq := 0) rfl rfl rfl hS rfl hl.1 rfl (Nat.le_of_ble_eq_true rfl) dX6_find_140 ⟨Nat.zero_le _, Nat.zero_le _⟩ (fun H locs hP hS => ?_)
                      refine lv_asi (y := bI (ff_go n KP (ff_fill (ff_fp KM f9 mn) KT mn) mn z = true ∧ ff_all (fun t => decide (KL (z + t) * dn = ff_fl KN f9 mn t * up)) 0 = true)) (bI_if ⟨fun h => ⟨h, rfl⟩, fun h => h.1⟩) ?_
                      refine lv_istore (lv' := [(6, .int (bI (ff_go n KP (ff_fill (ff_fp KM f9 mn) KT mn) mn z = true ∧ ff_all (fun t => decide (KL (z + t) * dn = ff_fl KN f9 mn t * up)) 0 = true))), (0, .ref m0), (1, .int (nI f9)), (2, .int up), (3, .int dn), (5, .int (nI z))]) hx hb dX6_find_143 hl (by decide) rfl (fun ls hl => ?_)
                      refine lv_iconst (v := nI 0) hx hb dX6_find_145 (by decide) ?_
                      refine lv_istore (lv' := [(7, .int (nI 0)), (6, .int (bI (ff_go n KP (ff_fill (ff_fp KM f9 mn) KT mn) mn z = true ∧ ff_all (fun t => decide (KL (z + t) * dn = ff_fl KN f9 mn t * up)) 0 = true))), (0, .ref m0), (1, .int (nI f9)), (2, .int up), (3, .int dn), (5, .int (nI z))]) hx hb dX6_find_146 hl (by decide) rfl (fun ls hl => ?_)
                      have lp_148 : ∀ (k : Nat) (t : Nat) (H : Heap) (locs : List Loc) (ls : Array Slot), (t ≤ mn) → (mn - t < k) → va_P D vwCl [(m0, .inr (6, [.int ((nI 0)), .int (nI n), .ref m1, .ref m2, .int (nI rn), .ref m3, .int (nI mn), .ref m4, .ref m5, .int (nI (ff_ct (ff_pm n KP KL (ff_fill (ff_fp KM f9 mn) KT mn) (ff_fl KN f9 mn) mn up dn) z)), .ref m6, .int (nI sn), .int co, .ref m7, .ref m8, .ref m9, .ref m10, .ref m11])), (m1, oI cI 60 KP), (m2, oI cI 60 KL), (m3, oI cI 5400 KR), (m4, oI cI 12 KM), (m5, oI cI 12 KN), (m6, oI cI 60 G), (m7, oI cI 60 KB), (m8, oI cI 12 (ff_fill (ff_fp KM f9 mn) KT mn)), (m9, oI cI 61 KE), (m10, oI cI 61 KF), (m11, oI cI 61 KX)] H → va_D A [(m0, .inr (6, [.int ((nI 0)), .int (nI n), .ref m1, .ref m2, .int (nI rn), .ref m3, .int (nI mn), .ref m4, .ref m5, .int (nI (ff_ct (ff_pm n KP KL (ff_fill (ff_fp KM f9 mn) KT mn) (ff_fl KN f9 mn) mn up dn) z)), .ref m6, .int (nI sn), .int co, .ref m7, .ref m8, .ref m9, .ref m10, .ref m11])), (m1, oI cI 60 KP), (m2, oI cI 60 KL), (m3, oI cI 5400 KR), (m4, oI cI 12 KM), (m5, oI cI 12 KN), (m6, oI cI 60 G), (m7, oI cI 60 KB), (m8, oI cI 12 (ff_fill (ff_fp KM f9 mn) KT mn)), (m9, oI cI 61 KE), (m10, oI cI 61 KF), (m11, oI cI 61 KX)] → va_S A s.heap H locs → lv_has ls 8 [(0, .ref m0), (1, .int (nI f9)), (2, .int up), (3, .int dn), (5, .int (nI z)), (6, .int (bI (ff_go n KP (ff_fill (ff_fp KM f9 mn) KT mn) mn z = true ∧ ff_all (fun t => decide (KL (z + t) * dn = ff_fl KN f9 mn t * up)) t = true))), (7, .int (nI t))] → W p l e (rr 2 0 0) s m args below meth c H locs 0 0 Q (F0 m 148 ls []) := by
                        intro k
                        induction k with
                        | zero =>
                          intro t H locs ls ht hk
                          exact absurd hk (Nat.not_lt_zero _)
                        | succ k ih_148 =>
                          intro t H locs ls ht hk hP hD hS hl
                          refine lv_iload hx hb dX6_find_148 (lv_at hl 6 rfl) ?_
                          refine lv_aload_n hx hb dX6_find_150 rfl (lv_at hl 0 rfl) ?_
                          refine gf_X6_56 hx hb hg hown hK hP 0 rfl rfl dX6_find_151 ?_
                          refine lv_icmp_ge (tgt := 204) hx hb dX6_find_154 (by decide) (fun c154 => ?_) (fun c154 => ?_)
                          · have c154 := (nI_leI (by omega) (by omega)).mp c154
                            refine lv_iload hx hb dX6_find_204 (lv_at hl 5 rfl) ?_
                            refine lv_if_eq (tgt := 230) hx hb dX6_find_206 (by decide) (fun c206 => ?_) (fun c206 => ?_)
                            · have c206 := bI_z.mp c206
                              have hnp : ¬ ff_pm n KP KL (ff_fill (ff_fp KM f9 mn) KT mn) (ff_fl KN f9 mn) mn up dn z = true := ff_pm_f (by omega) c206
                              have e9 : ff_ct (ff_pm n KP KL (ff_fill (ff_fp KM f9 mn) KT mn) (ff_fl KN f9 mn) mn up dn) (z + 1) = ff_ct (ff_pm n KP KL (ff_fill (ff_fp KM f9 mn) KT mn) (ff_fl KN f9 mn) mn up dn) z := ff_ct_f hnp
                              refine lv_iinc (v := nI (z + 1)) (lv' := [(5, .int (nI (z + 1))), (0, .ref m0), (1, .int (nI f9)), (2, .int up), (3, .int dn), (6, .int (bI (ff_go n KP (ff_fill (ff_fp KM f9 mn) KT mn) mn z = true ∧ ff_all (fun t => decide (KL (z + t) * dn = ff_fl KN f9 mn t * up)) t = true))), (7, .int (nI t))]) hx hb dX6_find_230 hl (k := 4) rfl (nI_1 _) (by decide) rfl (fun ls hl => ?_)
                              refine lv_goto (tgt := 128) hx hb dX6_find_233 (by decide) ?_
                              rw [← e9] at hP hD
                              exact ih_128 (z + 1) (_) _ _ _ (by omega) (by first | exact ff_hits_t hG | exact ff_hits_f hG hnp) (by omega) hP hD hS (lv_sub hl [1, 2, 3, 4, 0] rfl)
                            · have c206 := bI_nz.mp c206
                              have hyp : ff_pm n KP KL (ff_fill (ff_fp KM f9 mn) KT mn) (ff_fl KN f9 mn) mn up dn z = true := by first | exact ff_pm_t (by omega) c206 | exact absurd c206 c159
                              have e9 : ff_ct (ff_pm n KP KL (ff_fill (ff_fp KM f9 mn) KT mn) (ff_fl KN f9 mn) mn up dn) (z + 1) = ff_ct (ff_pm n KP KL (ff_fill (ff_fp KM f9 mn) KT mn) (ff_fl KN f9 mn) mn up dn) z + 1 := ff_ct_t hyp
                              refine lv_aload_n hx hb dX6_find_209 rfl (lv_at hl 0 rfl) ?_
                              refine gf_X6_25 hx hb hg hown hK hP 0 rfl rfl dX6_find_210 ?_
                              refine lv_aload_n hx hb dX6_find_213 rfl (lv_at hl 0 rfl) ?_
                              refine gf_X6_59 hx hb hg hown hK hP 0 rfl rfl dX6_find_214 ?_
                              refine lv_iload hx hb dX6_find_217 (lv_at hl 4 rfl) ?_
                              refine ast hx hb hK hP hD hS 6 rfl rfl (by omega) dX6_find_219 (fun H locs hP hD hS => ?_)
                              have hP : va_P D vwCl [(m0, .inr (6, [.int ((nI 0)), .int (nI n), .ref m1, .ref m2, .int (nI rn), .ref m3, .int (nI mn), .ref m4, .ref m5, .int (nI (ff_ct (ff_pm n KP KL (ff_fill (ff_fp KM f9 mn) KT mn) (ff_fl KN f9 mn) mn up dn) z)), .ref m6, .int (nI sn), .int co, .ref m7, .ref m8, .ref m9, .ref m10, .ref m11])), (m1, oI cI 60 KP), (m2, oI cI 60 KL), (m3, oI cI 5400 KR), (m4, oI cI 12 KM), (m5, oI cI 12 KN), (m6, oI cI 60 (upd G (ff_ct (ff_pm n KP KL (ff_fill (ff_fp KM f9 mn) KT mn) (ff_fl KN f9 mn) mn up dn) z) (nI z))), (m7, oI cI 60 KB), (m8, oI cI 12 (ff_fill (ff_fp KM f9 mn) KT mn)), (m9, oI cI 61 KE), (m10, oI cI 61 KF), (m11, oI cI 61 KX)] H := hP
                              have hD : va_D A [(m0, .inr (6, [.int ((nI 0)), .int (nI n), .ref m1, .ref m2, .int (nI rn), .ref m3, .int (nI mn), .ref m4, .ref m5, .int (nI (ff_ct (ff_pm n KP KL (ff_fill (ff_fp KM f9 mn) KT mn) (ff_fl KN f9 mn) mn up dn) z)), .ref m6, .int (nI sn), .int co, .ref m7, .ref m8, .ref m9, .ref m10, .ref m11])), (m1, oI cI 60 KP), (m2, oI cI 60 KL), (m3, oI cI 5400 KR), (m4, oI cI 12 KM), (m5, oI cI 12 KN), (m6, oI cI 60 (upd G (ff_ct (ff_pm n KP KL (ff_fill (ff_fp KM f9 mn) KT mn) (ff_fl KN f9 mn) mn up dn) z) (nI z))), (m7, oI cI 60 KB), (m8, oI cI 12 (ff_fill (ff_fp KM f9 mn) KT mn)), (m9, oI cI 61 KE), (m10, oI cI 61 KF), (m11, oI cI 61 KX)] := hD
                              refine lv_aload_n hx hb dX6_find_220 rfl (lv_at hl 0 rfl) ?_
                              refine lv_dup hx hb dX6_find_221 rfl ?_
                              refine gf_X6_59 hx hb hg hown hK hP 0 rfl rfl dX6_find_222 ?_
                              refine lv_iconst (v := nI 1) hx hb dX6_find_225 (by decide) ?_
                              refine lv_iadd hx hb dX6_find_226 ?_
                              refine lv_asi (nI_add _ _) ?_
                              refine pf_X6_59 hx hb hg hown hK hP hD hS 0 rfl (Nat.le_of_ble_eq_true rfl) dX6_find_227 (fun H locs hP hD hS => ?_)
                              have hP : va_P D vwCl [(m0, .inr (6, [.int ((nI 0)), .int (nI n), .ref m1, .ref m2, .int (nI rn), .ref m3, .int (nI mn), .ref m4, .ref m5, .int (nI (ff_ct (ff_pm n KP KL (ff_fill (ff_fp KM f9 mn) KT mn) (ff_fl KN f9 mn) mn up dn) z + 1)), .ref m6, .int (nI sn), .int co, .ref m7, .ref m8, .ref m9, .ref m10, .ref m11])), (m1, oI cI 60 KP), (m2, oI cI 60 KL), (m3, oI cI 5400 KR), (m4, oI cI 12 KM), (m5, oI cI 12 KN), (m6, oI cI 60 (upd G (ff_ct (ff_pm n KP KL (ff_fill (ff_fp KM f9 mn) KT mn) (ff_fl KN f9 mn) mn up dn) z) (nI z))), (m7, oI cI 60 KB), (m8, oI cI 12 (ff_fill (ff_fp KM f9 mn) KT mn)), (m9, oI cI 61 KE), (m10, oI cI 61 KF), (m11, oI cI 61 KX)] H := hP
                              have hD : va_D A [(m0, .inr (6, [.int ((nI 0)), .int (nI n), .ref m1, .ref m2, .int (nI rn), .ref m3, .int (nI mn), .ref m4, .ref m5, .int (nI (ff_ct (ff_pm n KP KL (ff_fill (ff_fp KM f9 mn) KT mn) (ff_fl KN f9 mn) mn up dn) z + 1)), .ref m6, .int (nI sn), .int co, .ref m7, .ref m8, .ref m9, .ref m10, .ref m11])), (m1, oI cI 60 KP), (m2, oI cI 60 KL), (m3, oI cI 5400 KR), (m4, oI cI 12 KM), (m5, oI cI 12 KN), (m6, oI cI 60 (upd G (ff_ct (ff_pm n KP KL (ff_fill (ff_fp KM f9 mn) KT mn) (ff_fl KN f9 mn) mn up dn) z) (nI z))), (m7, oI cI 60 KB), (m8, oI cI 12 (ff_fill (ff_fp KM f9 mn) KT mn)), (m9, oI cI 61 KE), (m10, oI cI 61 KF), (m11, oI cI 61 KX)] := hD
                              refine lv_iinc (v := nI (z + 1)) (lv' := [(5, .int (nI (z + 1))), (0, .ref m0), (1, .int (nI f9)), (2, .int up), (3, .int dn), (6, .int (bI (ff_go n KP (ff_fill (ff_fp KM f9 mn) KT mn) mn z = true ∧ ff_all (fun t => decide (KL (z + t) * dn = ff_fl KN f9 mn t * up)) t = true))), (7, .int (nI t))]) hx hb dX6_find_230 hl (k := 4) rfl (nI_1 _) (by decide) rfl (fun ls hl => ?_)
                              refine lv_goto (tgt := 128) hx hb dX6_find_233 (by decide) ?_
                              rw [← e9] at hP hD
                              exact ih_128 (z + 1) (_) _ _ _ (by omega) (by first | exact ff_hits_t hG | exact ff_hits_f hG hnp) (by omega) hP hD hS (lv_sub hl [1, 2, 3, 4, 0] rfl)
                          · have c154 := mt (nI_leI (by omega) (by omega)).mpr c154
                            refine lv_iload hx hb dX6_find_157 (lv_at hl 5 rfl) ?_
                            refine lv_if_eq (tgt := 204) hx hb dX6_find_159 (by decide) (fun c159 => ?_) (fun c159 => ?_)
                            · have c159 := bI_z.mp c159
                              refine lv_iload hx hb dX6_find_204 (lv_at hl 5 rfl) ?_
                              refine lv_if_eq (tgt := 230) hx hb dX6_find_206 (by decide) (fun c206 => ?_) (fun c206 => ?_)
                              · have c206 := bI_z.mp c206
                                have hnp : ¬ ff_pm n KP KL (ff_fill (ff_fp KM f9 mn) KT mn) (ff_fl KN f9 mn) mn up dn z = true := ff_pm_f (by omega) c206
                                have e9 : ff_ct (ff_pm n KP KL (ff_fill (ff_fp KM f9 mn) KT mn) (ff_fl KN f9 mn) mn up dn) (z + 1) = ff_ct (ff_pm n KP KL (ff_fill (ff_fp KM f9 mn) KT mn) (ff_fl KN f9 mn) mn up dn) z := ff_ct_f hnp
                                refine lv_iinc (v := nI (z + 1)) (lv' := [(5, .int (nI (z + 1))), (0, .ref m0), (1, .int (nI f9)), (2, .int up), (3, .int dn), (6, .int (bI (ff_go n KP (ff_fill (ff_fp KM f9 mn) KT mn) mn z = true ∧ ff_all (fun t => decide (KL (z + t) * dn = ff_fl KN f9 mn t * up)) t = true))), (7, .int (nI t))]) hx hb dX6_find_230 hl (k := 4) rfl (nI_1 _) (by decide) rfl (fun ls hl => ?_)
                                refine lv_goto (tgt := 128) hx hb dX6_find_233 (by decide) ?_
                                rw [← e9] at hP hD
                                exact ih_128 (z + 1) (_) _ _ _ (by omega) (by first | exact ff_hits_t hG | exact ff_hits_f hG hnp) (by omega) hP hD hS (lv_sub hl [1, 2, 3, 4, 0] rfl)
                              · have c206 := bI_nz.mp c206
                                have hyp : ff_pm n KP KL (ff_fill (ff_fp KM f9 mn) KT mn) (ff_fl KN f9 mn) mn up dn z = true := by first | exact ff_pm_t (by omega) c206 | exact absurd c206 c159
                                have e9 : ff_ct (ff_pm n KP KL (ff_fill (ff_fp KM f9 mn) KT mn) (ff_fl KN f9 mn) mn up dn) (z + 1) = ff_ct (ff_pm n KP KL (ff_fill (ff_fp KM f9 mn) KT mn) (ff_fl KN f9 mn) mn up dn) z + 1 := ff_ct_t hyp
                                refine lv_aload_n hx hb dX6_find_209 rfl (lv_at hl 0 rfl) ?_
                                refine gf_X6_25 hx hb hg hown hK hP 0 rfl rfl dX6_find_210 ?_
                                refine lv_aload_n hx hb dX6_find_213 rfl (lv_at hl 0 rfl) ?_
                                refine gf_X6_59 hx hb hg hown hK hP 0 rfl rfl dX6_find_214 ?_
                                refine lv_iload hx hb dX6_find_217 (lv_at hl 4 rfl) ?_
                                refine ast hx hb hK hP hD hS 6 rfl rfl (by omega) dX6_find_219 (fun H locs hP hD hS => ?_)
                                have hP : va_P D vwCl [(m0, .inr (6, [.int ((nI 0)), .int (nI n), .ref m1, .ref m2, .int (nI rn), .ref m3, .int (nI mn), .ref m4, .ref m5, .int (nI (ff_ct (ff_pm n KP KL (ff_fill (ff_fp KM f9 mn) KT mn) (ff_fl KN f9 mn) mn up dn) z)), .ref m6, .int (nI sn), .int co, .ref m7, .ref m8, .ref m9, .ref m10, .ref m11])), (m1, oI cI 60 KP), (m2, oI cI 60 KL), (m3, oI cI 5400 KR), (m4, oI cI 12 KM), (m5, oI cI 12 KN), (m6, oI cI 60 (upd G (ff_ct (ff_pm n KP KL (ff_fill (ff_fp KM f9 mn) KT mn) (ff_fl KN f9 mn) mn up dn) z) (nI z))), (m7, oI cI 60 KB), (m8, oI cI 12 (ff_fill (ff_fp KM f9 mn) KT mn)), (m9, oI cI 61 KE), (m10, oI cI 61 KF), (m11, oI cI 61 KX)] H := hP
                                have hD : va_D A [(m0, .inr (6, [.int ((nI 0)), .int (nI n), .ref m1, .ref m2, .int (nI rn), .ref m3, .int (nI mn), .ref m4, .ref m5, .int (nI (ff_ct (ff_pm n KP KL (ff_fill (ff_fp KM f9 mn) KT mn) (ff_fl KN f9 mn) mn up dn) z)), .ref m6, .int (nI sn), .int co, .ref m7, .ref m8, .ref m9, .ref m10, .ref m11])), (m1, oI cI 60 KP), (m2, oI cI 60 KL), (m3, oI cI 5400 KR), (m4, oI cI 12 KM), (m5, oI cI 12 KN), (m6, oI cI 60 (upd G (ff_ct (ff_pm n KP KL (ff_fill (ff_fp KM f9 mn) KT mn) (ff_fl KN f9 mn) mn up dn) z) (nI z))), (m7, oI cI 60 KB), (m8, oI cI 12 (ff_fill (ff_fp KM f9 mn) KT mn)), (m9, oI cI 61 KE), (m10, oI cI 61 KF), (m11, oI cI 61 KX)] := hD
                                refine lv_aload_n hx hb dX6_find_220 rfl (lv_at hl 0 rfl) ?_
                                refine lv_dup hx hb dX6_find_221 rfl ?_
                                refine gf_X6_59 hx hb hg hown hK hP 0 rfl rfl dX6_find_222 ?_
                                refine lv_iconst (v := nI 1) hx hb dX6_find_225 (by decide) ?_
                                refine lv_iadd hx hb dX6_find_226 ?_
                                refine lv_asi (nI_add _ _) ?_
                                refine pf_X6_59 hx hb hg hown hK hP hD hS 0 rfl (Nat.le_of_ble_eq_true rfl) dX6_find_227 (fun H locs hP hD hS => ?_)
                                have hP : va_P D vwCl [(m0, .inr (6, [.int ((nI 0)), .int (nI n), .ref m1, .ref m2, .int (nI rn), .ref m3, .int (nI mn), .ref m4, .ref m5, .int (nI (ff_ct (ff_pm n KP KL (ff_fill (ff_fp KM f9 mn) KT mn) (ff_fl KN f9 mn) mn up dn) z + 1)), .ref m6, .int (nI sn), .int co, .ref m7, .ref m8, .ref m9, .ref m10, .ref m11])), (m1, oI cI 60 KP), (m2, oI cI 60 KL), (m3, oI cI 5400 KR), (m4, oI cI 12 KM), (m5, oI cI 12 KN), (m6, oI cI 60 (upd G (ff_ct (ff_pm n KP KL (ff_fill (ff_fp KM f9 mn) KT mn) (ff_fl KN f9 mn) mn up dn) z) (nI z))), (m7, oI cI 60 KB), (m8, oI cI 12 (ff_fill (ff_fp KM f9 mn) KT mn)), (m9, oI cI 61 KE), (m10, oI cI 61 KF), (m11, oI cI 61 KX)] H := hP
                                have hD : va_D A [(m0, .inr (6, [.int ((nI 0)), .int (nI n), .ref m1, .ref m2, .int (nI rn), .ref m3, .int (nI mn), .ref m4, .ref m5, .int (nI (ff_ct (ff_pm n KP KL (ff_fill (ff_fp KM f9 mn) KT mn) (ff_fl KN f9 mn) mn up dn) z + 1)), .ref m6, .int (nI sn), .int co, .ref m7, .ref m8, .ref m9, .ref m10, .ref m11])), (m1, oI cI 60 KP), (m2, oI cI 60 KL), (m3, oI cI 5400 KR), (m4, oI cI 12 KM), (m5, oI cI 12 KN), (m6, oI cI 60 (upd G (ff_ct (ff_pm n KP KL (ff_fill (ff_fp KM f9 mn) KT mn) (ff_fl KN f9 mn) mn up dn) z) (nI z))), (m7, oI cI 60 KB), (m8, oI cI 12 (ff_fill (ff_fp KM f9 mn) KT mn)), (m9, oI cI 61 KE), (m10, oI cI 61 KF), (m11, oI cI 61 KX)] := hD
                                refine lv_iinc (v := nI (z + 1)) (lv' := [(5, .int (nI (z + 1))), (0, .ref m0), (1, .int (nI f9)), (2, .int up), (3, .int dn), (6, .int (bI (ff_go n KP (ff_fill (ff_fp KM f9 mn) KT mn) mn z = true ∧ ff_all (fun t => decide (KL (z + t) * dn = ff_fl KN f9 mn t * up)) t = true))), (7, .int (nI t))]) hx hb dX6_find_230 hl (k := 4) rfl (nI_1 _) (by decide) rfl (fun ls hl => ?_)
                                refine lv_goto (tgt := 128) hx hb dX6_find_233 (by decide) ?_
                                rw [← e9] at hP hD
                                exact ih_128 (z + 1) (_) _ _ _ (by omega) (by first | exact ff_hits_t hG | exact ff_hits_f hG hnp) (by omega) hP hD hS (lv_sub hl [1, 2, 3, 4, 0] rfl)
                            · have c159 := bI_nz.mp c159
                              have hzn := ff_go_le c159.1
                              have hs9 := ff_src_lt (fo := f9) (tn := mn) (i := t) (by omega)
                              refine lv_aload_n hx hb dX6_find_162 rfl (lv_at hl 0 rfl) ?_
                              refine gf_X6_13 hx hb hg hown hK hP 0 rfl rfl dX6_find_163 ?_
                              refine lv_iload hx hb dX6_find_166 (lv_at hl 4 rfl) ?_
                              refine lv_iload hx hb dX6_find_168 (lv_at hl 6 rfl) ?_
                              refine lv_iadd hx hb dX6_find_170 ?_
                              refine lv_asi (nI_add _ _) ?_
                              refine ald hx hb hK hP 2 rfl rfl (by omega) dX6_find_171 ?_
                              refine lv_iload_n hx hb dX6_find_172 rfl (lv_at hl 3 rfl) ?_
                              refine lv_imul hx hb dX6_find_173 ?_
                              refine lv_aload_n hx hb dX6_find_174 rfl (lv_at hl 0 rfl) ?_
                              refine gf_X6_22 hx hb hg hown hK hP 0 rfl rfl dX6_find_175 ?_
                              refine lv_aload_n hx hb dX6_find_178 rfl (lv_at hl 0 rfl) ?_
                              refine lv_iload_n hx hb dX6_find_179 rfl (lv_at hl 1 rfl) ?_
                              refine lv_iload hx hb dX6_find_180 (lv_at hl 6 rfl) ?_
                              refine Cp.callV (As := [.int (nI f9), .int (nI t)]) (rest := [.ref m5, .int (((KL (z + t)) * dn))]) (cv_X6_104 hg ⟨Nat.le_of_ble_eq_true rfl, Nat.le_of_ble_eq_true rfl⟩) (k_source l D cI m0 m1 m2 m3 m4 m5 m6 m7 m8 m9 m10 m11 ((nI 0)) (co) (n) (rn) (mn) (ff_ct (ff_pm n KP KL (ff_fill (ff_fp KM f9 mn) KT mn) (ff_fl KN f9 mn) mn up dn) z) (sn) f9 t hf9 (by omega) hmn) cx hK hP [0] rfl (rq := 0) rfl rfl rfl hS rfl hl.1 rfl (Nat.le_of_ble_eq_true rfl) dX6_find_182 ⟨Nat.zero_le _, Nat.zero_le _⟩ (fun H locs hP hS => ?_)
                              refine ald hx hb hK hP 5 rfl rfl (by omega) dX6_find_185 ?_
                              refine lv_iload_n hx hb dX6_find_186 rfl (lv_at hl 2 rfl) ?_
                              refine lv_imul hx hb dX6_find_187 ?_
                              refine lv_icmp_ne (tgt := 195) hx hb dX6_find_188 (by decide) (fun c188 => ?_) (fun c188 => ?_)
                              · skip
                                refine lv_iconst (v := nI 0) hx hb dX6_find_195 (by decide) ?_
                                refine lv_asi (y := bI (ff_go n KP (ff_fill (ff_fp KM f9 mn) KT mn) mn z = true ∧ ff_all (fun t => decide (KL (z + t) * dn = ff_fl KN f9 mn t * up)) (t + 1) = true)) (by first | exact bI_1 (ff_pm_s c159 c188) | exact bI_0 (ff_pm_n c188)) ?_
                                refine lv_istore (lv' := [(6, .int (bI (ff_go n KP (ff_fill (ff_fp KM f9 mn) KT mn) mn z = true ∧ ff_all (fun t => decide (KL (z + t) * dn = ff_fl KN f9 mn t * up)) (t + 1) = true))), (0, .ref m0), (1, .int (nI f9)), (2, .int up), (3, .int dn), (5, .int (nI z)), (7, .int (nI t))]) hx hb dX6_find_196 hl (by decide) rfl (fun ls hl => ?_)
                                refine lv_iinc (v := nI (t + 1)) (lv' := [(7, .int (nI (t + 1))), (6, .int (bI (ff_go n KP (ff_fill (ff_fp KM f9 mn) KT mn) mn z = true ∧ ff_all (fun t => decide (KL (z + t) * dn = ff_fl KN f9 mn t * up)) (t + 1) = true))), (0, .ref m0), (1, .int (nI f9)), (2, .int up), (3, .int dn), (5, .int (nI z))]) hx hb dX6_find_198 hl (k := 6) rfl (nI_1 _) (by decide) rfl (fun ls hl => ?_)
                                refine lv_goto (tgt := 148) hx hb dX6_find_201 (by decide) ?_
                                exact ih_148 (t + 1) _ _ _ (by omega) (by omega) hP hD hS (lv_sub hl [2, 3, 4, 5, 6, 1, 0] rfl)
                              · skip
                                refine lv_iconst (v := nI 1) hx hb dX6_find_191 (by decide) ?_
                                refine lv_goto (tgt := 196) hx hb dX6_find_192 (by decide) ?_
                                refine lv_asi (y := bI (ff_go n KP (ff_fill (ff_fp KM f9 mn) KT mn) mn z = true ∧ ff_all (fun t => decide (KL (z + t) * dn = ff_fl KN f9 mn t * up)) (t + 1) = true)) (by first | exact bI_1 (ff_pm_s c159 c188) | exact bI_0 (ff_pm_n c188)) ?_
                                refine lv_istore (lv' := [(6, .int (bI (ff_go n KP (ff_fill (ff_fp KM f9 mn) KT mn) mn z = true ∧ ff_all (fun t => decide (KL (z + t) * dn = ff_fl KN f9 mn t * up)) (t + 1) = true))), (0, .ref m0), (1, .int (nI f9)), (2, .int up), (3, .int dn), (5, .int (nI z)), (7, .int (nI t))]) hx hb dX6_find_196 hl (by decide) rfl (fun ls hl => ?_)
                                refine lv_iinc (v := nI (t + 1)) (lv' := [(7, .int (nI (t + 1))), (6, .int (bI (ff_go n KP (ff_fill (ff_fp KM f9 mn) KT mn) mn z = true ∧ ff_all (fun t => decide (KL (z + t) * dn = ff_fl KN f9 mn t * up)) (t + 1) = true))), (0, .ref m0), (1, .int (nI f9)), (2, .int up), (3, .int dn), (5, .int (nI z))]) hx hb dX6_find_198 hl (k := 6) rfl (nI_1 _) (by decide) rfl (fun ls hl => ?_)
                                refine lv_goto (tgt := 148) hx hb dX6_find_201 (by decide) ?_
                                exact ih_148 (t + 1) _ _ _ (by omega) (by omega) hP hD hS (lv_sub hl [2, 3, 4, 5, 6, 1, 0] rfl)
                      exact lp_148 (_ + 1) (0) _ _ _ (Nat.zero_le _) (Nat.lt_succ_self _) hP hD hS (lv_sub hl [2, 3, 4, 5, 6, 1, 0] rfl)
                exact lp_128 (_ + 1) (0) (KS) _ _ _ (Nat.zero_le _) (ff_hits_0 _ _) (Nat.lt_succ_self _) hP hD hS (lv_sub hl [1, 2, 3, 4, 0] rfl)
              · have c97 := mt (nI_leI (by omega) (by omega)).mpr c97
                refine lv_aload_n hx hb dX6_find_100 rfl (lv_at hl 0 rfl) ?_
                refine gf_X6_31 hx hb hg hown hK hP 0 rfl rfl dX6_find_101 ?_
                refine lv_iload hx hb dX6_find_104 (lv_at hl 4 rfl) ?_
                refine lv_aload_n hx hb dX6_find_106 rfl (lv_at hl 0 rfl) ?_
                refine lv_iload_n hx hb dX6_find_107 rfl (lv_at hl 1 rfl) ?_
                refine lv_iload hx hb dX6_find_108 (lv_at hl 4 rfl) ?_
                refine Cp.callV (As := [.int (nI f9), .int (nI w9)]) (rest := [.int (nI w9), .ref m8]) (cv_X6_109 hg ⟨Nat.le_of_ble_eq_true rfl, Nat.le_of_ble_eq_true rfl⟩) (k_MformPitch l D cI m0 m1 m2 m3 m4 m5 m6 m7 m8 m9 m10 m11 ((nI 0)) (co) (n) (rn) (mn) (pn) (sn) KM f9 w9 hf9 (by omega) hmn) cx hK hP [0, 4] rfl (rq := 0) rfl rfl rfl hS rfl hl.1 rfl (Nat.le_of_ble_eq_true rfl) dX6_find_110 ⟨Nat.zero_le _, Nat.zero_le _⟩ (fun H locs hP hS => ?_)
                refine ast hx hb hK hP hD hS 8 rfl rfl (by omega) dX6_find_113 (fun H locs hP hD hS => ?_)
                have hP : va_P D vwCl [(m0, .inr (6, [.int ((nI 0)), .int (nI n), .ref m1, .ref m2, .int (nI rn), .ref m3, .int (nI mn), .ref m4, .ref m5, .int (nI pn), .ref m6, .int (nI sn), .int co, .ref m7, .ref m8, .ref m9, .ref m10, .ref m11])), (m1, oI cI 60 KP), (m2, oI cI 60 KL), (m3, oI cI 5400 KR), (m4, oI cI 12 KM), (m5, oI cI 12 KN), (m6, oI cI 60 KS), (m7, oI cI 60 KB), (m8, oI cI 12 (upd (ff_fill (ff_fp KM f9 mn) KT w9) w9 ((ff_fp KM f9 mn w9)))), (m9, oI cI 61 KE), (m10, oI cI 61 KF), (m11, oI cI 61 KX)] H := hP
                have hD : va_D A [(m0, .inr (6, [.int ((nI 0)), .int (nI n), .ref m1, .ref m2, .int (nI rn), .ref m3, .int (nI mn), .ref m4, .ref m5, .int (nI pn), .ref m6, .int (nI sn), .int co, .ref m7, .ref m8, .ref m9, .ref m10, .ref m11])), (m1, oI cI 60 KP), (m2, oI cI 60 KL), (m3, oI cI 5400 KR), (m4, oI cI 12 KM), (m5, oI cI 12 KN), (m6, oI cI 60 KS), (m7, oI cI 60 KB), (m8, oI cI 12 (upd (ff_fill (ff_fp KM f9 mn) KT w9) w9 ((ff_fp KM f9 mn w9)))), (m9, oI cI 61 KE), (m10, oI cI 61 KF), (m11, oI cI 61 KX)] := hD
                have e9 : upd (ff_fill (ff_fp KM f9 mn) KT w9) w9 ((ff_fp KM f9 mn w9)) = ff_fill (ff_fp KM f9 mn) KT (w9 + 1) := ff_fill_s (ff_fp KM f9 mn) KT w9
                rw [e9] at hP hD
                refine lv_iinc (v := nI (w9 + 1)) (lv' := [(5, .int (nI (w9 + 1))), (0, .ref m0), (1, .int (nI f9)), (2, .int up), (3, .int dn)]) hx hb dX6_find_114 hl (k := 4) rfl (nI_1 _) (by decide) rfl (fun ls hl => ?_)
                refine lv_goto (tgt := 91) hx hb dX6_find_117 (by decide) ?_
                exact ih_91 (w9 + 1) _ _ _ (by omega) (by omega) hP hD hS (lv_sub hl [1, 2, 3, 4, 0] rfl)
          exact lp_91 (_ + 1) (0) _ _ _ (Nat.zero_le _) (Nat.lt_succ_self _) hP hD hS (lv_sub hl [2, 3, 4, 5, 0] rfl)
      · skip
        refine lv_iload_n hx hb dX6_find_25 rfl (lv_at hl 2 rfl) ?_
        refine lv_i2l hx hb dX6_find_26 rfl ?_
        refine lv_lconst (v := 1) hx hb dX6_find_27 (by decide) ?_
        refine lv_ldc2 (v := 9) hx hb hown (hg _ wd_cl_X6_112) dX6_find_28 ?_
        refine Cp.callS (As := [.long ((Int32.toInt64 (up))), .long ((1 : Int64)), .long ((9 : Int64))]) (rest := []) (cv_X6_70 hg ⟨Nat.le_of_ble_eq_true rfl, Nat.le_of_ble_eq_true rfl⟩) (k_isIn32 l D cI [] (up) (nI 1) (nI 9) _ _ (by decide) (by decide)) cx hK hP [] rfl hS rfl hl.1 rfl (Nat.le_of_ble_eq_true rfl) dX6_find_31 ⟨Nat.zero_le _, Nat.zero_le _⟩ (fun H locs hP hS => ?_)
        refine lv_if_eq (tgt := 53) hx hb dX6_find_34 (by decide) (fun c34 => ?_) (fun c34 => ?_)
        · have c34 := bI_z.mp c34
          refine lv_iconst (v := nI 0) hx hb dX6_find_53 (by decide) ?_
          refine lv_istore (lv' := [(4, .int (nI 0)), (0, .ref m0), (1, .int (nI f9)), (2, .int up), (3, .int dn)]) hx hb dX6_find_54 hl (by decide) rfl (fun ls hl => ?_)
          refine lv_aload_n hx hb dX6_find_56 rfl (lv_at hl 1 rfl) ?_
          refine lv_iload hx hb dX6_find_57 (lv_at hl 0 rfl) ?_
          refine lv_iconst (v := nI 1) hx hb dX6_find_59 (by decide) ?_
          refine Ci.callV (As := [.int (nI 0), .int (nI 1)]) (rest := []) (wr := [(m1, oI cI 60 KP), (m2, oI cI 60 KL), (m3, oI cI 5400 KR), (m4, oI cI 12 KM), (m5, oI cI 12 KN), (m6, oI cI 60 KS), (m7, oI cI 60 KB), (m8, oI cI 12 KT), (m9, oI cI 61 KE), (m10, oI cI 61 KF), (m11, oI cI 61 KX)]) (wn := (fun _ => [(m0, .inr (6, [.int ((nI 1)), .int (nI n), .ref m1, .ref m2, .int (nI rn), .ref m3, .int (nI mn), .ref m4, .ref m5, .int (nI pn), .ref m6, .int (nI sn), .int co, .ref m7, .ref m8, .ref m9, .ref m10, .ref m11])), (m1, oI cI 60 KP), (m2, oI cI 60 KL), (m3, oI cI 5400 KR), (m4, oI cI 12 KM), (m5, oI cI 12 KN), (m6, oI cI 60 KS), (m7, oI cI 60 KB), (m8, oI cI 12 KT), (m9, oI cI 61 KE), (m10, oI cI 61 KF), (m11, oI cI 61 KX)])) (cv_X6_76 hg ⟨Nat.le_of_ble_eq_true rfl, Nat.le_of_ble_eq_true rfl⟩) (k_go0 l D cI m0 (.int (nI n)) (.ref m1) (.ref m2) (.int (nI rn)) (.ref m3) (.int (nI mn)) (.ref m4) (.ref m5) (.int (nI pn)) (.ref m6) (.int (nI sn)) (.int co) (.ref m7) (.ref m8) (.ref m9) (.ref m10) (.ref m11) 1 (by decide) (by decide)) cx hK hP hD hA [0] [1, 2, 3, 4, 5, 6, 7, 8, 9, 10, 11] [11, 0, 1, 2, 3, 4, 5, 6, 7, 8, 9, 10] rfl rfl (by decide) (fun _ => rfl) (rq := 0) rfl rfl rfl hS rfl hl.1 rfl (Nat.le_of_ble_eq_true rfl) dX6_find_60 ⟨Nat.le_refl _, Nat.le_refl _⟩ (fun H locs r60 _ p60 hP hD hS => ?_)
          subst p60
          refine lv_if_eq (tgt := 86) hx hb dX6_find_63 (by decide) (fun _ => ?_) (fun h9 => absurd (by decide) h9)
          refine lv_iconst (v := nI 0) hx hb dX6_find_86 (by decide) ?_
          exact hret _ _ 87 _ _ ((ff_N (n) (rn) (mn) (pn) (sn) 0, ff_Z ((nI 1)) (co), ff_A14 (KP) (KL) (KR) (KM) (KN) (KS) (KB) (KT) (KE) (KF) (KX) (KX) (KX) (KX))) (by first | exact Or.inr (Or.inl ⟨⟨⟨f9, hf9, rfl⟩, (by first | exact Or.inl ⟨c18, c22⟩ | exact Or.inr ⟨c34, c46⟩)⟩, c71, rfl, rfl⟩) | exact Or.inl ⟨fun h => by first | (obtain ⟨⟨f8, h1, e1⟩, _⟩ := h; exact c14 (by rw [e1]; exact ff_le h1 (by decide))) | exact h.2.elim (fun h => by first | exact c18 h.1 | exact c22 h.2) (fun h => by first | exact c34 h.1 | exact c46 h.2), rfl, rfl⟩) hP hD hS dX6_find_87
        · have c34 := bI_nz.mp c34
          refine lv_iload_n hx hb dX6_find_37 rfl (lv_at hl 3 rfl) ?_
          refine lv_i2l hx hb dX6_find_38 rfl ?_
          refine lv_lconst (v := 1) hx hb dX6_find_39 (by decide) ?_
          refine lv_ldc2 (v := 9) hx hb hown (hg _ wd_cl_X6_112) dX6_find_40 ?_
          refine Cp.callS (As := [.long ((Int32.toInt64 (dn))), .long ((1 : Int64)), .long ((9 : Int64))]) (rest := []) (cv_X6_70 hg ⟨Nat.le_of_ble_eq_true rfl, Nat.le_of_ble_eq_true rfl⟩) (k_isIn32 l D cI [] (dn) (nI 1) (nI 9) _ _ (by decide) (by decide)) cx hK hP [] rfl hS rfl hl.1 rfl (Nat.le_of_ble_eq_true rfl) dX6_find_43 ⟨Nat.zero_le _, Nat.zero_le _⟩ (fun H locs hP hS => ?_)
          refine lv_if_eq (tgt := 53) hx hb dX6_find_46 (by decide) (fun c46 => ?_) (fun c46 => ?_)
          · have c46 := bI_z.mp c46
            refine lv_iconst (v := nI 0) hx hb dX6_find_53 (by decide) ?_
            refine lv_istore (lv' := [(4, .int (nI 0)), (0, .ref m0), (1, .int (nI f9)), (2, .int up), (3, .int dn)]) hx hb dX6_find_54 hl (by decide) rfl (fun ls hl => ?_)
            refine lv_aload_n hx hb dX6_find_56 rfl (lv_at hl 1 rfl) ?_
            refine lv_iload hx hb dX6_find_57 (lv_at hl 0 rfl) ?_
            refine lv_iconst (v := nI 1) hx hb dX6_find_59 (by decide) ?_
            refine Ci.callV (As := [.int (nI 0), .int (nI 1)]) (rest := []) (wr := [(m1, oI cI 60 KP), (m2, oI cI 60 KL), (m3, oI cI 5400 KR), (m4, oI cI 12 KM), (m5, oI cI 12 KN), (m6, oI cI 60 KS), (m7, oI cI 60 KB), (m8, oI cI 12 KT), (m9, oI cI 61 KE), (m10, oI cI 61 KF), (m11, oI cI 61 KX)]) (wn := (fun _ => [(m0, .inr (6, [.int ((nI 1)), .int (nI n), .ref m1, .ref m2, .int (nI rn), .ref m3, .int (nI mn), .ref m4, .ref m5, .int (nI pn), .ref m6, .int (nI sn), .int co, .ref m7, .ref m8, .ref m9, .ref m10, .ref m11])), (m1, oI cI 60 KP), (m2, oI cI 60 KL), (m3, oI cI 5400 KR), (m4, oI cI 12 KM), (m5, oI cI 12 KN), (m6, oI cI 60 KS), (m7, oI cI 60 KB), (m8, oI cI 12 KT), (m9, oI cI 61 KE), (m10, oI cI 61 KF), (m11, oI cI 61 KX)])) (cv_X6_76 hg ⟨Nat.le_of_ble_eq_true rfl, Nat.le_of_ble_eq_true rfl⟩) (k_go0 l D cI m0 (.int (nI n)) (.ref m1) (.ref m2) (.int (nI rn)) (.ref m3) (.int (nI mn)) (.ref m4) (.ref m5) (.int (nI pn)) (.ref m6) (.int (nI sn)) (.int co) (.ref m7) (.ref m8) (.ref m9) (.ref m10) (.ref m11) 1 (by decide) (by decide)) cx hK hP hD hA [0] [1, 2, 3, 4, 5, 6, 7, 8, 9, 10, 11] [11, 0, 1, 2, 3, 4, 5, 6, 7, 8, 9, 10] rfl rfl (by decide) (fun _ => rfl) (rq := 0) rfl rfl rfl hS rfl hl.1 rfl (Nat.le_of_ble_eq_true rfl) dX6_find_60 ⟨Nat.le_refl _, Nat.le_refl _⟩ (fun H locs r60 _ p60 hP hD hS => ?_)
            subst p60
            refine lv_if_eq (tgt := 86) hx hb dX6_find_63 (by decide) (fun _ => ?_) (fun h9 => absurd (by decide) h9)
            refine lv_iconst (v := nI 0) hx hb dX6_find_86 (by decide) ?_
            exact hret _ _ 87 _ _ ((ff_N (n) (rn) (mn) (pn) (sn) 0, ff_Z ((nI 1)) (co), ff_A14 (KP) (KL) (KR) (KM) (KN) (KS) (KB) (KT) (KE) (KF) (KX) (KX) (KX) (KX))) (by first | exact Or.inr (Or.inl ⟨⟨⟨f9, hf9, rfl⟩, (by first | exact Or.inl ⟨c18, c22⟩ | exact Or.inr ⟨c34, c46⟩)⟩, c71, rfl, rfl⟩) | exact Or.inl ⟨fun h => by first | (obtain ⟨⟨f8, h1, e1⟩, _⟩ := h; exact c14 (by rw [e1]; exact ff_le h1 (by decide))) | exact h.2.elim (fun h => by first | exact c18 h.1 | exact c22 h.2) (fun h => by first | exact c34 h.1 | exact c46 h.2), rfl, rfl⟩) hP hD hS dX6_find_87
          · have c46 := bI_nz.mp c46
            refine lv_iconst (v := nI 1) hx hb dX6_find_49 (by decide) ?_
            refine lv_goto (tgt := 54) hx hb dX6_find_50 (by decide) ?_
            refine lv_istore (lv' := [(4, .int (nI 1)), (0, .ref m0), (1, .int (nI f9)), (2, .int up), (3, .int dn)]) hx hb dX6_find_54 hl (by decide) rfl (fun ls hl => ?_)
            refine lv_aload_n hx hb dX6_find_56 rfl (lv_at hl 1 rfl) ?_
            refine lv_iload hx hb dX6_find_57 (lv_at hl 0 rfl) ?_
            refine lv_iconst (v := nI 1) hx hb dX6_find_59 (by decide) ?_
            refine Ci.callV (As := [.int (nI 1), .int (nI 1)]) (rest := []) (wr := [(m1, oI cI 60 KP), (m2, oI cI 60 KL), (m3, oI cI 5400 KR), (m4, oI cI 12 KM), (m5, oI cI 12 KN), (m6, oI cI 60 KS), (m7, oI cI 60 KB), (m8, oI cI 12 KT), (m9, oI cI 61 KE), (m10, oI cI 61 KF), (m11, oI cI 61 KX)]) (wn := (fun _ => [(m0, .inr (6, [.int (nI 0), .int (nI n), .ref m1, .ref m2, .int (nI rn), .ref m3, .int (nI mn), .ref m4, .ref m5, .int (nI pn), .ref m6, .int (nI sn), .int co, .ref m7, .ref m8, .ref m9, .ref m10, .ref m11])), (m1, oI cI 60 KP), (m2, oI cI 60 KL), (m3, oI cI 5400 KR), (m4, oI cI 12 KM), (m5, oI cI 12 KN), (m6, oI cI 60 KS), (m7, oI cI 60 KB), (m8, oI cI 12 KT), (m9, oI cI 61 KE), (m10, oI cI 61 KF), (m11, oI cI 61 KX)])) (cv_X6_76 hg ⟨Nat.le_of_ble_eq_true rfl, Nat.le_of_ble_eq_true rfl⟩) (k_go1 l D cI m0 (.int (nI n)) (.ref m1) (.ref m2) (.int (nI rn)) (.ref m3) (.int (nI mn)) (.ref m4) (.ref m5) (.int (nI pn)) (.ref m6) (.int (nI sn)) (.int co) (.ref m7) (.ref m8) (.ref m9) (.ref m10) (.ref m11) (nI 1)) cx hK hP hD hA [0] [1, 2, 3, 4, 5, 6, 7, 8, 9, 10, 11] [11, 0, 1, 2, 3, 4, 5, 6, 7, 8, 9, 10] rfl rfl (by decide) (fun _ => rfl) (rq := 0) rfl rfl rfl hS rfl hl.1 rfl (Nat.le_of_ble_eq_true rfl) dX6_find_60 ⟨Nat.le_refl _, Nat.le_refl _⟩ (fun H locs r60 _ p60 hP hD hS => ?_)
            subst p60
            refine lv_if_eq (tgt := 86) hx hb dX6_find_63 (by decide) (fun h9 => absurd h9 (by decide)) (fun _ => ?_)
            refine lv_aload_n hx hb dX6_find_66 rfl (lv_at hl 1 rfl) ?_
            refine lv_aload_n hx hb dX6_find_67 rfl (lv_at hl 1 rfl) ?_
            refine gf_X6_56 hx hb hg hown hK hP 0 rfl rfl dX6_find_68 ?_
            refine lv_if_le (tgt := 78) hx hb dX6_find_71 (by decide) (fun c71 => ?_) (fun c71 => ?_)
            · have c71 := (nz_le (by omega)).mp c71
              refine lv_iconst (v := nI 0) hx hb dX6_find_78 (by decide) ?_
              refine lv_iconst (v := nI 2) hx hb dX6_find_79 (by decide) ?_
              refine Ci.callV (As := [.int (nI 0), .int (nI 2)]) (rest := []) (wr := [(m1, oI cI 60 KP), (m2, oI cI 60 KL), (m3, oI cI 5400 KR), (m4, oI cI 12 KM), (m5, oI cI 12 KN), (m6, oI cI 60 KS), (m7, oI cI 60 KB), (m8, oI cI 12 KT), (m9, oI cI 61 KE), (m10, oI cI 61 KF), (m11, oI cI 61 KX)]) (wn := (fun _ => [(m0, .inr (6, [.int ((nI 2)), .int (nI n), .ref m1, .ref m2, .int (nI rn), .ref m3, .int (nI mn), .ref m4, .ref m5, .int (nI pn), .ref m6, .int (nI sn), .int co, .ref m7, .ref m8, .ref m9, .ref m10, .ref m11])), (m1, oI cI 60 KP), (m2, oI cI 60 KL), (m3, oI cI 5400 KR), (m4, oI cI 12 KM), (m5, oI cI 12 KN), (m6, oI cI 60 KS), (m7, oI cI 60 KB), (m8, oI cI 12 KT), (m9, oI cI 61 KE), (m10, oI cI 61 KF), (m11, oI cI 61 KX)])) (cv_X6_76 hg ⟨Nat.le_of_ble_eq_true rfl, Nat.le_of_ble_eq_true rfl⟩) (k_go0 l D cI m0 (.int (nI n)) (.ref m1) (.ref m2) (.int (nI rn)) (.ref m3) (.int (nI mn)) (.ref m4) (.ref m5) (.int (nI pn)) (.ref m6) (.int (nI sn)) (.int co) (.ref m7) (.ref m8) (.ref m9) (.ref m10) (.ref m11) 2 (by decide) (by decide)) cx hK hP hD hA [0] [1, 2, 3, 4, 5, 6, 7, 8, 9, 10, 11] [11, 0, 1, 2, 3, 4, 5, 6, 7, 8, 9, 10] rfl rfl (by decide) (fun _ => rfl) (rq := 0) rfl rfl rfl hS rfl hl.1 rfl (Nat.le_of_ble_eq_true rfl) dX6_find_80 ⟨Nat.le_refl _, Nat.le_refl _⟩ (fun H locs r80 _ p80 hP hD hS => ?_)
              subst p80
              refine lv_if_ne (tgt := 88) hx hb dX6_find_83 (by decide) (fun h9 => absurd (by decide) h9) (fun _ => ?_)
              refine lv_iconst (v := nI 0) hx hb dX6_find_86 (by decide) ?_
              exact hret _ _ 87 _ _ ((ff_N (n) (rn) (mn) (pn) (sn) 0, ff_Z ((nI 2)) (co), ff_A14 (KP) (KL) (KR) (KM) (KN) (KS) (KB) (KT) (KE) (KF) (KX) (KX) (KX) (KX))) (by first | exact Or.inr (Or.inl ⟨⟨⟨f9, hf9, rfl⟩, (by first | exact Or.inl ⟨c18, c22⟩ | exact Or.inr ⟨c34, c46⟩)⟩, c71, rfl, rfl⟩) | exact Or.inl ⟨fun h => by first | (obtain ⟨⟨f8, h1, e1⟩, _⟩ := h; exact c14 (by rw [e1]; exact ff_le h1 (by decide))) | exact h.2.elim (fun h => by first | exact c18 h.1 | exact c22 h.2) (fun h => by first | exact c34 h.1 | exact c46 h.2), rfl, rfl⟩) hP hD hS dX6_find_87
            · have c71 := mt (nz_le (by omega)).mpr c71
              refine lv_iconst (v := nI 1) hx hb dX6_find_74 (by decide) ?_
              refine lv_goto (tgt := 79) hx hb dX6_find_75 (by decide) ?_
              refine lv_iconst (v := nI 2) hx hb dX6_find_79 (by decide) ?_
              refine Ci.callV (As := [.int (nI 1), .int (nI 2)]) (rest := []) (wr := [(m1, oI cI 60 KP), (m2, oI cI 60 KL), (m3, oI cI 5400 KR), (m4, oI cI 12 KM), (m5, oI cI 12 KN), (m6, oI cI 60 KS), (m7, oI cI 60 KB), (m8, oI cI 12 KT), (m9, oI cI 61 KE), (m10, oI cI 61 KF), (m11, oI cI 61 KX)]) (wn := (fun _ => [(m0, .inr (6, [.int (nI 0), .int (nI n), .ref m1, .ref m2, .int (nI rn), .ref m3, .int (nI mn), .ref m4, .ref m5, .int (nI pn), .ref m6, .int (nI sn), .int co, .ref m7, .ref m8, .ref m9, .ref m10, .ref m11])), (m1, oI cI 60 KP), (m2, oI cI 60 KL), (m3, oI cI 5400 KR), (m4, oI cI 12 KM), (m5, oI cI 12 KN), (m6, oI cI 60 KS), (m7, oI cI 60 KB), (m8, oI cI 12 KT), (m9, oI cI 61 KE), (m10, oI cI 61 KF), (m11, oI cI 61 KX)])) (cv_X6_76 hg ⟨Nat.le_of_ble_eq_true rfl, Nat.le_of_ble_eq_true rfl⟩) (k_go1 l D cI m0 (.int (nI n)) (.ref m1) (.ref m2) (.int (nI rn)) (.ref m3) (.int (nI mn)) (.ref m4) (.ref m5) (.int (nI pn)) (.ref m6) (.int (nI sn)) (.int co) (.ref m7) (.ref m8) (.ref m9) (.ref m10) (.ref m11) (nI 2)) cx hK hP hD hA [0] [1, 2, 3, 4, 5, 6, 7, 8, 9, 10, 11] [11, 0, 1, 2, 3, 4, 5, 6, 7, 8, 9, 10] rfl rfl (by decide) (fun _ => rfl) (rq := 0) rfl rfl rfl hS rfl hl.1 rfl (Nat.le_of_ble_eq_true rfl) dX6_find_80 ⟨Nat.le_refl _, Nat.le_refl _⟩ (fun H locs r80 _ p80 hP hD hS => ?_)
              subst p80
              refine lv_if_ne (tgt := 88) hx hb dX6_find_83 (by decide) (fun _ => ?_) (fun h9 => absurd h9 (by decide))
              refine lv_iconst (v := nI 0) hx hb dX6_find_88 (by decide) ?_
              refine lv_istore (lv' := [(5, .int (nI 0)), (4, .int (nI 1)), (0, .ref m0), (1, .int (nI f9)), (2, .int up), (3, .int dn)]) hx hb dX6_find_89 hl (by decide) rfl (fun ls hl => ?_)
              rw [← ff_fill_0 (ff_fp KM f9 mn) KT] at hP hD
              have lp_91 : ∀ (k : Nat) (w9 : Nat) (H : Heap) (locs : List Loc) (ls : Array Slot), (w9 ≤ mn) → (mn - w9 < k) → va_P D vwCl [(m0, .inr (6, [.int ((nI 0)), .int (nI n), .ref m1, .ref m2, .int (nI rn), .ref m3, .int (nI mn), .ref m4, .ref m5, .int (nI pn), .ref m6, .int (nI sn), .int co, .ref m7, .ref m8, .ref m9, .ref m10, .ref m11])), (m1, oI cI 60 KP), (m2, oI cI 60 KL), (m3, oI cI 5400 KR), (m4, oI cI 12 KM), (m5, oI cI 12 KN), (m6, oI cI 60 KS), (m7, oI cI 60 KB), (m8, oI cI 12 (ff_fill (ff_fp KM f9 mn) KT w9)), (m9, oI cI 61 KE), (m10, oI cI 61 KF), (m11, oI cI 61 KX)] H → va_D A [(m0, .inr (6, [.int ((nI 0)), .int (nI n), .ref m1, .ref m2, .int (nI rn), .ref m3, .int (nI mn), .ref m4, .ref m5, .int (nI pn), .ref m6, .int (nI sn), .int co, .ref m7, .ref m8, .ref m9, .ref m10, .ref m11])), (m1, oI cI 60 KP), (m2, oI cI 60 KL), (m3, oI cI 5400 KR), (m4, oI cI 12 KM), (m5, oI cI 12 KN), (m6, oI cI 60 KS), (m7, oI cI 60 KB), (m8, oI cI 12 (ff_fill (ff_fp KM f9 mn) KT w9)), (m9, oI cI 61 KE), (m10, oI cI 61 KF), (m11, oI cI 61 KX)] → va_S A s.heap H locs → lv_has ls 8 [(0, .ref m0), (1, .int (nI f9)), (2, .int up), (3, .int dn), (5, .int (nI w9))] → W p l e (rr 2 0 0) s m args below meth c H locs 0 0 Q (F0 m 91 ls []) := by
                intro k
                induction k with
                | zero =>
                  intro w9 H locs ls hw hk
                  exact absurd hk (Nat.not_lt_zero _)
                | succ k ih_91 =>
                  intro w9 H locs ls hw hk hP hD hS hl
                  refine lv_iload hx hb dX6_find_91 (lv_at hl 4 rfl) ?_
                  refine lv_aload_n hx hb dX6_find_93 rfl (lv_at hl 0 rfl) ?_
                  refine gf_X6_56 hx hb hg hown hK hP 0 rfl rfl dX6_find_94 ?_
                  refine lv_icmp_ge (tgt := 120) hx hb dX6_find_97 (by decide) (fun c97 => ?_) (fun c97 => ?_)
                  · have c97 := (nI_leI (by omega) (by omega)).mp c97
                    obtain rfl : mn = w9 := by omega
                    refine lv_aload_n hx hb dX6_find_120 rfl (lv_at hl 0 rfl) ?_
                    refine lv_iconst (v := nI 0) hx hb dX6_find_121 (by decide) ?_
                    refine pf_X6_59 hx hb hg hown hK hP hD hS 0 rfl (Nat.le_of_ble_eq_true rfl) dX6_find_122 (fun H locs hP hD hS => ?_)
                    have hP : va_P D vwCl [(m0, .inr (6, [.int ((nI 0)), .int (nI n), .ref m1, .ref m2, .int (nI rn), .ref m3, .int (nI mn), .ref m4, .ref m5, .int (nI 0), .ref m6, .int (nI sn), .int co, .ref m7, .ref m8, .ref m9, .ref m10, .ref m11])), (m1, oI cI 60 KP), (m2, oI cI 60 KL), (m3, oI cI 5400 KR), (m4, oI cI 12 KM), (m5, oI cI 12 KN), (m6, oI cI 60 KS), (m7, oI cI 60 KB), (m8, oI cI 12 (ff_fill (ff_fp KM f9 mn) KT mn)), (m9, oI cI 61 KE), (m10, oI cI 61 KF), (m11, oI cI 61 KX)] H := hP
                    have hD : va_D A [(m0, .inr (6, [.int ((nI 0)), .int (nI n), .ref m1, .ref m2, .int (nI rn), .ref m3, .int (nI mn), .ref m4, .ref m5, .int (nI 0), .ref m6, .int (nI sn), .int co, .ref m7, .ref m8, .ref m9, .ref m10, .ref m11])), (m1, oI cI 60 KP), (m2, oI cI 60 KL), (m3, oI cI 5400 KR), (m4, oI cI 12 KM), (m5, oI cI 12 KN), (m6, oI cI 60 KS), (m7, oI cI 60 KB), (m8, oI cI 12 (ff_fill (ff_fp KM f9 mn) KT mn)), (m9, oI cI 61 KE), (m10, oI cI 61 KF), (m11, oI cI 61 KX)] := hD
                    refine lv_iconst (v := nI 0) hx hb dX6_find_125 (by decide) ?_
                    refine lv_istore (lv' := [(5, .int (nI 0)), (0, .ref m0), (1, .int (nI f9)), (2, .int up), (3, .int dn)]) hx hb dX6_find_126 hl (by decide) rfl (fun ls hl => ?_)
                    have lp_128 : ∀ (k : Nat) (z : Nat) (G : Nat → Int32) (H : Heap) (locs : List Loc) (ls : Array Slot), (z ≤ n) → (ff_hits (ff_pm n KP KL (ff_fill (ff_fp KM f9 mn) KT mn) (ff_fl KN f9 mn) mn up dn) z G) → (n - z < k) → va_P D vwCl [(m0, .inr (6, [.int ((nI 0)), .int (nI n), .ref m1, .ref m2, .int (nI rn), .ref m3, .int (nI mn), .ref m4, .ref m5, .int (nI (ff_ct (ff_pm n KP KL (ff_fill (ff_fp KM f9 mn) KT mn) (ff_fl KN f9 mn) mn up dn) z)), .ref m6, .int (nI sn), .int co, .ref m7, .ref m8, .ref m9, .ref m10, .ref m11])), (m1, oI cI 60 KP), (m2, oI cI 60 KL), (m3, oI cI 5400 KR), (m4, oI cI 12 KM), (m5, oI cI 12 KN), (m6, oI cI 60 G), (m7, oI cI 60 KB), (m8, oI cI 12 (ff_fill (ff_fp KM f9 mn) KT mn)), (m9, oI cI 61 KE), (m10, oI cI 61 KF), (m11, oI cI 61 KX)] H → va_D A [(m0, .inr (6, [.int ((nI 0)), .int (nI n), .ref m1, .ref m2, .int (nI rn), .ref m3, .int (nI mn), .ref m4, .ref m5, .int (nI (ff_ct (ff_pm n KP KL (ff_fill (ff_fp KM f9 mn) KT mn) (ff_fl KN f9 mn) mn up dn) z)), .ref m6, .int (nI sn), .int co, .ref m7, .ref m8, .ref m9, .ref m10, .ref m11])), (m1, oI cI 60 KP), (m2, oI cI 60 KL), (m3, oI cI 5400 KR), (m4, oI cI 12 KM), (m5, oI cI 12 KN), (m6, oI cI 60 G), (m7, oI cI 60 KB), (m8, oI cI 12 (ff_fill (ff_fp KM f9 mn) KT mn)), (m9, oI cI 61 KE), (m10, oI cI 61 KF), (m11, oI cI 61 KX)] → va_S A s.heap H locs → lv_has ls 8 [(0, .ref m0), (1, .int (nI f9)), (2, .int up), (3, .int dn), (5, .int (nI z))] → W p l e (rr 2 0 0) s m args below meth c H locs 0 0 Q (F0 m 128 ls []) := by
                      intro k
                      induction k with
                      | zero =>
                        intro z G H locs ls hz hG hk
                        exact absurd hk (Nat.not_lt_zero _)
                      | succ k ih_128 =>
                        intro z G H locs ls hz hG hk hP hD hS hl
                        have hcz := ff_ct_le (ff_pm n KP KL (ff_fill (ff_fp KM f9 mn) KT mn) (ff_fl KN f9 mn) mn up dn) z
                        refine lv_iload hx hb dX6_find_128 (lv_at hl 4 rfl) ?_
                        refine lv_aload_n hx hb dX6_find_130 rfl (lv_at hl 0 rfl) ?_
                        refine gf_X6_50 hx hb hg hown hK hP 0 rfl rfl dX6_find_131 ?_
                        refine lv_icmp_ge (tgt := 236) hx hb dX6_find_134 (by decide) (fun c134 => ?_) (fun c134 => ?_)
                        · have c134 := (nI_leI (by omega) (by omega)).mp c134
                          obtain rfl : n = z := by omega
                          refine lv_aload_n hx hb dX6_find_236 rfl (lv_at hl 0 rfl) ?_
                          refine gf_X6_59 hx hb hg hown hK hP 0 rfl rfl dX6_find_237 ?_
                          exact hret _ _ 240 _ _ ((ff_N (n) (rn) (mn) (ff_ct (ff_pm n KP KL (ff_fill (ff_fp KM f9 mn) KT mn) (ff_fl KN f9 mn) mn up dn) n) (sn) 0, ff_Z ((nI 0)) (co), ff_A14 (KP) (KL) (KR) (KM) (KN) (G) (KB) (ff_fill (ff_fp KM f9 mn) KT mn) (KE) (KF) (KX) (KX) (KX) (KX))) (Or.inr (Or.inr ⟨⟨⟨f9, hf9, rfl⟩, (by first | exact Or.inl ⟨c18, c22⟩ | exact Or.inr ⟨c34, c46⟩)⟩, by omega, G, by rw [cl_n (by omega)]; exact ⟨hG, rfl, rfl⟩⟩)) hP hD hS dX6_find_240
                        · have c134 := mt (nI_leI (by omega) (by omega)).mpr c134
                          refine lv_aload_n hx hb dX6_find_137 rfl (lv_at hl 0 rfl) ?_
                          refine lv_iload hx hb dX6_find_138 (lv_at hl 4 rfl) ?_
                          refine Cp.callV (As := [.int (nI z)]) (rest := []) (cv_X6_114 hg ⟨Nat.le_of_ble_eq_true rfl, Nat.le_of_ble_eq_true rfl⟩) (k_goes l D cI m0 m1 m2 m3 m4 m5 m6 m7 m8 m9 m10 m11 ((nI 0)) (co) (n) (rn) (mn) (ff_ct (ff_pm n KP KL (ff_fill (ff_fp KM f9 mn) KT mn) (ff_fl KN f9 mn) mn up dn) z) (sn) KP (ff_fill (ff_fp KM f9 mn) KT mn) z (by omega) hn (by omega) hmn) cx hK hP [0, 1, 8] rfl (rq := 0) rfl rfl rfl hS rfl hl.1 rfl (Nat.le_of_ble_eq_true rfl) dX6_find_140 ⟨Nat.zero_le _, Nat.zero_le _⟩ (fun H locs hP hS => ?_)
                          refine lv_asi (y := bI (ff_go n KP (ff_fill (ff_fp KM f9 mn) KT mn) mn z = true ∧ ff_all (fun t => decide (KL (z + t) * dn = ff_fl KN f9 mn t * up)) 0 = true)) (bI_if ⟨fun h => ⟨h, rfl⟩, fun h => h.1⟩) ?_
                          refine lv_istore (lv' := [(6, .int (bI (ff_go n KP (ff_fill (ff_fp KM f9 mn) KT mn) mn z = true ∧ ff_all (fun t => decide (KL (z + t) * dn = ff_fl KN f9 mn t * up)) 0 = true))), (0, .ref m0), (1, .int (nI f9)), (2, .int up), (3, .int dn), (5, .int (nI z))]) hx hb dX6_find_143 hl (by decide) rfl (fun ls hl => ?_)
                          refine lv_iconst (v := nI 0) hx hb dX6_find_145 (by decide) ?_
                          refine lv_istore (lv' := [(7, .int (nI 0)), (6, .int (bI (ff_go n KP (ff_fill (ff_fp KM f9 mn) KT mn) mn z = true ∧ ff_all (fun t => decide (KL (z + t) * dn = ff_fl KN f9 mn t * up)) 0 = true))), (0, .ref m0), (1, .int (nI f9)), (2, .int up), (3, .int dn), (5, .int (nI z))]) hx hb dX6_find_146 hl (by decide) rfl (fun ls hl => ?_)
                          have lp_148 : ∀ (k : Nat) (t : Nat) (H : Heap) (locs : List Loc) (ls : Array Slot), (t ≤ mn) → (mn - t < k) → va_P D vwCl [(m0, .inr (6, [.int ((nI 0)), .int (nI n), .ref m1, .ref m2, .int (nI rn), .ref m3, .int (nI mn), .ref m4, .ref m5, .int (nI (ff_ct (ff_pm n KP KL (ff_fill (ff_fp KM f9 mn) KT mn) (ff_fl KN f9 mn) mn up dn) z)), .ref m6, .int (nI sn), .int co, .ref m7, .ref m8, .ref m9, .ref m10, .ref m11])), (m1, oI cI 60 KP), (m2, oI cI 60 KL), (m3, oI cI 5400 KR), (m4, oI cI 12 KM), (m5, oI cI 12 KN), (m6, oI cI 60 G), (m7, oI cI 60 KB), (m8, oI cI 12 (ff_fill (ff_fp KM f9 mn) KT mn)), (m9, oI cI 61 KE), (m10, oI cI 61 KF), (m11, oI cI 61 KX)] H → va_D A [(m0, .inr (6, [.int ((nI 0)), .int (nI n), .ref m1, .ref m2, .int (nI rn), .ref m3, .int (nI mn), .ref m4, .ref m5, .int (nI (ff_ct (ff_pm n KP KL (ff_fill (ff_fp KM f9 mn) KT mn) (ff_fl KN f9 mn) mn up dn) z)), .ref m6, .int (nI sn), .int co, .ref m7, .ref m8, .ref m9, .ref m10, .ref m11])), (m1, oI cI 60 KP), (m2, oI cI 60 KL), (m3, oI cI 5400 KR), (m4, oI cI 12 KM), (m5, oI cI 12 KN), (m6, oI cI 60 G), (m7, oI cI 60 KB), (m8, oI cI 12 (ff_fill (ff_fp KM f9 mn) KT mn)), (m9, oI cI 61 KE), (m10, oI cI 61 KF), (m11, oI cI 61 KX)] → va_S A s.heap H locs → lv_has ls 8 [(0, .ref m0), (1, .int (nI f9)), (2, .int up), (3, .int dn), (5, .int (nI z)), (6, .int (bI (ff_go n KP (ff_fill (ff_fp KM f9 mn) KT mn) mn z = true ∧ ff_all (fun t => decide (KL (z + t) * dn = ff_fl KN f9 mn t * up)) t = true))), (7, .int (nI t))] → W p l e (rr 2 0 0) s m args below meth c H locs 0 0 Q (F0 m 148 ls []) := by
                            intro k
                            induction k with
                            | zero =>
                              intro t H locs ls ht hk
                              exact absurd hk (Nat.not_lt_zero _)
                            | succ k ih_148 =>
                              intro t H locs ls ht hk hP hD hS hl
                              refine lv_iload hx hb dX6_find_148 (lv_at hl 6 rfl) ?_
                              refine lv_aload_n hx hb dX6_find_150 rfl (lv_at hl 0 rfl) ?_
                              refine gf_X6_56 hx hb hg hown hK hP 0 rfl rfl dX6_find_151 ?_
                              refine lv_icmp_ge (tgt := 204) hx hb dX6_find_154 (by decide) (fun c154 => ?_) (fun c154 => ?_)
                              · have c154 := (nI_leI (by omega) (by omega)).mp c154
                                refine lv_iload hx hb dX6_find_204 (lv_at hl 5 rfl) ?_
                                refine lv_if_eq (tgt := 230) hx hb dX6_find_206 (by decide) (fun c206 => ?_) (fun c206 => ?_)
                                · have c206 := bI_z.mp c206
                                  have hnp : ¬ ff_pm n KP KL (ff_fill (ff_fp KM f9 mn) KT mn) (ff_fl KN f9 mn) mn up dn z = true := ff_pm_f (by omega) c206
                                  have e9 : ff_ct (ff_pm n KP KL (ff_fill (ff_fp KM f9 mn) KT mn) (ff_fl KN f9 mn) mn up dn) (z + 1) = ff_ct (ff_pm n KP KL (ff_fill (ff_fp KM f9 mn) KT mn) (ff_fl KN f9 mn) mn up dn) z := ff_ct_f hnp
                                  refine lv_iinc (v := nI (z + 1)) (lv' := [(5, .int (nI (z + 1))), (0, .ref m0), (1, .int (nI f9)), (2, .int up), (3, .int dn), (6, .int (bI (ff_go n KP (ff_fill (ff_fp KM f9 mn) KT mn) mn z = true ∧ ff_all (fun t => decide (KL (z + t) * dn = ff_fl KN f9 mn t * up)) t = true))), (7, .int (nI t))]) hx hb dX6_find_230 hl (k := 4) rfl (nI_1 _) (by decide) rfl (fun ls hl => ?_)
                                  refine lv_goto (tgt := 128) hx hb dX6_find_233 (by decide) ?_
                                  rw [← e9] at hP hD
                                  exact ih_128 (z + 1) (_) _ _ _ (by omega) (by first | exact ff_hits_t hG | exact ff_hits_f hG hnp) (by omega) hP hD hS (lv_sub hl [1, 2, 3, 4, 0] rfl)
                                · have c206 := bI_nz.mp c206
                                  have hyp : ff_pm n KP KL (ff_fill (ff_fp KM f9 mn) KT mn) (ff_fl KN f9 mn) mn up dn z = true := by first | exact ff_pm_t (by omega) c206 | exact absurd c206 c159
                                  have e9 : ff_ct (ff_pm n KP KL (ff_fill (ff_fp KM f9 mn) KT mn) (ff_fl KN f9 mn) mn up dn) (z + 1) = ff_ct (ff_pm n KP KL (ff_fill (ff_fp KM f9 mn) KT mn) (ff_fl KN f9 mn) mn up dn) z + 1 := ff_ct_t hyp
                                  refine lv_aload_n hx hb dX6_find_209 rfl (lv_at hl 0 rfl) ?_
                                  refine gf_X6_25 hx hb hg hown hK hP 0 rfl rfl dX6_find_210 ?_
                                  refine lv_aload_n hx hb dX6_find_213 rfl (lv_at hl 0 rfl) ?_
                                  refine gf_X6_59 hx hb hg hown hK hP 0 rfl rfl dX6_find_214 ?_
                                  refine lv_iload hx hb dX6_find_217 (lv_at hl 4 rfl) ?_
                                  refine ast hx hb hK hP hD hS 6 rfl rfl (by omega) dX6_find_219 (fun H locs hP hD hS => ?_)
                                  have hP : va_P D vwCl [(m0, .inr (6, [.int ((nI 0)), .int (nI n), .ref m1, .ref m2, .int (nI rn), .ref m3, .int (nI mn), .ref m4, .ref m5, .int (nI (ff_ct (ff_pm n KP KL (ff_fill (ff_fp KM f9 mn) KT mn) (ff_fl KN f9 mn) mn up dn) z)), .ref m6, .int (nI sn), .int co, .ref m7, .ref m8, .ref m9, .ref m10, .ref m11])), (m1, oI cI 60 KP), (m2, oI cI 60 KL), (m3, oI cI 5400 KR), (m4, oI cI 12 KM), (m5, oI cI 12 KN), (m6, oI cI 60 (upd G (ff_ct (ff_pm n KP KL (ff_fill (ff_fp KM f9 mn) KT mn) (ff_fl KN f9 mn) mn up dn) z) (nI z))), (m7, oI cI 60 KB), (m8, oI cI 12 (ff_fill (ff_fp KM f9 mn) KT mn)), (m9, oI cI 61 KE), (m10, oI cI 61 KF), (m11, oI cI 61 KX)] H := hP
                                  have hD : va_D A [(m0, .inr (6, [.int ((nI 0)), .int (nI n), .ref m1, .ref m2, .int (nI rn), .ref m3, .int (nI mn), .ref m4, .ref m5, .int (nI (ff_ct (ff_pm n KP KL (ff_fill (ff_fp KM f9 mn) KT mn) (ff_fl KN f9 mn) mn up dn) z)), .ref m6, .int (nI sn), .int co, .ref m7, .ref m8, .ref m9, .ref m10, .ref m11])), (m1, oI cI 60 KP), (m2, oI cI 60 KL), (m3, oI cI 5400 KR), (m4, oI cI 12 KM), (m5, oI cI 12 KN), (m6, oI cI 60 (upd G (ff_ct (ff_pm n KP KL (ff_fill (ff_fp KM f9 mn) KT mn) (ff_fl KN f9 mn) mn up dn) z) (nI z))), (m7, oI cI 60 KB), (m8, oI cI 12 (ff_fill (ff_fp KM f9 mn) KT mn)), (m9, oI cI 61 KE), (m10, oI cI 61 KF), (m11, oI cI 61 KX)] := hD
                                  refine lv_aload_n hx hb dX6_find_220 rfl (lv_at hl 0 rfl) ?_
                                  refine lv_dup hx hb dX6_find_221 rfl ?_
                                  refine gf_X6_59 hx hb hg hown hK hP 0 rfl rfl dX6_find_222 ?_
                                  refine lv_iconst (v := nI 1) hx hb dX6_find_225 (by decide) ?_
                                  refine lv_iadd hx hb dX6_find_226 ?_
                                  refine lv_asi (nI_add _ _) ?_
                                  refine pf_X6_59 hx hb hg hown hK hP hD hS 0 rfl (Nat.le_of_ble_eq_true rfl) dX6_find_227 (fun H locs hP hD hS => ?_)
                                  have hP : va_P D vwCl [(m0, .inr (6, [.int ((nI 0)), .int (nI n), .ref m1, .ref m2, .int (nI rn), .ref m3, .int (nI mn), .ref m4, .ref m5, .int (nI (ff_ct (ff_pm n KP KL (ff_fill (ff_fp KM f9 mn) KT mn) (ff_fl KN f9 mn) mn up dn) z + 1)), .ref m6, .int (nI sn), .int co, .ref m7, .ref m8, .ref m9, .ref m10, .ref m11])), (m1, oI cI 60 KP), (m2, oI cI 60 KL), (m3, oI cI 5400 KR), (m4, oI cI 12 KM), (m5, oI cI 12 KN), (m6, oI cI 60 (upd G (ff_ct (ff_pm n KP KL (ff_fill (ff_fp KM f9 mn) KT mn) (ff_fl KN f9 mn) mn up dn) z) (nI z))), (m7, oI cI 60 KB), (m8, oI cI 12 (ff_fill (ff_fp KM f9 mn) KT mn)), (m9, oI cI 61 KE), (m10, oI cI 61 KF), (m11, oI cI 61 KX)] H := hP
                                  have hD : va_D A [(m0, .inr (6, [.int ((nI 0)), .int (nI n), .ref m1, .ref m2, .int (nI rn), .ref m3, .int (nI mn), .ref m4, .ref m5, .int (nI (ff_ct (ff_pm n KP KL (ff_fill (ff_fp KM f9 mn) KT mn) (ff_fl KN f9 mn) mn up dn) z + 1)), .ref m6, .int (nI sn), .int co, .ref m7, .ref m8, .ref m9, .ref m10, .ref m11])), (m1, oI cI 60 KP), (m2, oI cI 60 KL), (m3, oI cI 5400 KR), (m4, oI cI 12 KM), (m5, oI cI 12 KN), (m6, oI cI 60 (upd G (ff_ct (ff_pm n KP KL (ff_fill (ff_fp KM f9 mn) KT mn) (ff_fl KN f9 mn) mn up dn) z) (nI z))), (m7, oI cI 60 KB), (m8, oI cI 12 (ff_fill (ff_fp KM f9 mn) KT mn)), (m9, oI cI 61 KE), (m10, oI cI 61 KF), (m11, oI cI 61 KX)] := hD
                                  refine lv_iinc (v := nI (z + 1)) (lv' := [(5, .int (nI (z + 1))), (0, .ref m0), (1, .int (nI f9)), (2, .int up), (3, .int dn), (6, .int (bI (ff_go n KP (ff_fill (ff_fp KM f9 mn) KT mn) mn z = true ∧ ff_all (fun t => decide (KL (z + t) * dn = ff_fl KN f9 mn t * up)) t = true))), (7, .int (nI t))]) hx hb dX6_find_230 hl (k := 4) rfl (nI_1 _) (by decide) rfl (fun ls hl => ?_)
                                  refine lv_goto (tgt := 128) hx hb dX6_find_233 (by decide) ?_
                                  rw [← e9] at hP hD
                                  exact ih_128 (z + 1) (_) _ _ _ (by omega) (by first | exact ff_hits_t hG | exact ff_hits_f hG hnp) (by omega) hP hD hS (lv_sub hl [1, 2, 3, 4, 0] rfl)
                              · have c154 := mt (nI_leI (by omega) (by omega)).mpr c154
                                refine lv_iload hx hb dX6_find_157 (lv_at hl 5 rfl) ?_
                                refine lv_if_eq (tgt := 204) hx hb dX6_find_159 (by decide) (fun c159 => ?_) (fun c159 => ?_)
                                · have c159 := bI_z.mp c159
                                  refine lv_iload hx hb dX6_find_204 (lv_at hl 5 rfl) ?_
                                  refine lv_if_eq (tgt := 230) hx hb dX6_find_206 (by decide) (fun c206 => ?_) (fun c206 => ?_)
                                  · have c206 := bI_z.mp c206
                                    have hnp : ¬ ff_pm n KP KL (ff_fill (ff_fp KM f9 mn) KT mn) (ff_fl KN f9 mn) mn up dn z = true := ff_pm_f (by omega) c206
                                    have e9 : ff_ct (ff_pm n KP KL (ff_fill (ff_fp KM f9 mn) KT mn) (ff_fl KN f9 mn) mn up dn) (z + 1) = ff_ct (ff_pm n KP KL (ff_fill (ff_fp KM f9 mn) KT mn) (ff_fl KN f9 mn) mn up dn) z := ff_ct_f hnp
                                    refine lv_iinc (v := nI (z + 1)) (lv' := [(5, .int (nI (z + 1))), (0, .ref m0), (1, .int (nI f9)), (2, .int up), (3, .int dn), (6, .int (bI (ff_go n KP (ff_fill (ff_fp KM f9 mn) KT mn) mn z = true ∧ ff_all (fun t => decide (KL (z + t) * dn = ff_fl KN f9 mn t * up)) t = true))), (7, .int (nI t))]) hx hb dX6_find_230 hl (k := 4) rfl (nI_1 _) (by decide) rfl (fun ls hl => ?_)
                                    refine lv_goto (tgt := 128) hx hb dX6_find_233 (by decide) ?_
                                    rw [← e9] at hP hD
                                    exact ih_128 (z + 1) (_) _ _ _ (by omega) (by first | exact ff_hits_t hG | exact ff_hits_f hG hnp) (by omega) hP hD hS (lv_sub hl [1, 2, 3, 4, 0] rfl)
                                  · have c206 := bI_nz.mp c206
                                    have hyp : ff_pm n KP KL (ff_fill (ff_fp KM f9 mn) KT mn) (ff_fl KN f9 mn) mn up dn z = true := by first | exact ff_pm_t (by omega) c206 | exact absurd c206 c159
                                    have e9 : ff_ct (ff_pm n KP KL (ff_fill (ff_fp KM f9 mn) KT mn) (ff_fl KN f9 mn) mn up dn) (z + 1) = ff_ct (ff_pm n KP KL (ff_fill (ff_fp KM f9 mn) KT mn) (ff_fl KN f9 mn) mn up dn) z + 1 := ff_ct_t hyp
                                    refine lv_aload_n hx hb dX6_find_209 rfl (lv_at hl 0 rfl) ?_
                                    refine gf_X6_25 hx hb hg hown hK hP 0 rfl rfl dX6_find_210 ?_
                                    refine lv_aload_n hx hb dX6_find_213 rfl (lv_at hl 0 rfl) ?_
                                    refine gf_X6_59 hx hb hg hown hK hP 0 rfl rfl dX6_find_214 ?_
                                    refine lv_iload hx hb dX6_find_217 (lv_at hl 4 rfl) ?_
                                    refine ast hx hb hK hP hD hS 6 rfl rfl (by omega) dX6_find_219 (fun H locs hP hD hS => ?_)
                                    have hP : va_P D vwCl [(m0, .inr (6, [.int ((nI 0)), .int (nI n), .ref m1, .ref m2, .int (nI rn), .ref m3, .int (nI mn), .ref m4, .ref m5, .int (nI (ff_ct (ff_pm n KP KL (ff_fill (ff_fp KM f9 mn) KT mn) (ff_fl KN f9 mn) mn up dn) z)), .ref m6, .int (nI sn), .int co, .ref m7, .ref m8, .ref m9, .ref m10, .ref m11])), (m1, oI cI 60 KP), (m2, oI cI 60 KL), (m3, oI cI 5400 KR), (m4, oI cI 12 KM), (m5, oI cI 12 KN), (m6, oI cI 60 (upd G (ff_ct (ff_pm n KP KL (ff_fill (ff_fp KM f9 mn) KT mn) (ff_fl KN f9 mn) mn up dn) z) (nI z))), (m7, oI cI 60 KB), (m8, oI cI 12 (ff_fill (ff_fp KM f9 mn) KT mn)), (m9, oI cI 61 KE), (m10, oI cI 61 KF), (m11, oI cI 61 KX)] H := hP
                                    have hD : va_D A [(m0, .inr (6, [.int ((nI 0)), .int (nI n), .ref m1, .ref m2, .int (nI rn), .ref m3, .int (nI mn), .ref m4, .ref m5, .int (nI (ff_ct (ff_pm n KP KL (ff_fill (ff_fp KM f9 mn) KT mn) (ff_fl KN f9 mn) mn up dn) z)), .ref m6, .int (nI sn), .int co, .ref m7, .ref m8, .ref m9, .ref m10, .ref m11])), (m1, oI cI 60 KP), (m2, oI cI 60 KL), (m3, oI cI 5400 KR), (m4, oI cI 12 KM), (m5, oI cI 12 KN), (m6, oI cI 60 (upd G (ff_ct (ff_pm n KP KL (ff_fill (ff_fp KM f9 mn) KT mn) (ff_fl KN f9 mn) mn up dn) z) (nI z))), (m7, oI cI 60 KB), (m8, oI cI 12 (ff_fill (ff_fp KM f9 mn) KT mn)), (m9, oI cI 61 KE), (m10, oI cI 61 KF), (m11, oI cI 61 KX)] := hD
                                    refine lv_aload_n hx hb dX6_find_220 rfl (lv_at hl 0 rfl) ?_
                                    refine lv_dup hx hb dX6_find_221 rfl ?_
                                    refine gf_X6_59 hx hb hg hown hK hP 0 rfl rfl dX6_find_222 ?_
                                    refine lv_iconst (v := nI 1) hx hb dX6_find_225 (by decide) ?_
                                    refine lv_iadd hx hb dX6_find_226 ?_
                                    refine lv_asi (nI_add _ _) ?_
                                    refine pf_X6_59 hx hb hg hown hK hP hD hS 0 rfl (Nat.le_of_ble_eq_true rfl) dX6_find_227 (fun H locs hP hD hS => ?_)
                                    have hP : va_P D vwCl [(m0, .inr (6, [.int ((nI 0)), .int (nI n), .ref m1, .ref m2, .int (nI rn), .ref m3, .int (nI mn), .ref m4, .ref m5, .int (nI (ff_ct (ff_pm n KP KL (ff_fill (ff_fp KM f9 mn) KT mn) (ff_fl KN f9 mn) mn up dn) z + 1)), .ref m6, .int (nI sn), .int co, .ref m7, .ref m8, .ref m9, .ref m10, .ref m11])), (m1, oI cI 60 KP), (m2, oI cI 60 KL), (m3, oI cI 5400 KR), (m4, oI cI 12 KM), (m5, oI cI 12 KN), (m6, oI cI 60 (upd G (ff_ct (ff_pm n KP KL (ff_fill (ff_fp KM f9 mn) KT mn) (ff_fl KN f9 mn) mn up dn) z) (nI z))), (m7, oI cI 60 KB), (m8, oI cI 12 (ff_fill (ff_fp KM f9 mn) KT mn)), (m9, oI cI 61 KE), (m10, oI cI 61 KF), (m11, oI cI 61 KX)] H := hP
                                    have hD : va_D A [(m0, .inr (6, [.int ((nI 0)), .int (nI n), .ref m1, .ref m2, .int (nI rn), .ref m3, .int (nI mn), .ref m4, .ref m5, .int (nI (ff_ct (ff_pm n KP KL (ff_fill (ff_fp KM f9 mn) KT mn) (ff_fl KN f9 mn) mn up dn) z + 1)), .ref m6, .int (nI sn), .int co, .ref m7, .ref m8, .ref m9, .ref m10, .ref m11])), (m1, oI cI 60 KP), (m2, oI cI 60 KL), (m3, oI cI 5400 KR), (m4, oI cI 12 KM), (m5, oI cI 12 KN), (m6, oI cI 60 (upd G (ff_ct (ff_pm n KP KL (ff_fill (ff_fp KM f9 mn) KT mn) (ff_fl KN f9 mn) mn up dn) z) (nI z))), (m7, oI cI 60 KB), (m8, oI cI 12 (ff_fill (ff_fp KM f9 mn) KT mn)), (m9, oI cI 61 KE), (m10, oI cI 61 KF), (m11, oI cI 61 KX)] := hD
                                    refine lv_iinc (v := nI (z + 1)) (lv' := [(5, .int (nI (z + 1))), (0, .ref m0), (1, .int (nI f9)), (2, .int up), (3, .int dn), (6, .int (bI (ff_go n KP (ff_fill (ff_fp KM f9 mn) KT mn) mn z = true ∧ ff_all (fun t => decide (KL (z + t) * dn = ff_fl KN f9 mn t * up)) t = true))), (7, .int (nI t))]) hx hb dX6_find_230 hl (k := 4) rfl (nI_1 _) (by decide) rfl (fun ls hl => ?_)
                                    refine lv_goto (tgt := 128) hx hb dX6_find_233 (by decide) ?_
                                    rw [← e9] at hP hD
                                    exact ih_128 (z + 1) (_) _ _ _ (by omega) (by first | exact ff_hits_t hG | exact ff_hits_f hG hnp) (by omega) hP hD hS (lv_sub hl [1, 2, 3, 4, 0] rfl)
                                · have c159 := bI_nz.mp c159
                                  have hzn := ff_go_le c159.1
                                  have hs9 := ff_src_lt (fo := f9) (tn := mn) (i := t) (by omega)
                                  refine lv_aload_n hx hb dX6_find_162 rfl (lv_at hl 0 rfl) ?_
                                  refine gf_X6_13 hx hb hg hown hK hP 0 rfl rfl dX6_find_163 ?_
                                  refine lv_iload hx hb dX6_find_166 (lv_at hl 4 rfl) ?_
                                  refine lv_iload hx hb dX6_find_168 (lv_at hl 6 rfl) ?_
                                  refine lv_iadd hx hb dX6_find_170 ?_
                                  refine lv_asi (nI_add _ _) ?_
                                  refine ald hx hb hK hP 2 rfl rfl (by omega) dX6_find_171 ?_
                                  refine lv_iload_n hx hb dX6_find_172 rfl (lv_at hl 3 rfl) ?_
                                  refine lv_imul hx hb dX6_find_173 ?_
                                  refine lv_aload_n hx hb dX6_find_174 rfl (lv_at hl 0 rfl) ?_
                                  refine gf_X6_22 hx hb hg hown hK hP 0 rfl rfl dX6_find_175 ?_
                                  refine lv_aload_n hx hb dX6_find_178 rfl (lv_at hl 0 rfl) ?_
                                  refine lv_iload_n hx hb dX6_find_179 rfl (lv_at hl 1 rfl) ?_
                                  refine lv_iload hx hb dX6_find_180 (lv_at hl 6 rfl) ?_
                                  refine Cp.callV (As := [.int (nI f9), .int (nI t)]) (rest := [.ref m5, .int (((KL (z + t)) * dn))]) (cv_X6_104 hg ⟨Nat.le_of_ble_eq_true rfl, Nat.le_of_ble_eq_true rfl⟩) (k_source l D cI m0 m1 m2 m3 m4 m5 m6 m7 m8 m9 m10 m11 ((nI 0)) (co) (n) (rn) (mn) (ff_ct (ff_pm n KP KL (ff_fill (ff_fp KM f9 mn) KT mn) (ff_fl KN f9 mn) mn up dn) z) (sn) f9 t hf9 (by omega) hmn) cx hK hP [0] rfl (rq := 0) rfl rfl rfl hS rfl hl.1 rfl (Nat.le_of_ble_eq_true rfl) dX6_find_182 ⟨Nat.zero_le _, Nat.zero_le _⟩ (fun H locs hP hS => ?_)
                                  refine ald hx hb hK hP 5 rfl rfl (by omega) dX6_find_185 ?_
                                  refine lv_iload_n hx hb dX6_find_186 rfl (lv_at hl 2 rfl) ?_
                                  refine lv_imul hx hb dX6_find_187 ?_
                                  refine lv_icmp_ne (tgt := 195) hx hb dX6_find_188 (by decide) (fun c188 => ?_) (fun c188 => ?_)
                                  · skip
                                    refine lv_iconst (v := nI 0) hx hb dX6_find_195 (by decide) ?_
                                    refine lv_asi (y := bI (ff_go n KP (ff_fill (ff_fp KM f9 mn) KT mn) mn z = true ∧ ff_all (fun t => decide (KL (z + t) * dn = ff_fl KN f9 mn t * up)) (t + 1) = true)) (by first | exact bI_1 (ff_pm_s c159 c188) | exact bI_0 (ff_pm_n c188)) ?_
                                    refine lv_istore (lv' := [(6, .int (bI (ff_go n KP (ff_fill (ff_fp KM f9 mn) KT mn) mn z = true ∧ ff_all (fun t => decide (KL (z + t) * dn = ff_fl KN f9 mn t * up)) (t + 1) = true))), (0, .ref m0), (1, .int (nI f9)), (2, .int up), (3, .int dn), (5, .int (nI z)), (7, .int (nI t))]) hx hb dX6_find_196 hl (by decide) rfl (fun ls hl => ?_)
                                    refine lv_iinc (v := nI (t + 1)) (lv' := [(7, .int (nI (t + 1))), (6, .int (bI (ff_go n KP (ff_fill (ff_fp KM f9 mn) KT mn) mn z = true ∧ ff_all (fun t => decide (KL (z + t) * dn = ff_fl KN f9 mn t * up)) (t + 1) = true))), (0, .ref m0), (1, .int (nI f9)), (2, .int up), (3, .int dn), (5, .int (nI z))]) hx hb dX6_find_198 hl (k := 6) rfl (nI_1 _) (by decide) rfl (fun ls hl => ?_)
                                    refine lv_goto (tgt := 148) hx hb dX6_find_201 (by decide) ?_
                                    exact ih_148 (t + 1) _ _ _ (by omega) (by omega) hP hD hS (lv_sub hl [2, 3, 4, 5, 6, 1, 0] rfl)
                                  · skip
                                    refine lv_iconst (v := nI 1) hx hb dX6_find_191 (by decide) ?_
                                    refine lv_goto (tgt := 196) hx hb dX6_find_192 (by decide) ?_
                                    refine lv_asi (y := bI (ff_go n KP (ff_fill (ff_fp KM f9 mn) KT mn) mn z = true ∧ ff_all (fun t => decide (KL (z + t) * dn = ff_fl KN f9 mn t * up)) (t + 1) = true)) (by first | exact bI_1 (ff_pm_s c159 c188) | exact bI_0 (ff_pm_n c188)) ?_
                                    refine lv_istore (lv' := [(6, .int (bI (ff_go n KP (ff_fill (ff_fp KM f9 mn) KT mn) mn z = true ∧ ff_all (fun t => decide (KL (z + t) * dn = ff_fl KN f9 mn t * up)) (t + 1) = true))), (0, .ref m0), (1, .int (nI f9)), (2, .int up), (3, .int dn), (5, .int (nI z)), (7, .int (nI t))]) hx hb dX6_find_196 hl (by decide) rfl (fun ls hl => ?_)
                                    refine lv_iinc (v := nI (t + 1)) (lv' := [(7, .int (nI (t + 1))), (6, .int (bI (ff_go n KP (ff_fill (ff_fp KM f9 mn) KT mn) mn z = true ∧ ff_all (fun t => decide (KL (z + t) * dn = ff_fl KN f9 mn t * up)) (t + 1) = true))), (0, .ref m0), (1, .int (nI f9)), (2, .int up), (3, .int dn), (5, .int (nI z))]) hx hb dX6_find_198 hl (k := 6) rfl (nI_1 _) (by decide) rfl (fun ls hl => ?_)
                                    refine lv_goto (tgt := 148) hx hb dX6_find_201 (by decide) ?_
                                    exact ih_148 (t + 1) _ _ _ (by omega) (by omega) hP hD hS (lv_sub hl [2, 3, 4, 5, 6, 1, 0] rfl)
                          exact lp_148 (_ + 1) (0) _ _ _ (Nat.zero_le _) (Nat.lt_succ_self _) hP hD hS (lv_sub hl [2, 3, 4, 5, 6, 1, 0] rfl)
                    exact lp_128 (_ + 1) (0) (KS) _ _ _ (Nat.zero_le _) (ff_hits_0 _ _) (Nat.lt_succ_self _) hP hD hS (lv_sub hl [1, 2, 3, 4, 0] rfl)
                  · have c97 := mt (nI_leI (by omega) (by omega)).mpr c97
                    refine lv_aload_n hx hb dX6_find_100 rfl (lv_at hl 0 rfl) ?_
                    refine gf_X6_31 hx hb hg hown hK hP 0 rfl rfl dX6_find_101 ?_
                    refine lv_iload hx hb dX6_find_104 (lv_at hl 4 rfl) ?_
                    refine lv_aload_n hx hb dX6_find_106 rfl (lv_at hl 0 rfl) ?_
                    refine lv_iload_n hx hb dX6_find_107 rfl (lv_at hl 1 rfl) ?_
                    refine lv_iload hx hb dX6_find_108 (lv_at hl 4 rfl) ?_
                    refine Cp.callV (As := [.int (nI f9), .int (nI w9)]) (rest := [.int (nI w9), .ref m8]) (cv_X6_109 hg ⟨Nat.le_of_ble_eq_true rfl, Nat.le_of_ble_eq_true rfl⟩) (k_MformPitch l D cI m0 m1 m2 m3 m4 m5 m6 m7 m8 m9 m10 m11 ((nI 0)) (co) (n) (rn) (mn) (pn) (sn) KM f9 w9 hf9 (by omega) hmn) cx hK hP [0, 4] rfl (rq := 0) rfl rfl rfl hS rfl hl.1 rfl (Nat.le_of_ble_eq_true rfl) dX6_find_110 ⟨Nat.zero_le _, Nat.zero_le _⟩ (fun H locs hP hS => ?_)
                    refine ast hx hb hK hP hD hS 8 rfl rfl (by omega) dX6_find_113 (fun H locs hP hD hS => ?_)
                    have hP : va_P D vwCl [(m0, .inr (6, [.int ((nI 0)), .int (nI n), .ref m1, .ref m2, .int (nI rn), .ref m3, .int (nI mn), .ref m4, .ref m5, .int (nI pn), .ref m6, .int (nI sn), .int co, .ref m7, .ref m8, .ref m9, .ref m10, .ref m11])), (m1, oI cI 60 KP), (m2, oI cI 60 KL), (m3, oI cI 5400 KR), (m4, oI cI 12 KM), (m5, oI cI 12 KN), (m6, oI cI 60 KS), (m7, oI cI 60 KB), (m8, oI cI 12 (upd (ff_fill (ff_fp KM f9 mn) KT w9) w9 ((ff_fp KM f9 mn w9)))), (m9, oI cI 61 KE), (m10, oI cI 61 KF), (m11, oI cI 61 KX)] H := hP
                    have hD : va_D A [(m0, .inr (6, [.int ((nI 0)), .int (nI n), .ref m1, .ref m2, .int (nI rn), .ref m3, .int (nI mn), .ref m4, .ref m5, .int (nI pn), .ref m6, .int (nI sn), .int co, .ref m7, .ref m8, .ref m9, .ref m10, .ref m11])), (m1, oI cI 60 KP), (m2, oI cI 60 KL), (m3, oI cI 5400 KR), (m4, oI cI 12 KM), (m5, oI cI 12 KN), (m6, oI cI 60 KS), (m7, oI cI 60 KB), (m8, oI cI 12 (upd (ff_fill (ff_fp KM f9 mn) KT w9) w9 ((ff_fp KM f9 mn w9)))), (m9, oI cI 61 KE), (m10, oI cI 61 KF), (m11, oI cI 61 KX)] := hD
                    have e9 : upd (ff_fill (ff_fp KM f9 mn) KT w9) w9 ((ff_fp KM f9 mn w9)) = ff_fill (ff_fp KM f9 mn) KT (w9 + 1) := ff_fill_s (ff_fp KM f9 mn) KT w9
                    rw [e9] at hP hD
                    refine lv_iinc (v := nI (w9 + 1)) (lv' := [(5, .int (nI (w9 + 1))), (0, .ref m0), (1, .int (nI f9)), (2, .int up), (3, .int dn)]) hx hb dX6_find_114 hl (k := 4) rfl (nI_1 _) (by decide) rfl (fun ls hl => ?_)
                    refine lv_goto (tgt := 91) hx hb dX6_find_117 (by decide) ?_
                    exact ih_91 (w9 + 1) _ _ _ (by omega) (by omega) hP hD hS (lv_sub hl [1, 2, 3, 4, 0] rfl)
              exact lp_91 (_ + 1) (0) _ _ _ (Nat.zero_le _) (Nat.lt_succ_self _) hP hD hS (lv_sub hl [2, 3, 4, 5, 0] rfl)

set_option maxHeartbeats 4000000 in
set_option maxRecDepth 100000 in
theorem c_entries (l : Launch) (D : va_G) (cI : ClassId) (m0 m1 m2 m3 m4 m5 m6 m7 m8 m9 m10 m11 : Nat) (th co : Int32) (n rn mn pn sn : Nat) (KP KL KR KM KN KS KB KT KE KF KX : Nat → Int32) (hn : n ≤ 60) (hmn : mn ≤ 12) (ky hd : Int32) (hM : ∀ t, t < mn → 0 ≤ (KM t).toInt ∧ (KM t).toInt ≤ 127) : Ci l yX6_entries cX6_entries 4 (some .int) 2 0 0 D (tI cI) [.ref m0, .int ky, .int hd] [(m0, .inr (6, [.int th, .int (nI n), .ref m1, .ref m2, .int (nI rn), .ref m3, .int (nI mn), .ref m4, .ref m5, .int (nI pn), .ref m6, .int (nI sn), .int co, .ref m7, .ref m8, .ref m9, .ref m10, .ref m11])), (m1, oI cI 60 KP), (m2, oI cI 60 KL), (m3, oI cI 5400 KR), (m4, oI cI 12 KM), (m5, oI cI 12 KN), (m6, oI cI 60 KS), (m7, oI cI 60 KB), (m8, oI cI 12 KT), (m9, oI cI 61 KE), (m10, oI cI 61 KF), (m11, oI cI 61 KX)] (S := ff_S) (fun r u => (¬ okKH ky hd ∧ r = nI 0 ∧ u = (ff_N (n) (rn) (mn) (pn) (sn) 0, ff_Z ((nI 1)) (co), ff_A14 (KP) (KL) (KR) (KM) (KN) (KS) (KB) (KT) (KE) (KF) (KX) (KX) (KX) (KX))) ∨ (okKH ky hd ∧ mn = 0 ∧ r = nI 0 ∧ u = (ff_N (n) (rn) (mn) (pn) (sn) 0, ff_Z ((nI 2)) (co), ff_A14 (KP) (KL) (KR) (KM) (KN) (KS) (KB) (KT) (KE) (KF) (KX) (KX) (KX) (KX))) ∨ (okKH ky hd ∧ 0 < mn ∧ ∃ ul : Nat → Int32, ff_hits (ff_go n KP (ff_fill (ff_ap KM (cl ky) (cl hd)) KT mn) mn) n ul ∧ r = nI (ff_ct (ff_go n KP (ff_fill (ff_ap KM (cl ky) (cl hd)) KT mn) mn) n) ∧ u = (ff_N (n) (rn) (mn) (ff_ct (ff_go n KP (ff_fill (ff_ap KM (cl ky) (cl hd)) KT mn) mn) n) (sn) 0, ff_Z ((nI 0)) (co), ff_A14 (KP) (KL) (KR) (KM) (KN) (ul) (KB) (ff_fill (ff_ap KM (cl ky) (cl hd)) KT mn) (KE) (KF) (KX) (KX) (KX) (KX)))) (fun u => [(m0, .inr (6, [.int ((u.2.1 0)), .int (nI (u.1 0)), .ref m1, .ref m2, .int (nI (u.1 1)), .ref m3, .int (nI (u.1 2)), .ref m4, .ref m5, .int (nI (u.1 3)), .ref m6, .int (nI (u.1 4)), .int ((u.2.1 1)), .ref m7, .ref m8, .ref m9, .ref m10, .ref m11])), (m1, oI cI 60 (u.2.2 0)), (m2, oI cI 60 (u.2.2 1)), (m3, oI cI 5400 (u.2.2 2)), (m4, oI cI 12 (u.2.2 3)), (m5, oI cI 12 (u.2.2 4)), (m6, oI cI 60 (u.2.2 5)), (m7, oI cI 60 (u.2.2 6)), (m8, oI cI 12 (u.2.2 7)), (m9, oI cI 61 (u.2.2 8)), (m10, oI cI 61 (u.2.2 9)), (m11, oI cI 61 (u.2.2 10))]) := by
  refine Ci.of (own := RX6) (lv := [(0, .ref m0), (1, .int ky), (2, .int hd)]) (by decide +kernel) rfl (Nat.le_of_ble_eq_true rfl) rfl (fun x u h => vp_nar_int _) ?_
  intro p e s m args below meth c Q A cx hK hP hD hA hret ls hl
  obtain ⟨hx, hb, hml, hown, hg⟩ := id cx
  have hS : va_S A s.heap s.heap [] := va_S.rf
  refine lv_aload_n hx hb dX6_entries_0 rfl (lv_at hl 0 rfl) ?_
  refine lv_iconst (v := nI 0) hx hb dX6_entries_1 (by decide) ?_
  refine pf_X6_46 hx hb hg hown hK hP hD hS 0 rfl (Nat.le_of_ble_eq_true rfl) dX6_entries_2 (fun H locs hP hD hS => ?_)
  have hP : va_P D vwCl [(m0, .inr (6, [.int (nI 0), .int (nI n), .ref m1, .ref m2, .int (nI rn), .ref m3, .int (nI mn), .ref m4, .ref m5, .int (nI pn), .ref m6, .int (nI sn), .int co, .ref m7, .ref m8, .ref m9, .ref m10, .ref m11])), (m1, oI cI 60 KP), (m2, oI cI 60 KL), (m3, oI cI 5400 KR), (m4, oI cI 12 KM), (m5, oI cI 12 KN), (m6, oI cI 60 KS), (m7, oI cI 60 KB), (m8, oI cI 12 KT), (m9, oI cI 61 KE), (m10, oI cI 61 KF), (m11, oI cI 61 KX)] H := hP
  have hD : va_D A [(m0, .inr (6, [.int (nI 0), .int (nI n), .ref m1, .ref m2, .int (nI rn), .ref m3, .int (nI mn), .ref m4, .ref m5, .int (nI pn), .ref m6, .int (nI sn), .int co, .ref m7, .ref m8, .ref m9, .ref m10, .ref m11])), (m1, oI cI 60 KP), (m2, oI cI 60 KL), (m3, oI cI 5400 KR), (m4, oI cI 12 KM), (m5, oI cI 12 KN), (m6, oI cI 60 KS), (m7, oI cI 60 KB), (m8, oI cI 12 KT), (m9, oI cI 61 KE), (m10, oI cI 61 KF), (m11, oI cI 61 KX)] := hD
  refine lv_aload_n hx hb dX6_entries_5 rfl (lv_at hl 0 rfl) ?_
  refine lv_iload_n hx hb dX6_entries_6 rfl (lv_at hl 1 rfl) ?_
  refine lv_i2l hx hb dX6_entries_7 rfl ?_
  refine lv_lconst (v := 0) hx hb dX6_entries_8 (by decide) ?_
  refine lv_ldc2 (v := 11) hx hb hown (hg _ wd_cl_X6_117) dX6_entries_9 ?_
  refine Cp.callS (As := [.long ((Int32.toInt64 (ky))), .long ((0 : Int64)), .long ((11 : Int64))]) (rest := [.ref m0]) (cv_X6_70 hg ⟨Nat.le_of_ble_eq_true rfl, Nat.le_of_ble_eq_true rfl⟩) (k_isIn32 l D cI [] (ky) (nI 0) (nI 11) _ _ (by decide) (by decide)) cx hK hP [] rfl hS rfl hl.1 rfl (Nat.le_of_ble_eq_true rfl) dX6_entries_12 ⟨Nat.zero_le _, Nat.zero_le _⟩ (fun H locs hP hS => ?_)
  refine lv_if_eq (tgt := 34) hx hb dX6_entries_15 (by decide) (fun c15 => ?_) (fun c15 => ?_)
  · have c15 := bI_z.mp c15
    refine lv_iconst (v := nI 0) hx hb dX6_entries_34 (by decide) ?_
    refine lv_iconst (v := nI 1) hx hb dX6_entries_35 (by decide) ?_
    refine Ci.callV (As := [.int (nI 0), .int (nI 1)]) (rest := []) (wr := [(m1, oI cI 60 KP), (m2, oI cI 60 KL), (m3, oI cI 5400 KR), (m4, oI cI 12 KM), (m5, oI cI 12 KN), (m6, oI cI 60 KS), (m7, oI cI 60 KB), (m8, oI cI 12 KT), (m9, oI cI 61 KE), (m10, oI cI 61 KF), (m11, oI cI 61 KX)]) (wn := (fun _ => [(m0, .inr (6, [.int ((nI 1)), .int (nI n), .ref m1, .ref m2, .int (nI rn), .ref m3, .int (nI mn), .ref m4, .ref m5, .int (nI pn), .ref m6, .int (nI sn), .int co, .ref m7, .ref m8, .ref m9, .ref m10, .ref m11])), (m1, oI cI 60 KP), (m2, oI cI 60 KL), (m3, oI cI 5400 KR), (m4, oI cI 12 KM), (m5, oI cI 12 KN), (m6, oI cI 60 KS), (m7, oI cI 60 KB), (m8, oI cI 12 KT), (m9, oI cI 61 KE), (m10, oI cI 61 KF), (m11, oI cI 61 KX)])) (cv_X6_76 hg ⟨Nat.le_of_ble_eq_true rfl, Nat.le_of_ble_eq_true rfl⟩) (k_go0 l D cI m0 (.int (nI n)) (.ref m1) (.ref m2) (.int (nI rn)) (.ref m3) (.int (nI mn)) (.ref m4) (.ref m5) (.int (nI pn)) (.ref m6) (.int (nI sn)) (.int co) (.ref m7) (.ref m8) (.ref m9) (.ref m10) (.ref m11) 1 (by decide) (by decide)) cx hK hP hD hA [0] [1, 2, 3, 4, 5, 6, 7, 8, 9, 10, 11] [11, 0, 1, 2, 3, 4, 5, 6, 7, 8, 9, 10] rfl rfl (by decide) (fun _ => rfl) (rq := 0) rfl rfl rfl hS rfl hl.1 rfl (Nat.le_of_ble_eq_true rfl) dX6_entries_36 ⟨Nat.le_refl _, Nat.le_refl _⟩ (fun H locs r36 _ p36 hP hD hS => ?_)
    subst p36
    refine lv_if_eq (tgt := 62) hx hb dX6_entries_39 (by decide) (fun _ => ?_) (fun h9 => absurd (by decide) h9)
    refine lv_iconst (v := nI 0) hx hb dX6_entries_62 (by decide) ?_
    exact hret _ _ 63 _ _ ((ff_N (n) (rn) (mn) (pn) (sn) 0, ff_Z ((nI 1)) (co), ff_A14 (KP) (KL) (KR) (KM) (KN) (KS) (KB) (KT) (KE) (KF) (KX) (KX) (KX) (KX))) (by first | exact Or.inr (Or.inl ⟨⟨ky9, hd9, hky, rfl, hhd, rfl⟩, c47, rfl, rfl⟩) | exact Or.inl ⟨fun h => by obtain ⟨a8, b8, h1, e1, h2, e2⟩ := h; first | exact c15 (by rw [e1]; exact ff_le h1 (by decide)) | exact c27 (by rw [e2]; exact ff_le h2 (by decide)), rfl, rfl⟩) hP hD hS dX6_entries_63
  · have c15 := bI_nz.mp c15
    obtain ⟨ky9, hky, rfl⟩ := ff_of (by decide) c15
    refine lv_iload_n hx hb dX6_entries_18 rfl (lv_at hl 2 rfl) ?_
    refine lv_i2l hx hb dX6_entries_19 rfl ?_
    refine lv_lconst (v := 0) hx hb dX6_entries_20 (by decide) ?_
    refine lv_ldc2 (v := 12) hx hb hown (hg _ wd_cl_X6_102) dX6_entries_21 ?_
    refine Cp.callS (As := [.long ((Int32.toInt64 (hd))), .long ((0 : Int64)), .long ((12 : Int64))]) (rest := [.ref m0]) (cv_X6_70 hg ⟨Nat.le_of_ble_eq_true rfl, Nat.le_of_ble_eq_true rfl⟩) (k_isIn32 l D cI [] (hd) (nI 0) (nI 12) _ _ (by decide) (by decide)) cx hK hP [] rfl hS rfl hl.1 rfl (Nat.le_of_ble_eq_true rfl) dX6_entries_24 ⟨Nat.zero_le _, Nat.zero_le _⟩ (fun H locs hP hS => ?_)
    refine lv_if_eq (tgt := 34) hx hb dX6_entries_27 (by decide) (fun c27 => ?_) (fun c27 => ?_)
    · have c27 := bI_z.mp c27
      refine lv_iconst (v := nI 0) hx hb dX6_entries_34 (by decide) ?_
      refine lv_iconst (v := nI 1) hx hb dX6_entries_35 (by decide) ?_
      refine Ci.callV (As := [.int (nI 0), .int (nI 1)]) (rest := []) (wr := [(m1, oI cI 60 KP), (m2, oI cI 60 KL), (m3, oI cI 5400 KR), (m4, oI cI 12 KM), (m5, oI cI 12 KN), (m6, oI cI 60 KS), (m7, oI cI 60 KB), (m8, oI cI 12 KT), (m9, oI cI 61 KE), (m10, oI cI 61 KF), (m11, oI cI 61 KX)]) (wn := (fun _ => [(m0, .inr (6, [.int ((nI 1)), .int (nI n), .ref m1, .ref m2, .int (nI rn), .ref m3, .int (nI mn), .ref m4, .ref m5, .int (nI pn), .ref m6, .int (nI sn), .int co, .ref m7, .ref m8, .ref m9, .ref m10, .ref m11])), (m1, oI cI 60 KP), (m2, oI cI 60 KL), (m3, oI cI 5400 KR), (m4, oI cI 12 KM), (m5, oI cI 12 KN), (m6, oI cI 60 KS), (m7, oI cI 60 KB), (m8, oI cI 12 KT), (m9, oI cI 61 KE), (m10, oI cI 61 KF), (m11, oI cI 61 KX)])) (cv_X6_76 hg ⟨Nat.le_of_ble_eq_true rfl, Nat.le_of_ble_eq_true rfl⟩) (k_go0 l D cI m0 (.int (nI n)) (.ref m1) (.ref m2) (.int (nI rn)) (.ref m3) (.int (nI mn)) (.ref m4) (.ref m5) (.int (nI pn)) (.ref m6) (.int (nI sn)) (.int co) (.ref m7) (.ref m8) (.ref m9) (.ref m10) (.ref m11) 1 (by decide) (by decide)) cx hK hP hD hA [0] [1, 2, 3, 4, 5, 6, 7, 8, 9, 10, 11] [11, 0, 1, 2, 3, 4, 5, 6, 7, 8, 9, 10] rfl rfl (by decide) (fun _ => rfl) (rq := 0) rfl rfl rfl hS rfl hl.1 rfl (Nat.le_of_ble_eq_true rfl) dX6_entries_36 ⟨Nat.le_refl _, Nat.le_refl _⟩ (fun H locs r36 _ p36 hP hD hS => ?_)
      subst p36
      refine lv_if_eq (tgt := 62) hx hb dX6_entries_39 (by decide) (fun _ => ?_) (fun h9 => absurd (by decide) h9)
      refine lv_iconst (v := nI 0) hx hb dX6_entries_62 (by decide) ?_
      exact hret _ _ 63 _ _ ((ff_N (n) (rn) (mn) (pn) (sn) 0, ff_Z ((nI 1)) (co), ff_A14 (KP) (KL) (KR) (KM) (KN) (KS) (KB) (KT) (KE) (KF) (KX) (KX) (KX) (KX))) (by first | exact Or.inr (Or.inl ⟨⟨ky9, hd9, hky, rfl, hhd, rfl⟩, c47, rfl, rfl⟩) | exact Or.inl ⟨fun h => by obtain ⟨a8, b8, h1, e1, h2, e2⟩ := h; first | exact c15 (by rw [e1]; exact ff_le h1 (by decide)) | exact c27 (by rw [e2]; exact ff_le h2 (by decide)), rfl, rfl⟩) hP hD hS dX6_entries_63
    · have c27 := bI_nz.mp c27
      obtain ⟨hd9, hhd, rfl⟩ := ff_of (by decide) c27
      refine lv_iconst (v := nI 1) hx hb dX6_entries_30 (by decide) ?_
      refine lv_goto (tgt := 35) hx hb dX6_entries_31 (by decide) ?_
      refine lv_iconst (v := nI 1) hx hb dX6_entries_35 (by decide) ?_
      refine Ci.callV (As := [.int (nI 1), .int (nI 1)]) (rest := []) (wr := [(m1, oI cI 60 KP), (m2, oI cI 60 KL), (m3, oI cI 5400 KR), (m4, oI cI 12 KM), (m5, oI cI 12 KN), (m6, oI cI 60 KS), (m7, oI cI 60 KB), (m8, oI cI 12 KT), (m9, oI cI 61 KE), (m10, oI cI 61 KF), (m11, oI cI 61 KX)]) (wn := (fun _ => [(m0, .inr (6, [.int (nI 0), .int (nI n), .ref m1, .ref m2, .int (nI rn), .ref m3, .int (nI mn), .ref m4, .ref m5, .int (nI pn), .ref m6, .int (nI sn), .int co, .ref m7, .ref m8, .ref m9, .ref m10, .ref m11])), (m1, oI cI 60 KP), (m2, oI cI 60 KL), (m3, oI cI 5400 KR), (m4, oI cI 12 KM), (m5, oI cI 12 KN), (m6, oI cI 60 KS), (m7, oI cI 60 KB), (m8, oI cI 12 KT), (m9, oI cI 61 KE), (m10, oI cI 61 KF), (m11, oI cI 61 KX)])) (cv_X6_76 hg ⟨Nat.le_of_ble_eq_true rfl, Nat.le_of_ble_eq_true rfl⟩) (k_go1 l D cI m0 (.int (nI n)) (.ref m1) (.ref m2) (.int (nI rn)) (.ref m3) (.int (nI mn)) (.ref m4) (.ref m5) (.int (nI pn)) (.ref m6) (.int (nI sn)) (.int co) (.ref m7) (.ref m8) (.ref m9) (.ref m10) (.ref m11) (nI 1)) cx hK hP hD hA [0] [1, 2, 3, 4, 5, 6, 7, 8, 9, 10, 11] [11, 0, 1, 2, 3, 4, 5, 6, 7, 8, 9, 10] rfl rfl (by decide) (fun _ => rfl) (rq := 0) rfl rfl rfl hS rfl hl.1 rfl (Nat.le_of_ble_eq_true rfl) dX6_entries_36 ⟨Nat.le_refl _, Nat.le_refl _⟩ (fun H locs r36 _ p36 hP hD hS => ?_)
      subst p36
      refine lv_if_eq (tgt := 62) hx hb dX6_entries_39 (by decide) (fun h9 => absurd h9 (by decide)) (fun _ => ?_)
      refine lv_aload_n hx hb dX6_entries_42 rfl (lv_at hl 0 rfl) ?_
      refine lv_aload_n hx hb dX6_entries_43 rfl (lv_at hl 0 rfl) ?_
      refine gf_X6_56 hx hb hg hown hK hP 0 rfl rfl dX6_entries_44 ?_
      refine lv_if_le (tgt := 54) hx hb dX6_entries_47 (by decide) (fun c47 => ?_) (fun c47 => ?_)
      · have c47 := (nz_le (by omega)).mp c47
        refine lv_iconst (v := nI 0) hx hb dX6_entries_54 (by decide) ?_
        refine lv_iconst (v := nI 2) hx hb dX6_entries_55 (by decide) ?_
        refine Ci.callV (As := [.int (nI 0), .int (nI 2)]) (rest := []) (wr := [(m1, oI cI 60 KP), (m2, oI cI 60 KL), (m3, oI cI 5400 KR), (m4, oI cI 12 KM), (m5, oI cI 12 KN), (m6, oI cI 60 KS), (m7, oI cI 60 KB), (m8, oI cI 12 KT), (m9, oI cI 61 KE), (m10, oI cI 61 KF), (m11, oI cI 61 KX)]) (wn := (fun _ => [(m0, .inr (6, [.int ((nI 2)), .int (nI n), .ref m1, .ref m2, .int (nI rn), .ref m3, .int (nI mn), .ref m4, .ref m5, .int (nI pn), .ref m6, .int (nI sn), .int co, .ref m7, .ref m8, .ref m9, .ref m10, .ref m11])), (m1, oI cI 60 KP), (m2, oI cI 60 KL), (m3, oI cI 5400 KR), (m4, oI cI 12 KM), (m5, oI cI 12 KN), (m6, oI cI 60 KS), (m7, oI cI 60 KB), (m8, oI cI 12 KT), (m9, oI cI 61 KE), (m10, oI cI 61 KF), (m11, oI cI 61 KX)])) (cv_X6_76 hg ⟨Nat.le_of_ble_eq_true rfl, Nat.le_of_ble_eq_true rfl⟩) (k_go0 l D cI m0 (.int (nI n)) (.ref m1) (.ref m2) (.int (nI rn)) (.ref m3) (.int (nI mn)) (.ref m4) (.ref m5) (.int (nI pn)) (.ref m6) (.int (nI sn)) (.int co) (.ref m7) (.ref m8) (.ref m9) (.ref m10) (.ref m11) 2 (by decide) (by decide)) cx hK hP hD hA [0] [1, 2, 3, 4, 5, 6, 7, 8, 9, 10, 11] [11, 0, 1, 2, 3, 4, 5, 6, 7, 8, 9, 10] rfl rfl (by decide) (fun _ => rfl) (rq := 0) rfl rfl rfl hS rfl hl.1 rfl (Nat.le_of_ble_eq_true rfl) dX6_entries_56 ⟨Nat.le_refl _, Nat.le_refl _⟩ (fun H locs r56 _ p56 hP hD hS => ?_)
        subst p56
        refine lv_if_ne (tgt := 64) hx hb dX6_entries_59 (by decide) (fun h9 => absurd (by decide) h9) (fun _ => ?_)
        refine lv_iconst (v := nI 0) hx hb dX6_entries_62 (by decide) ?_
        exact hret _ _ 63 _ _ ((ff_N (n) (rn) (mn) (pn) (sn) 0, ff_Z ((nI 2)) (co), ff_A14 (KP) (KL) (KR) (KM) (KN) (KS) (KB) (KT) (KE) (KF) (KX) (KX) (KX) (KX))) (by first | exact Or.inr (Or.inl ⟨⟨ky9, hd9, hky, rfl, hhd, rfl⟩, c47, rfl, rfl⟩) | exact Or.inl ⟨fun h => by obtain ⟨a8, b8, h1, e1, h2, e2⟩ := h; first | exact c15 (by rw [e1]; exact ff_le h1 (by decide)) | exact c27 (by rw [e2]; exact ff_le h2 (by decide)), rfl, rfl⟩) hP hD hS dX6_entries_63
      · have c47 := mt (nz_le (by omega)).mpr c47
        refine lv_iconst (v := nI 1) hx hb dX6_entries_50 (by decide) ?_
        refine lv_goto (tgt := 55) hx hb dX6_entries_51 (by decide) ?_
        refine lv_iconst (v := nI 2) hx hb dX6_entries_55 (by decide) ?_
        refine Ci.callV (As := [.int (nI 1), .int (nI 2)]) (rest := []) (wr := [(m1, oI cI 60 KP), (m2, oI cI 60 KL), (m3, oI cI 5400 KR), (m4, oI cI 12 KM), (m5, oI cI 12 KN), (m6, oI cI 60 KS), (m7, oI cI 60 KB), (m8, oI cI 12 KT), (m9, oI cI 61 KE), (m10, oI cI 61 KF), (m11, oI cI 61 KX)]) (wn := (fun _ => [(m0, .inr (6, [.int (nI 0), .int (nI n), .ref m1, .ref m2, .int (nI rn), .ref m3, .int (nI mn), .ref m4, .ref m5, .int (nI pn), .ref m6, .int (nI sn), .int co, .ref m7, .ref m8, .ref m9, .ref m10, .ref m11])), (m1, oI cI 60 KP), (m2, oI cI 60 KL), (m3, oI cI 5400 KR), (m4, oI cI 12 KM), (m5, oI cI 12 KN), (m6, oI cI 60 KS), (m7, oI cI 60 KB), (m8, oI cI 12 KT), (m9, oI cI 61 KE), (m10, oI cI 61 KF), (m11, oI cI 61 KX)])) (cv_X6_76 hg ⟨Nat.le_of_ble_eq_true rfl, Nat.le_of_ble_eq_true rfl⟩) (k_go1 l D cI m0 (.int (nI n)) (.ref m1) (.ref m2) (.int (nI rn)) (.ref m3) (.int (nI mn)) (.ref m4) (.ref m5) (.int (nI pn)) (.ref m6) (.int (nI sn)) (.int co) (.ref m7) (.ref m8) (.ref m9) (.ref m10) (.ref m11) (nI 2)) cx hK hP hD hA [0] [1, 2, 3, 4, 5, 6, 7, 8, 9, 10, 11] [11, 0, 1, 2, 3, 4, 5, 6, 7, 8, 9, 10] rfl rfl (by decide) (fun _ => rfl) (rq := 0) rfl rfl rfl hS rfl hl.1 rfl (Nat.le_of_ble_eq_true rfl) dX6_entries_56 ⟨Nat.le_refl _, Nat.le_refl _⟩ (fun H locs r56 _ p56 hP hD hS => ?_)
        subst p56
        refine lv_if_ne (tgt := 64) hx hb dX6_entries_59 (by decide) (fun _ => ?_) (fun h9 => absurd h9 (by decide))
        refine lv_iconst (v := nI 0) hx hb dX6_entries_64 (by decide) ?_
        refine lv_istore_n (lv' := [(3, .int (nI 0)), (0, .ref m0), (1, .int (nI ky9)), (2, .int (nI hd9))]) hx hb dX6_entries_65 rfl hl (by decide) rfl (fun ls hl => ?_)
        rw [← ff_fill_0 (ff_ap KM ky9 hd9) KT] at hP hD
        have lp_66 : ∀ (k : Nat) (w9 : Nat) (H : Heap) (locs : List Loc) (ls : Array Slot), (w9 ≤ mn) → (mn - w9 < k) → va_P D vwCl [(m0, .inr (6, [.int ((nI 0)), .int (nI n), .ref m1, .ref m2, .int (nI rn), .ref m3, .int (nI mn), .ref m4, .ref m5, .int (nI pn), .ref m6, .int (nI sn), .int co, .ref m7, .ref m8, .ref m9, .ref m10, .ref m11])), (m1, oI cI 60 KP), (m2, oI cI 60 KL), (m3, oI cI 5400 KR), (m4, oI cI 12 KM), (m5, oI cI 12 KN), (m6, oI cI 60 KS), (m7, oI cI 60 KB), (m8, oI cI 12 (ff_fill (ff_ap KM ky9 hd9) KT w9)), (m9, oI cI 61 KE), (m10, oI cI 61 KF), (m11, oI cI 61 KX)] H → va_D A [(m0, .inr (6, [.int ((nI 0)), .int (nI n), .ref m1, .ref m2, .int (nI rn), .ref m3, .int (nI mn), .ref m4, .ref m5, .int (nI pn), .ref m6, .int (nI sn), .int co, .ref m7, .ref m8, .ref m9, .ref m10, .ref m11])), (m1, oI cI 60 KP), (m2, oI cI 60 KL), (m3, oI cI 5400 KR), (m4, oI cI 12 KM), (m5, oI cI 12 KN), (m6, oI cI 60 KS), (m7, oI cI 60 KB), (m8, oI cI 12 (ff_fill (ff_ap KM ky9 hd9) KT w9)), (m9, oI cI 61 KE), (m10, oI cI 61 KF), (m11, oI cI 61 KX)] → va_S A s.heap H locs → lv_has ls 4 [(0, .ref m0), (1, .int (nI ky9)), (2, .int (nI hd9)), (3, .int (nI w9))] → W p l e (rr 2 0 0) s m args below meth c H locs 0 0 Q (F0 m 66 ls []) := by
          intro k
          induction k with
          | zero =>
            intro w9 H locs ls hw hk
            exact absurd hk (Nat.not_lt_zero _)
          | succ k ih_66 =>
            intro w9 H locs ls hw hk hP hD hS hl
            refine lv_iload_n hx hb dX6_entries_66 rfl (lv_at hl 3 rfl) ?_
            refine lv_aload_n hx hb dX6_entries_67 rfl (lv_at hl 0 rfl) ?_
            refine gf_X6_56 hx hb hg hown hK hP 0 rfl rfl dX6_entries_68 ?_
            refine lv_icmp_ge (tgt := 93) hx hb dX6_entries_71 (by decide) (fun c71 => ?_) (fun c71 => ?_)
            · have c71 := (nI_leI (by omega) (by omega)).mp c71
              obtain rfl : mn = w9 := by omega
              refine lv_aload_n hx hb dX6_entries_93 rfl (lv_at hl 0 rfl) ?_
              refine lv_iconst (v := nI 0) hx hb dX6_entries_94 (by decide) ?_
              refine pf_X6_59 hx hb hg hown hK hP hD hS 0 rfl (Nat.le_of_ble_eq_true rfl) dX6_entries_95 (fun H locs hP hD hS => ?_)
              have hP : va_P D vwCl [(m0, .inr (6, [.int ((nI 0)), .int (nI n), .ref m1, .ref m2, .int (nI rn), .ref m3, .int (nI mn), .ref m4, .ref m5, .int (nI 0), .ref m6, .int (nI sn), .int co, .ref m7, .ref m8, .ref m9, .ref m10, .ref m11])), (m1, oI cI 60 KP), (m2, oI cI 60 KL), (m3, oI cI 5400 KR), (m4, oI cI 12 KM), (m5, oI cI 12 KN), (m6, oI cI 60 KS), (m7, oI cI 60 KB), (m8, oI cI 12 (ff_fill (ff_ap KM ky9 hd9) KT mn)), (m9, oI cI 61 KE), (m10, oI cI 61 KF), (m11, oI cI 61 KX)] H := hP
              have hD : va_D A [(m0, .inr (6, [.int ((nI 0)), .int (nI n), .ref m1, .ref m2, .int (nI rn), .ref m3, .int (nI mn), .ref m4, .ref m5, .int (nI 0), .ref m6, .int (nI sn), .int co, .ref m7, .ref m8, .ref m9, .ref m10, .ref m11])), (m1, oI cI 60 KP), (m2, oI cI 60 KL), (m3, oI cI 5400 KR), (m4, oI cI 12 KM), (m5, oI cI 12 KN), (m6, oI cI 60 KS), (m7, oI cI 60 KB), (m8, oI cI 12 (ff_fill (ff_ap KM ky9 hd9) KT mn)), (m9, oI cI 61 KE), (m10, oI cI 61 KF), (m11, oI cI 61 KX)] := hD
              refine lv_iconst (v := nI 0) hx hb dX6_entries_98 (by decide) ?_
              refine lv_istore_n (lv' := [(3, .int (nI 0)), (0, .ref m0), (1, .int (nI ky9)), (2, .int (nI hd9))]) hx hb dX6_entries_99 rfl hl (by decide) rfl (fun ls hl => ?_)
              have lp_100 : ∀ (k : Nat) (z : Nat) (G : Nat → Int32) (H : Heap) (locs : List Loc) (ls : Array Slot), (z ≤ n) → (ff_hits (ff_go n KP (ff_fill (ff_ap KM ky9 hd9) KT mn) mn) z G) → (n - z < k) → va_P D vwCl [(m0, .inr (6, [.int ((nI 0)), .int (nI n), .ref m1, .ref m2, .int (nI rn), .ref m3, .int (nI mn), .ref m4, .ref m5, .int (nI (ff_ct (ff_go n KP (ff_fill (ff_ap KM ky9 hd9) KT mn) mn) z)), .ref m6, .int (nI sn), .int co, .ref m7, .ref m8, .ref m9, .ref m10, .ref m11])), (m1, oI cI 60 KP), (m2, oI cI 60 KL), (m3, oI cI 5400 KR), (m4, oI cI 12 KM), (m5, oI cI 12 KN), (m6, oI cI 60 G), (m7, oI cI 60 KB), (m8, oI cI 12 (ff_fill (ff_ap KM ky9 hd9) KT mn)), (m9, oI cI 61 KE), (m10, oI cI 61 KF), (m11, oI cI 61 KX)] H → va_D A [(m0, .inr (6, [.int ((nI 0)), .int (nI n), .ref m1, .ref m2, .int (nI rn), .ref m3, .int (nI mn), .ref m4, .ref m5, .int (nI (ff_ct (ff_go n KP (ff_fill (ff_ap KM ky9 hd9) KT mn) mn) z)), .ref m6, .int (nI sn), .int co, .ref m7, .ref m8, .ref m9, .ref m10, .ref m11])), (m1, oI cI 60 KP), (m2, oI cI 60 KL), (m3, oI cI 5400 KR), (m4, oI cI 12 KM), (m5, oI cI 12 KN), (m6, oI cI 60 G), (m7, oI cI 60 KB), (m8, oI cI 12 (ff_fill (ff_ap KM ky9 hd9) KT mn)), (m9, oI cI 61 KE), (m10, oI cI 61 KF), (m11, oI cI 61 KX)] → va_S A s.heap H locs → lv_has ls 4 [(0, .ref m0), (1, .int (nI ky9)), (2, .int (nI hd9)), (3, .int (nI z))] → W p l e (rr 2 0 0) s m args below meth c H locs 0 0 Q (F0 m 100 ls []) := by
                intro k
                induction k with
                | zero =>
                  intro z G H locs ls hz hG hk
                  exact absurd hk (Nat.not_lt_zero _)
                | succ k ih_100 =>
                  intro z G H locs ls hz hG hk hP hD hS hl
                  have hcz := ff_ct_le (ff_go n KP (ff_fill (ff_ap KM ky9 hd9) KT mn) mn) z
                  refine lv_iload_n hx hb dX6_entries_100 rfl (lv_at hl 3 rfl) ?_
                  refine lv_aload_n hx hb dX6_entries_101 rfl (lv_at hl 0 rfl) ?_
                  refine gf_X6_50 hx hb hg hown hK hP 0 rfl rfl dX6_entries_102 ?_
                  refine lv_icmp_ge (tgt := 142) hx hb dX6_entries_105 (by decide) (fun c105 => ?_) (fun c105 => ?_)
                  · have c105 := (nI_leI (by omega) (by omega)).mp c105
                    obtain rfl : n = z := by omega
                    refine lv_aload_n hx hb dX6_entries_142 rfl (lv_at hl 0 rfl) ?_
                    refine gf_X6_59 hx hb hg hown hK hP 0 rfl rfl dX6_entries_143 ?_
                    exact hret _ _ 146 _ _ ((ff_N (n) (rn) (mn) (ff_ct (ff_go n KP (ff_fill (ff_ap KM ky9 hd9) KT mn) mn) n) (sn) 0, ff_Z ((nI 0)) (co), ff_A14 (KP) (KL) (KR) (KM) (KN) (G) (KB) (ff_fill (ff_ap KM ky9 hd9) KT mn) (KE) (KF) (KX) (KX) (KX) (KX))) (Or.inr (Or.inr ⟨⟨ky9, hd9, hky, rfl, hhd, rfl⟩, by omega, G, by rw [cl_n (by omega), cl_n (by omega)]; exact ⟨hG, rfl, rfl⟩⟩)) hP hD hS dX6_entries_146
                  · have c105 := mt (nI_leI (by omega) (by omega)).mpr c105
                    refine lv_aload_n hx hb dX6_entries_108 rfl (lv_at hl 0 rfl) ?_
                    refine lv_iload_n hx hb dX6_entries_109 rfl (lv_at hl 3 rfl) ?_
                    refine Cp.callV (As := [.int (nI z)]) (rest := []) (cv_X6_114 hg ⟨Nat.le_of_ble_eq_true rfl, Nat.le_of_ble_eq_true rfl⟩) (k_goes l D cI m0 m1 m2 m3 m4 m5 m6 m7 m8 m9 m10 m11 ((nI 0)) (co) (n) (rn) (mn) (ff_ct (ff_go n KP (ff_fill (ff_ap KM ky9 hd9) KT mn) mn) z) (sn) KP (ff_fill (ff_ap KM ky9 hd9) KT mn) z (by omega) hn (by omega) hmn) cx hK hP [0, 1, 8] rfl (rq := 0) rfl rfl rfl hS rfl hl.1 rfl (Nat.le_of_ble_eq_true rfl) dX6_entries_110 ⟨Nat.zero_le _, Nat.zero_le _⟩ (fun H locs hP hS => ?_)
                    refine lv_if_eq (tgt := 136) hx hb dX6_entries_113 (by decide) (fun c113 => ?_) (fun c113 => ?_)
                    · have c113 := bI_z.mp c113
                      have e9 : ff_ct (ff_go n KP (ff_fill (ff_ap KM ky9 hd9) KT mn) mn) (z + 1) = ff_ct (ff_go n KP (ff_fill (ff_ap KM ky9 hd9) KT mn) mn) z := ff_ct_f c113
                      refine lv_iinc (v := nI (z + 1)) (lv' := [(3, .int (nI (z + 1))), (0, .ref m0), (1, .int (nI ky9)), (2, .int (nI hd9))]) hx hb dX6_entries_136 hl (k := 3) rfl (nI_1 _) (by decide) rfl (fun ls hl => ?_)
                      refine lv_goto (tgt := 100) hx hb dX6_entries_139 (by decide) ?_
                      rw [← e9] at hP hD
                      exact ih_100 (z + 1) (_) _ _ _ (by omega) (by first | exact ff_hits_t hG | exact ff_hits_f hG c113) (by omega) hP hD hS (lv_sub hl [1, 2, 3, 0] rfl)
                    · have c113 := bI_nz.mp c113
                      have e9 : ff_ct (ff_go n KP (ff_fill (ff_ap KM ky9 hd9) KT mn) mn) (z + 1) = ff_ct (ff_go n KP (ff_fill (ff_ap KM ky9 hd9) KT mn) mn) z + 1 := ff_ct_t c113
                      refine lv_aload_n hx hb dX6_entries_116 rfl (lv_at hl 0 rfl) ?_
                      refine gf_X6_25 hx hb hg hown hK hP 0 rfl rfl dX6_entries_117 ?_
                      refine lv_aload_n hx hb dX6_entries_120 rfl (lv_at hl 0 rfl) ?_
                      refine gf_X6_59 hx hb hg hown hK hP 0 rfl rfl dX6_entries_121 ?_
                      refine lv_iload_n hx hb dX6_entries_124 rfl (lv_at hl 3 rfl) ?_
                      refine ast hx hb hK hP hD hS 6 rfl rfl (by omega) dX6_entries_125 (fun H locs hP hD hS => ?_)
                      have hP : va_P D vwCl [(m0, .inr (6, [.int ((nI 0)), .int (nI n), .ref m1, .ref m2, .int (nI rn), .ref m3, .int (nI mn), .ref m4, .ref m5, .int (nI (ff_ct (ff_go n KP (ff_fill (ff_ap KM ky9 hd9) KT mn) mn) z)), .ref m6, .int (nI sn), .int co, .ref m7, .ref m8, .ref m9, .ref m10, .ref m11])), (m1, oI cI 60 KP), (m2, oI cI 60 KL), (m3, oI cI 5400 KR), (m4, oI cI 12 KM), (m5, oI cI 12 KN), (m6, oI cI 60 (upd G (ff_ct (ff_go n KP (ff_fill (ff_ap KM ky9 hd9) KT mn) mn) z) (nI z))), (m7, oI cI 60 KB), (m8, oI cI 12 (ff_fill (ff_ap KM ky9 hd9) KT mn)), (m9, oI cI 61 KE), (m10, oI cI 61 KF), (m11, oI cI 61 KX)] H := hP
                      have hD : va_D A [(m0, .inr (6, [.int ((nI 0)), .int (nI n), .ref m1, .ref m2, .int (nI rn), .ref m3, .int (nI mn), .ref m4, .ref m5, .int (nI (ff_ct (ff_go n KP (ff_fill (ff_ap KM ky9 hd9) KT mn) mn) z)), .ref m6, .int (nI sn), .int co, .ref m7, .ref m8, .ref m9, .ref m10, .ref m11])), (m1, oI cI 60 KP), (m2, oI cI 60 KL), (m3, oI cI 5400 KR), (m4, oI cI 12 KM), (m5, oI cI 12 KN), (m6, oI cI 60 (upd G (ff_ct (ff_go n KP (ff_fill (ff_ap KM ky9 hd9) KT mn) mn) z) (nI z))), (m7, oI cI 60 KB), (m8, oI cI 12 (ff_fill (ff_ap KM ky9 hd9) KT mn)), (m9, oI cI 61 KE), (m10, oI cI 61 KF), (m11, oI cI 61 KX)] := hD
                      refine lv_aload_n hx hb dX6_entries_126 rfl (lv_at hl 0 rfl) ?_
                      refine lv_dup hx hb dX6_entries_127 rfl ?_
                      refine gf_X6_59 hx hb hg hown hK hP 0 rfl rfl dX6_entries_128 ?_
                      refine lv_iconst (v := nI 1) hx hb dX6_entries_131 (by decide) ?_
                      refine lv_iadd hx hb dX6_entries_132 ?_
                      refine lv_asi (nI_add _ _) ?_
                      refine pf_X6_59 hx hb hg hown hK hP hD hS 0 rfl (Nat.le_of_ble_eq_true rfl) dX6_entries_133 (fun H locs hP hD hS => ?_)
                      have hP : va_P D vwCl [(m0, .inr (6, [.int ((nI 0)), .int (nI n), .ref m1, .ref m2, .int (nI rn), .ref m3, .int (nI mn), .ref m4, .ref m5, .int (nI (ff_ct (ff_go n KP (ff_fill (ff_ap KM ky9 hd9) KT mn) mn) z + 1)), .ref m6, .int (nI sn), .int co, .ref m7, .ref m8, .ref m9, .ref m10, .ref m11])), (m1, oI cI 60 KP), (m2, oI cI 60 KL), (m3, oI cI 5400 KR), (m4, oI cI 12 KM), (m5, oI cI 12 KN), (m6, oI cI 60 (upd G (ff_ct (ff_go n KP (ff_fill (ff_ap KM ky9 hd9) KT mn) mn) z) (nI z))), (m7, oI cI 60 KB), (m8, oI cI 12 (ff_fill (ff_ap KM ky9 hd9) KT mn)), (m9, oI cI 61 KE), (m10, oI cI 61 KF), (m11, oI cI 61 KX)] H := hP
                      have hD : va_D A [(m0, .inr (6, [.int ((nI 0)), .int (nI n), .ref m1, .ref m2, .int (nI rn), .ref m3, .int (nI mn), .ref m4, .ref m5, .int (nI (ff_ct (ff_go n KP (ff_fill (ff_ap KM ky9 hd9) KT mn) mn) z + 1)), .ref m6, .int (nI sn), .int co, .ref m7, .ref m8, .ref m9, .ref m10, .ref m11])), (m1, oI cI 60 KP), (m2, oI cI 60 KL), (m3, oI cI 5400 KR), (m4, oI cI 12 KM), (m5, oI cI 12 KN), (m6, oI cI 60 (upd G (ff_ct (ff_go n KP (ff_fill (ff_ap KM ky9 hd9) KT mn) mn) z) (nI z))), (m7, oI cI 60 KB), (m8, oI cI 12 (ff_fill (ff_ap KM ky9 hd9) KT mn)), (m9, oI cI 61 KE), (m10, oI cI 61 KF), (m11, oI cI 61 KX)] := hD
                      refine lv_iinc (v := nI (z + 1)) (lv' := [(3, .int (nI (z + 1))), (0, .ref m0), (1, .int (nI ky9)), (2, .int (nI hd9))]) hx hb dX6_entries_136 hl (k := 3) rfl (nI_1 _) (by decide) rfl (fun ls hl => ?_)
                      refine lv_goto (tgt := 100) hx hb dX6_entries_139 (by decide) ?_
                      rw [← e9] at hP hD
                      exact ih_100 (z + 1) (_) _ _ _ (by omega) (by first | exact ff_hits_t hG | exact ff_hits_f hG c113) (by omega) hP hD hS (lv_sub hl [1, 2, 3, 0] rfl)
              exact lp_100 (_ + 1) (0) (KS) _ _ _ (Nat.zero_le _) (ff_hits_0 _ _) (Nat.lt_succ_self _) hP hD hS (lv_sub hl [1, 2, 3, 0] rfl)
            · have c71 := mt (nI_leI (by omega) (by omega)).mpr c71
              refine lv_aload_n hx hb dX6_entries_74 rfl (lv_at hl 0 rfl) ?_
              refine gf_X6_31 hx hb hg hown hK hP 0 rfl rfl dX6_entries_75 ?_
              refine lv_iload_n hx hb dX6_entries_78 rfl (lv_at hl 3 rfl) ?_
              refine lv_aload_n hx hb dX6_entries_79 rfl (lv_at hl 0 rfl) ?_
              refine lv_iload_n hx hb dX6_entries_80 rfl (lv_at hl 1 rfl) ?_
              refine lv_iload_n hx hb dX6_entries_81 rfl (lv_at hl 2 rfl) ?_
              refine lv_iload_n hx hb dX6_entries_82 rfl (lv_at hl 3 rfl) ?_
              refine Cp.callV (As := [.int (nI ky9), .int (nI hd9), .int (nI w9)]) (rest := [.int (nI w9), .ref m8]) (cv_X6_119 hg ⟨Nat.le_of_ble_eq_true rfl, Nat.le_of_ble_eq_true rfl⟩) (k_ManswerPitch l D cI m0 m1 m2 m3 m4 m5 m6 m7 m8 m9 m10 m11 ((nI 0)) (co) (n) (rn) (mn) (pn) (sn) KM ky9 hd9 w9 hky hhd (by omega) hmn (hM w9 (by omega)).1 (hM w9 (by omega)).2) cx hK hP [0, 4] rfl (rq := 0) rfl rfl rfl hS rfl hl.1 rfl (Nat.le_of_ble_eq_true rfl) dX6_entries_83 ⟨Nat.zero_le _, Nat.zero_le _⟩ (fun H locs hP hS => ?_)
              refine ast hx hb hK hP hD hS 8 rfl rfl (by omega) dX6_entries_86 (fun H locs hP hD hS => ?_)
              have hP : va_P D vwCl [(m0, .inr (6, [.int ((nI 0)), .int (nI n), .ref m1, .ref m2, .int (nI rn), .ref m3, .int (nI mn), .ref m4, .ref m5, .int (nI pn), .ref m6, .int (nI sn), .int co, .ref m7, .ref m8, .ref m9, .ref m10, .ref m11])), (m1, oI cI 60 KP), (m2, oI cI 60 KL), (m3, oI cI 5400 KR), (m4, oI cI 12 KM), (m5, oI cI 12 KN), (m6, oI cI 60 KS), (m7, oI cI 60 KB), (m8, oI cI 12 (upd (ff_fill (ff_ap KM ky9 hd9) KT w9) w9 ((ff_ap KM ky9 hd9 w9)))), (m9, oI cI 61 KE), (m10, oI cI 61 KF), (m11, oI cI 61 KX)] H := hP
              have hD : va_D A [(m0, .inr (6, [.int ((nI 0)), .int (nI n), .ref m1, .ref m2, .int (nI rn), .ref m3, .int (nI mn), .ref m4, .ref m5, .int (nI pn), .ref m6, .int (nI sn), .int co, .ref m7, .ref m8, .ref m9, .ref m10, .ref m11])), (m1, oI cI 60 KP), (m2, oI cI 60 KL), (m3, oI cI 5400 KR), (m4, oI cI 12 KM), (m5, oI cI 12 KN), (m6, oI cI 60 KS), (m7, oI cI 60 KB), (m8, oI cI 12 (upd (ff_fill (ff_ap KM ky9 hd9) KT w9) w9 ((ff_ap KM ky9 hd9 w9)))), (m9, oI cI 61 KE), (m10, oI cI 61 KF), (m11, oI cI 61 KX)] := hD
              have e9 : upd (ff_fill (ff_ap KM ky9 hd9) KT w9) w9 ((ff_ap KM ky9 hd9 w9)) = ff_fill (ff_ap KM ky9 hd9) KT (w9 + 1) := ff_fill_s (ff_ap KM ky9 hd9) KT w9
              rw [e9] at hP hD
              refine lv_iinc (v := nI (w9 + 1)) (lv' := [(3, .int (nI (w9 + 1))), (0, .ref m0), (1, .int (nI ky9)), (2, .int (nI hd9))]) hx hb dX6_entries_87 hl (k := 3) rfl (nI_1 _) (by decide) rfl (fun ls hl => ?_)
              refine lv_goto (tgt := 66) hx hb dX6_entries_90 (by decide) ?_
              exact ih_66 (w9 + 1) _ _ _ (by omega) (by omega) hP hD hS (lv_sub hl [1, 2, 3, 0] rfl)
        exact lp_66 (_ + 1) (0) _ _ _ (Nat.zero_le _) (Nat.lt_succ_self _) hP hD hS (lv_sub hl [1, 2, 3, 0] rfl)

set_option maxHeartbeats 4000000 in
set_option maxRecDepth 100000 in
theorem c_repeats (l : Launch) (D : va_G) (cI : ClassId) (m0 m1 m2 m3 m4 m5 m6 m7 m8 m9 m10 m11 : Nat) (th co : Int32) (n rn mn pn sn : Nat) (KP KL KR KM KN KS KB KT KE KF KX : Nat → Int32) (hn : n ≤ 60) (hmn : mn ≤ 12) (vw q : Int32) (hR : ∀ t, t < n → 0 ≤ (KP t).toInt ∧ (KP t).toInt ≤ 127) : Ci l yX6_repeats cX6_repeats 7 (some .int) 2 0 0 D (tI cI) [.ref m0, .int vw, .int q] [(m0, .inr (6, [.int th, .int (nI n), .ref m1, .ref m2, .int (nI rn), .ref m3, .int (nI mn), .ref m4, .ref m5, .int (nI pn), .ref m6, .int (nI sn), .int co, .ref m7, .ref m8, .ref m9, .ref m10, .ref m11])), (m1, oI cI 60 KP), (m2, oI cI 60 KL), (m3, oI cI 5400 KR), (m4, oI cI 12 KM), (m5, oI cI 12 KN), (m6, oI cI 60 KS), (m7, oI cI 60 KB), (m8, oI cI 12 KT), (m9, oI cI 61 KE), (m10, oI cI 61 KF), (m11, oI cI 61 KX)] (S := ff_S) (fun r u => (¬ okVM vw q ∧ r = nI 0 ∧ u = (ff_N (n) (rn) (mn) (pn) (sn) 0, ff_Z ((nI 1)) (co), ff_A14 (KP) (KL) (KR) (KM) (KN) (KS) (KB) (KT) (KE) (KF) (KX) (KX) (KX) (KX))) ∨ (okVM vw q ∧ ∃ g9 : Nat → Int32, ff_rowsP (ff_rl (ff_it KP KL (cl vw)) (ff_cnt (cl vw) n)) (cl q) (ff_G (ff_cn (ff_rl (ff_it KP KL (cl vw)) (ff_cnt (cl vw) n)) (cl q) (ff_ar (ff_cnt (cl vw) n) (ff_cnt (cl vw) n)))) (ff_ar (ff_cnt (cl vw) n) (ff_cnt (cl vw) n)) g9 ∧ r = nI ((ff_G (ff_cn (ff_rl (ff_it KP KL (cl vw)) (ff_cnt (cl vw) n)) (cl q) (ff_ar (ff_cnt (cl vw) n) (ff_cnt (cl vw) n)))) 0) ∧ u = (ff_N (n) ((ff_G (ff_cn (ff_rl (ff_it KP KL (cl vw)) (ff_cnt (cl vw) n)) (cl q) (ff_ar (ff_cnt (cl vw) n) (ff_cnt (cl vw) n)))) 0) (mn) (pn) (sn) 0, ff_Z ((nI 0)) (co), ff_A14 (KP) (KL) (g9) (KM) (KN) (KS) (KB) (KT) (KE) (KF) (KX) (KX) (KX) (KX)))) (fun u => [(m0, .inr (6, [.int ((u.2.1 0)), .int (nI (u.1 0)), .ref m1, .ref m2, .int (nI (u.1 1)), .ref m3, .int (nI (u.1 2)), .ref m4, .ref m5, .int (nI (u.1 3)), .ref m6, .int (nI (u.1 4)), .int ((u.2.1 1)), .ref m7, .ref m8, .ref m9, .ref m10, .ref m11])), (m1, oI cI 60 (u.2.2 0)), (m2, oI cI 60 (u.2.2 1)), (m3, oI cI 5400 (u.2.2 2)), (m4, oI cI 12 (u.2.2 3)), (m5, oI cI 12 (u.2.2 4)), (m6, oI cI 60 (u.2.2 5)), (m7, oI cI 60 (u.2.2 6)), (m8, oI cI 12 (u.2.2 7)), (m9, oI cI 61 (u.2.2 8)), (m10, oI cI 61 (u.2.2 9)), (m11, oI cI 61 (u.2.2 10))]) := by
  refine Ci.of (own := RX6) (lv := [(0, .ref m0), (1, .int vw), (2, .int q)]) (by decide +kernel) rfl (Nat.le_of_ble_eq_true rfl) rfl (fun x u h => vp_nar_int _) ?_
  intro p e s m args below meth c Q A cx hK hP hD hA hret ls hl
  obtain ⟨hx, hb, hml, hown, hg⟩ := id cx
  have hS : va_S A s.heap s.heap [] := va_S.rf
  refine lv_aload_n hx hb dX6_repeats_0 rfl (lv_at hl 0 rfl) ?_
  refine lv_iconst (v := nI 0) hx hb dX6_repeats_1 (by decide) ?_
  refine pf_X6_46 hx hb hg hown hK hP hD hS 0 rfl (Nat.le_of_ble_eq_true rfl) dX6_repeats_2 (fun H locs hP hD hS => ?_)
  have hP : va_P D vwCl [(m0, .inr (6, [.int (nI 0), .int (nI n), .ref m1, .ref m2, .int (nI rn), .ref m3, .int (nI mn), .ref m4, .ref m5, .int (nI pn), .ref m6, .int (nI sn), .int co, .ref m7, .ref m8, .ref m9, .ref m10, .ref m11])), (m1, oI cI 60 KP), (m2, oI cI 60 KL), (m3, oI cI 5400 KR), (m4, oI cI 12 KM), (m5, oI cI 12 KN), (m6, oI cI 60 KS), (m7, oI cI 60 KB), (m8, oI cI 12 KT), (m9, oI cI 61 KE), (m10, oI cI 61 KF), (m11, oI cI 61 KX)] H := hP
  have hD : va_D A [(m0, .inr (6, [.int (nI 0), .int (nI n), .ref m1, .ref m2, .int (nI rn), .ref m3, .int (nI mn), .ref m4, .ref m5, .int (nI pn), .ref m6, .int (nI sn), .int co, .ref m7, .ref m8, .ref m9, .ref m10, .ref m11])), (m1, oI cI 60 KP), (m2, oI cI 60 KL), (m3, oI cI 5400 KR), (m4, oI cI 12 KM), (m5, oI cI 12 KN), (m6, oI cI 60 KS), (m7, oI cI 60 KB), (m8, oI cI 12 KT), (m9, oI cI 61 KE), (m10, oI cI 61 KF), (m11, oI cI 61 KX)] := hD
  refine lv_aload_n hx hb dX6_repeats_5 rfl (lv_at hl 0 rfl) ?_
  refine lv_iload_n hx hb dX6_repeats_6 rfl (lv_at hl 1 rfl) ?_
  refine Cp.callS (As := [.int vw]) (rest := [.ref m0]) (cv_X6_82 hg ⟨Nat.le_of_ble_eq_true rfl, Nat.le_of_ble_eq_true rfl⟩) (k_MisView l D cI [] vw) cx hK hP [] rfl hS rfl hl.1 rfl (Nat.le_of_ble_eq_true rfl) dX6_repeats_7 ⟨Nat.zero_le _, Nat.zero_le _⟩ (fun H locs hP hS => ?_)
  refine lv_if_eq (tgt := 29) hx hb dX6_repeats_10 (by decide) (fun c10 => ?_) (fun c10 => ?_)
  · have c10 := bI_z.mp c10
    refine lv_iconst (v := nI 0) hx hb dX6_repeats_29 (by decide) ?_
    refine lv_iconst (v := nI 1) hx hb dX6_repeats_30 (by decide) ?_
    refine Ci.callV (As := [.int (nI 0), .int (nI 1)]) (rest := []) (wr := [(m1, oI cI 60 KP), (m2, oI cI 60 KL), (m3, oI cI 5400 KR), (m4, oI cI 12 KM), (m5, oI cI 12 KN), (m6, oI cI 60 KS), (m7, oI cI 60 KB), (m8, oI cI 12 KT), (m9, oI cI 61 KE), (m10, oI cI 61 KF), (m11, oI cI 61 KX)]) (wn := (fun _ => [(m0, .inr (6, [.int ((nI 1)), .int (nI n), .ref m1, .ref m2, .int (nI rn), .ref m3, .int (nI mn), .ref m4, .ref m5, .int (nI pn), .ref m6, .int (nI sn), .int co, .ref m7, .ref m8, .ref m9, .ref m10, .ref m11])), (m1, oI cI 60 KP), (m2, oI cI 60 KL), (m3, oI cI 5400 KR), (m4, oI cI 12 KM), (m5, oI cI 12 KN), (m6, oI cI 60 KS), (m7, oI cI 60 KB), (m8, oI cI 12 KT), (m9, oI cI 61 KE), (m10, oI cI 61 KF), (m11, oI cI 61 KX)])) (cv_X6_76 hg ⟨Nat.le_of_ble_eq_true rfl, Nat.le_of_ble_eq_true rfl⟩) (k_go0 l D cI m0 (.int (nI n)) (.ref m1) (.ref m2) (.int (nI rn)) (.ref m3) (.int (nI mn)) (.ref m4) (.ref m5) (.int (nI pn)) (.ref m6) (.int (nI sn)) (.int co) (.ref m7) (.ref m8) (.ref m9) (.ref m10) (.ref m11) 1 (by decide) (by decide)) cx hK hP hD hA [0] [1, 2, 3, 4, 5, 6, 7, 8, 9, 10, 11] [11, 0, 1, 2, 3, 4, 5, 6, 7, 8, 9, 10] rfl rfl (by decide) (fun _ => rfl) (rq := 0) rfl rfl rfl hS rfl hl.1 rfl (Nat.le_of_ble_eq_true rfl) dX6_repeats_31 ⟨Nat.le_refl _, Nat.le_refl _⟩ (fun H locs r31 _ p31 hP hD hS => ?_)
    subst p31
    refine lv_if_ne (tgt := 39) hx hb dX6_repeats_34 (by decide) (fun h9 => absurd (by decide) h9) (fun _ => ?_)
    refine lv_iconst (v := nI 0) hx hb dX6_repeats_37 (by decide) ?_
    exact hret _ _ 38 _ _ ((ff_N (n) (rn) (mn) (pn) (sn) 0, ff_Z ((nI 1)) (co), ff_A14 (KP) (KL) (KR) (KM) (KN) (KS) (KB) (KT) (KE) (KF) (KX) (KX) (KX) (KX))) (Or.inl ⟨fun h => by obtain ⟨v9, hv9, e9, m9, h8, h7, e8⟩ := h; first | exact c10 (by rw [e9]; exact ff_le hv9 (by decide)) | exact c22 (by rw [e8]; exact ff_le1 h8 h7 (by decide)), rfl, rfl⟩) hP hD hS dX6_repeats_38
  · have c10 := bI_nz.mp c10
    obtain ⟨v, hv, rfl⟩ := ff_of (by decide) c10
    refine lv_iload_n hx hb dX6_repeats_13 rfl (lv_at hl 2 rfl) ?_
    refine lv_i2l hx hb dX6_repeats_14 rfl ?_
    refine lv_lconst (v := 1) hx hb dX6_repeats_15 (by decide) ?_
    refine lv_ldc2 (v := 60) hx hb hown (hg _ wd_cl_X6_94) dX6_repeats_16 ?_
    refine Cp.callS (As := [.long ((Int32.toInt64 (q))), .long ((1 : Int64)), .long ((60 : Int64))]) (rest := [.ref m0]) (cv_X6_70 hg ⟨Nat.le_of_ble_eq_true rfl, Nat.le_of_ble_eq_true rfl⟩) (k_isIn32 l D cI [] (q) (nI 1) (nI 60) _ _ (by decide) (by decide)) cx hK hP [] rfl hS rfl hl.1 rfl (Nat.le_of_ble_eq_true rfl) dX6_repeats_19 ⟨Nat.zero_le _, Nat.zero_le _⟩ (fun H locs hP hS => ?_)
    refine lv_if_eq (tgt := 29) hx hb dX6_repeats_22 (by decide) (fun c22 => ?_) (fun c22 => ?_)
    · have c22 := bI_z.mp c22
      refine lv_iconst (v := nI 0) hx hb dX6_repeats_29 (by decide) ?_
      refine lv_iconst (v := nI 1) hx hb dX6_repeats_30 (by decide) ?_
      refine Ci.callV (As := [.int (nI 0), .int (nI 1)]) (rest := []) (wr := [(m1, oI cI 60 KP), (m2, oI cI 60 KL), (m3, oI cI 5400 KR), (m4, oI cI 12 KM), (m5, oI cI 12 KN), (m6, oI cI 60 KS), (m7, oI cI 60 KB), (m8, oI cI 12 KT), (m9, oI cI 61 KE), (m10, oI cI 61 KF), (m11, oI cI 61 KX)]) (wn := (fun _ => [(m0, .inr (6, [.int ((nI 1)), .int (nI n), .ref m1, .ref m2, .int (nI rn), .ref m3, .int (nI mn), .ref m4, .ref m5, .int (nI pn), .ref m6, .int (nI sn), .int co, .ref m7, .ref m8, .ref m9, .ref m10, .ref m11])), (m1, oI cI 60 KP), (m2, oI cI 60 KL), (m3, oI cI 5400 KR), (m4, oI cI 12 KM), (m5, oI cI 12 KN), (m6, oI cI 60 KS), (m7, oI cI 60 KB), (m8, oI cI 12 KT), (m9, oI cI 61 KE), (m10, oI cI 61 KF), (m11, oI cI 61 KX)])) (cv_X6_76 hg ⟨Nat.le_of_ble_eq_true rfl, Nat.le_of_ble_eq_true rfl⟩) (k_go0 l D cI m0 (.int (nI n)) (.ref m1) (.ref m2) (.int (nI rn)) (.ref m3) (.int (nI mn)) (.ref m4) (.ref m5) (.int (nI pn)) (.ref m6) (.int (nI sn)) (.int co) (.ref m7) (.ref m8) (.ref m9) (.ref m10) (.ref m11) 1 (by decide) (by decide)) cx hK hP hD hA [0] [1, 2, 3, 4, 5, 6, 7, 8, 9, 10, 11] [11, 0, 1, 2, 3, 4, 5, 6, 7, 8, 9, 10] rfl rfl (by decide) (fun _ => rfl) (rq := 0) rfl rfl rfl hS rfl hl.1 rfl (Nat.le_of_ble_eq_true rfl) dX6_repeats_31 ⟨Nat.le_refl _, Nat.le_refl _⟩ (fun H locs r31 _ p31 hP hD hS => ?_)
      subst p31
      refine lv_if_ne (tgt := 39) hx hb dX6_repeats_34 (by decide) (fun h9 => absurd (by decide) h9) (fun _ => ?_)
      refine lv_iconst (v := nI 0) hx hb dX6_repeats_37 (by decide) ?_
      exact hret _ _ 38 _ _ ((ff_N (n) (rn) (mn) (pn) (sn) 0, ff_Z ((nI 1)) (co), ff_A14 (KP) (KL) (KR) (KM) (KN) (KS) (KB) (KT) (KE) (KF) (KX) (KX) (KX) (KX))) (Or.inl ⟨fun h => by obtain ⟨v9, hv9, e9, m9, h8, h7, e8⟩ := h; first | exact c10 (by rw [e9]; exact ff_le hv9 (by decide)) | exact c22 (by rw [e8]; exact ff_le1 h8 h7 (by decide)), rfl, rfl⟩) hP hD hS dX6_repeats_38
    · have c22 := bI_nz.mp c22
      obtain ⟨w9, hw1, hw2, rfl⟩ := ff_of1 (by decide) c22
      refine lv_iconst (v := nI 1) hx hb dX6_repeats_25 (by decide) ?_
      refine lv_goto (tgt := 30) hx hb dX6_repeats_26 (by decide) ?_
      refine lv_iconst (v := nI 1) hx hb dX6_repeats_30 (by decide) ?_
      refine Ci.callV (As := [.int (nI 1), .int (nI 1)]) (rest := []) (wr := [(m1, oI cI 60 KP), (m2, oI cI 60 KL), (m3, oI cI 5400 KR), (m4, oI cI 12 KM), (m5, oI cI 12 KN), (m6, oI cI 60 KS), (m7, oI cI 60 KB), (m8, oI cI 12 KT), (m9, oI cI 61 KE), (m10, oI cI 61 KF), (m11, oI cI 61 KX)]) (wn := (fun _ => [(m0, .inr (6, [.int (nI 0), .int (nI n), .ref m1, .ref m2, .int (nI rn), .ref m3, .int (nI mn), .ref m4, .ref m5, .int (nI pn), .ref m6, .int (nI sn), .int co, .ref m7, .ref m8, .ref m9, .ref m10, .ref m11])), (m1, oI cI 60 KP), (m2, oI cI 60 KL), (m3, oI cI 5400 KR), (m4, oI cI 12 KM), (m5, oI cI 12 KN), (m6, oI cI 60 KS), (m7, oI cI 60 KB), (m8, oI cI 12 KT), (m9, oI cI 61 KE), (m10, oI cI 61 KF), (m11, oI cI 61 KX)])) (cv_X6_76 hg ⟨Nat.le_of_ble_eq_true rfl, Nat.le_of_ble_eq_true rfl⟩) (k_go1 l D cI m0 (.int (nI n)) (.ref m1) (.ref m2) (.int (nI rn)) (.ref m3) (.int (nI mn)) (.ref m4) (.ref m5) (.int (nI pn)) (.ref m6) (.int (nI sn)) (.int co) (.ref m7) (.ref m8) (.ref m9) (.ref m10) (.ref m11) (nI 1)) cx hK hP hD hA [0] [1, 2, 3, 4, 5, 6, 7, 8, 9, 10, 11] [11, 0, 1, 2, 3, 4, 5, 6, 7, 8, 9, 10] rfl rfl (by decide) (fun _ => rfl) (rq := 0) rfl rfl rfl hS rfl hl.1 rfl (Nat.le_of_ble_eq_true rfl) dX6_repeats_31 ⟨Nat.le_refl _, Nat.le_refl _⟩ (fun H locs r31 _ p31 hP hD hS => ?_)
      subst p31
      refine lv_if_ne (tgt := 39) hx hb dX6_repeats_34 (by decide) (fun _ => ?_) (fun h9 => absurd h9 (by decide))
      have hcn := ff_cnt_le v n
      have hrlc : ∀ i j, (ff_rl (ff_it KP KL v) (ff_cnt v n)) i j ≤ (ff_cnt v n) - j := fun i j => ff_rl_le _ _ i j
      refine lv_aload_n hx hb dX6_repeats_39 rfl (lv_at hl 0 rfl) ?_
      refine lv_iconst (v := nI 0) hx hb dX6_repeats_40 (by decide) ?_
      refine pf_X6_53 hx hb hg hown hK hP hD hS 0 rfl (Nat.le_of_ble_eq_true rfl) dX6_repeats_41 (fun H locs hP hD hS => ?_)
      have hP : va_P D vwCl [(m0, .inr (6, [.int (nI 0), .int (nI n), .ref m1, .ref m2, .int (nI 0), .ref m3, .int (nI mn), .ref m4, .ref m5, .int (nI pn), .ref m6, .int (nI sn), .int co, .ref m7, .ref m8, .ref m9, .ref m10, .ref m11])), (m1, oI cI 60 KP), (m2, oI cI 60 KL), (m3, oI cI 5400 KR), (m4, oI cI 12 KM), (m5, oI cI 12 KN), (m6, oI cI 60 KS), (m7, oI cI 60 KB), (m8, oI cI 12 KT), (m9, oI cI 61 KE), (m10, oI cI 61 KF), (m11, oI cI 61 KX)] H := hP
      have hD : va_D A [(m0, .inr (6, [.int (nI 0), .int (nI n), .ref m1, .ref m2, .int (nI 0), .ref m3, .int (nI mn), .ref m4, .ref m5, .int (nI pn), .ref m6, .int (nI sn), .int co, .ref m7, .ref m8, .ref m9, .ref m10, .ref m11])), (m1, oI cI 60 KP), (m2, oI cI 60 KL), (m3, oI cI 5400 KR), (m4, oI cI 12 KM), (m5, oI cI 12 KN), (m6, oI cI 60 KS), (m7, oI cI 60 KB), (m8, oI cI 12 KT), (m9, oI cI 61 KE), (m10, oI cI 61 KF), (m11, oI cI 61 KX)] := hD
      refine lv_aload_n hx hb dX6_repeats_44 rfl (lv_at hl 0 rfl) ?_
      refine lv_iload_n hx hb dX6_repeats_45 rfl (lv_at hl 1 rfl) ?_
      refine Cp.callV (As := [.int (nI v)]) (rest := []) (cv_X6_86 hg ⟨Nat.le_of_ble_eq_true rfl, Nat.le_of_ble_eq_true rfl⟩) (k_many l D cI m0 m1 m2 m3 m4 m5 m6 m7 m8 m9 m10 m11 (nI 0) (co) (n) (0) (mn) (pn) (sn) v hv hn) cx hK hP [0] rfl (rq := 0) rfl rfl rfl hS rfl hl.1 rfl (Nat.le_of_ble_eq_true rfl) dX6_repeats_46 ⟨Nat.zero_le _, Nat.zero_le _⟩ (fun H locs hP hS => ?_)
      refine lv_istore_n (lv' := [(3, .int (nI (ff_cnt v n))), (0, .ref m0), (1, .int (nI v)), (2, .int (nI w9))]) hx hb dX6_repeats_49 rfl hl (by decide) rfl (fun ls hl => ?_)
      have hG0 : (ff_G (ff_cn (ff_rl (ff_it KP KL v) (ff_cnt v n)) w9 (ff_ar (ff_cnt v n) (ff_cnt v n)))) (ff_cnt v n) = 0 := ff_G_z (fun m h1 h2 => ff_cn_big hrlc (by omega) (by omega))
      have hP : va_P D vwCl [(m0, .inr (6, [.int ((nI 0)), .int (nI n), .ref m1, .ref m2, .int (nI ((ff_G (ff_cn (ff_rl (ff_it KP KL v) (ff_cnt v n)) w9 (ff_ar (ff_cnt v n) (ff_cnt v n)))) (ff_cnt v n))), .ref m3, .int (nI mn), .ref m4, .ref m5, .int (nI pn), .ref m6, .int (nI sn), .int co, .ref m7, .ref m8, .ref m9, .ref m10, .ref m11])), (m1, oI cI 60 KP), (m2, oI cI 60 KL), (m3, oI cI 5400 KR), (m4, oI cI 12 KM), (m5, oI cI 12 KN), (m6, oI cI 60 KS), (m7, oI cI 60 KB), (m8, oI cI 12 KT), (m9, oI cI 61 KE), (m10, oI cI 61 KF), (m11, oI cI 61 KX)] H := by rw [hG0]; exact hP
      have hD : va_D A [(m0, .inr (6, [.int ((nI 0)), .int (nI n), .ref m1, .ref m2, .int (nI ((ff_G (ff_cn (ff_rl (ff_it KP KL v) (ff_cnt v n)) w9 (ff_ar (ff_cnt v n) (ff_cnt v n)))) (ff_cnt v n))), .ref m3, .int (nI mn), .ref m4, .ref m5, .int (nI pn), .ref m6, .int (nI sn), .int co, .ref m7, .ref m8, .ref m9, .ref m10, .ref m11])), (m1, oI cI 60 KP), (m2, oI cI 60 KL), (m3, oI cI 5400 KR), (m4, oI cI 12 KM), (m5, oI cI 12 KN), (m6, oI cI 60 KS), (m7, oI cI 60 KB), (m8, oI cI 12 KT), (m9, oI cI 61 KE), (m10, oI cI 61 KF), (m11, oI cI 61 KX)] := by rw [hG0]; exact hD
      have lp_50 : ∀ (k : Nat) (q9 : Nat) (RR : Nat → Int32) (H : Heap) (locs : List Loc) (ls : Array Slot), (q9 ≤ (ff_cnt v n)) → (w9 ≤ q9 + 1 ∨ q9 = (ff_cnt v n)) → (ff_rowsB (ff_rl (ff_it KP KL v) (ff_cnt v n)) w9 (ff_G (ff_cn (ff_rl (ff_it KP KL v) (ff_cnt v n)) w9 (ff_ar (ff_cnt v n) (ff_cnt v n)))) (ff_ar (ff_cnt v n) (ff_cnt v n)) q9 [] RR) → (q9 < k) → va_P D vwCl [(m0, .inr (6, [.int ((nI 0)), .int (nI n), .ref m1, .ref m2, .int (nI ((ff_G (ff_cn (ff_rl (ff_it KP KL v) (ff_cnt v n)) w9 (ff_ar (ff_cnt v n) (ff_cnt v n)))) q9)), .ref m3, .int (nI mn), .ref m4, .ref m5, .int (nI pn), .ref m6, .int (nI sn), .int co, .ref m7, .ref m8, .ref m9, .ref m10, .ref m11])), (m1, oI cI 60 KP), (m2, oI cI 60 KL), (m3, oI cI 5400 RR), (m4, oI cI 12 KM), (m5, oI cI 12 KN), (m6, oI cI 60 KS), (m7, oI cI 60 KB), (m8, oI cI 12 KT), (m9, oI cI 61 KE), (m10, oI cI 61 KF), (m11, oI cI 61 KX)] H → va_D A [(m0, .inr (6, [.int ((nI 0)), .int (nI n), .ref m1, .ref m2, .int (nI ((ff_G (ff_cn (ff_rl (ff_it KP KL v) (ff_cnt v n)) w9 (ff_ar (ff_cnt v n) (ff_cnt v n)))) q9)), .ref m3, .int (nI mn), .ref m4, .ref m5, .int (nI pn), .ref m6, .int (nI sn), .int co, .ref m7, .ref m8, .ref m9, .ref m10, .ref m11])), (m1, oI cI 60 KP), (m2, oI cI 60 KL), (m3, oI cI 5400 RR), (m4, oI cI 12 KM), (m5, oI cI 12 KN), (m6, oI cI 60 KS), (m7, oI cI 60 KB), (m8, oI cI 12 KT), (m9, oI cI 61 KE), (m10, oI cI 61 KF), (m11, oI cI 61 KX)] → va_S A s.heap H locs → lv_has ls 7 [(0, .ref m0), (1, .int (nI v)), (2, .int (nI w9)), (3, .int (nI q9))] → W p l e (rr 2 0 0) s m args below meth c H locs 0 0 Q (F0 m 50 ls []) := by
        intro k
        induction k with
        | zero =>
          intro q9 RR H locs ls hq hq2 hB hk
          exact absurd hk (Nat.not_lt_zero _)
        | succ k ih_50 =>
          intro q9 RR H locs ls hq hq2 hB hk hP hD hS hl
          refine lv_iload_n hx hb dX6_repeats_50 rfl (lv_at hl 3 rfl) ?_
          refine lv_iload_n hx hb dX6_repeats_51 rfl (lv_at hl 2 rfl) ?_
          refine lv_icmp_lt (tgt := 205) hx hb dX6_repeats_52 (by decide) (fun c52 => ?_) (fun c52 => ?_)
          · have c52 := (nI_ltI (by omega) (by omega)).mp c52
            rw [show (ff_G (ff_cn (ff_rl (ff_it KP KL v) (ff_cnt v n)) w9 (ff_ar (ff_cnt v n) (ff_cnt v n)))) q9 = (ff_G (ff_cn (ff_rl (ff_it KP KL v) (ff_cnt v n)) w9 (ff_ar (ff_cnt v n) (ff_cnt v n)))) 0 from (ff_G_low (by omega) (fun m hm => if_neg (by omega))).symm] at hP hD
            refine lv_aload_n hx hb dX6_repeats_205 rfl (lv_at hl 0 rfl) ?_
            refine gf_X6_53 hx hb hg hown hK hP 0 rfl rfl dX6_repeats_206 ?_
            exact hret _ _ 209 _ _ ((ff_N (n) ((ff_G (ff_cn (ff_rl (ff_it KP KL v) (ff_cnt v n)) w9 (ff_ar (ff_cnt v n) (ff_cnt v n)))) 0) (mn) (pn) (sn) 0, ff_Z ((nI 0)) (co), ff_A14 (KP) (KL) (RR) (KM) (KN) (KS) (KB) (KT) (KE) (KF) (KX) (KX) (KX) (KX))) (Or.inr ⟨⟨v, hv, rfl, w9, hw1, hw2, rfl⟩, RR, by rw [cl_n (by omega), cl_n (by omega)]; exact ⟨ff_rowsB_end hB (by omega), rfl, rfl⟩⟩) hP hD hS dX6_repeats_209
          · have c52 := mt (nI_ltI (by omega) (by omega)).mpr c52
            refine lv_iconst (v := nI 0) hx hb dX6_repeats_55 (by decide) ?_
            refine lv_istore (lv' := [(4, .int (nI 0)), (0, .ref m0), (1, .int (nI v)), (2, .int (nI w9)), (3, .int (nI q9))]) hx hb dX6_repeats_56 hl (by decide) rfl (fun ls hl => ?_)
            have lp_58 : ∀ (k : Nat) (i : Nat) (RR : Nat → Int32) (H : Heap) (locs : List Loc) (ls : Array Slot), (i ≤ (ff_cnt v n)) → (ff_rowsB (ff_rl (ff_it KP KL v) (ff_cnt v n)) w9 (ff_G (ff_cn (ff_rl (ff_it KP KL v) (ff_cnt v n)) w9 (ff_ar (ff_cnt v n) (ff_cnt v n)))) (ff_ar (ff_cnt v n) (ff_cnt v n)) q9 (ff_ar (ff_cnt v n) i) RR) → ((ff_cnt v n) - i < k) → va_P D vwCl [(m0, .inr (6, [.int ((nI 0)), .int (nI n), .ref m1, .ref m2, .int (nI ((ff_G (ff_cn (ff_rl (ff_it KP KL v) (ff_cnt v n)) w9 (ff_ar (ff_cnt v n) (ff_cnt v n)))) q9 + (ff_F (ff_rl (ff_it KP KL v) (ff_cnt v n)) q9 (ff_ar (ff_cnt v n) i)).length)), .ref m3, .int (nI mn), .ref m4, .ref m5, .int (nI pn), .ref m6, .int (nI sn), .int co, .ref m7, .ref m8, .ref m9, .ref m10, .ref m11])), (m1, oI cI 60 KP), (m2, oI cI 60 KL), (m3, oI cI 5400 RR), (m4, oI cI 12 KM), (m5, oI cI 12 KN), (m6, oI cI 60 KS), (m7, oI cI 60 KB), (m8, oI cI 12 KT), (m9, oI cI 61 KE), (m10, oI cI 61 KF), (m11, oI cI 61 KX)] H → va_D A [(m0, .inr (6, [.int ((nI 0)), .int (nI n), .ref m1, .ref m2, .int (nI ((ff_G (ff_cn (ff_rl (ff_it KP KL v) (ff_cnt v n)) w9 (ff_ar (ff_cnt v n) (ff_cnt v n)))) q9 + (ff_F (ff_rl (ff_it KP KL v) (ff_cnt v n)) q9 (ff_ar (ff_cnt v n) i)).length)), .ref m3, .int (nI mn), .ref m4, .ref m5, .int (nI pn), .ref m6, .int (nI sn), .int co, .ref m7, .ref m8, .ref m9, .ref m10, .ref m11])), (m1, oI cI 60 KP), (m2, oI cI 60 KL), (m3, oI cI 5400 RR), (m4, oI cI 12 KM), (m5, oI cI 12 KN), (m6, oI cI 60 KS), (m7, oI cI 60 KB), (m8, oI cI 12 KT), (m9, oI cI 61 KE), (m10, oI cI 61 KF), (m11, oI cI 61 KX)] → va_S A s.heap H locs → lv_has ls 7 [(0, .ref m0), (1, .int (nI v)), (2, .int (nI w9)), (3, .int (nI q9)), (4, .int (nI i))] → W p l e (rr 2 0 0) s m args below meth c H locs 0 0 Q (F0 m 58 ls []) := by
              intro k
              induction k with
              | zero =>
                intro i RR H locs ls hi hB hk
                exact absurd hk (Nat.not_lt_zero _)
              | succ k ih_58 =>
                intro i RR H locs ls hi hB hk hP hD hS hl
                refine lv_iload hx hb dX6_repeats_58 (lv_at hl 4 rfl) ?_
                refine lv_aload_n hx hb dX6_repeats_60 rfl (lv_at hl 0 rfl) ?_
                refine lv_iload_n hx hb dX6_repeats_61 rfl (lv_at hl 1 rfl) ?_
                refine Cp.callV (As := [.int (nI v)]) (rest := [.int (nI i)]) (cv_X6_86 hg ⟨Nat.le_of_ble_eq_true rfl, Nat.le_of_ble_eq_true rfl⟩) (k_many l D cI m0 m1 m2 m3 m4 m5 m6 m7 m8 m9 m10 m11 ((nI 0)) (co) (n) ((ff_G (ff_cn (ff_rl (ff_it KP KL v) (ff_cnt v n)) w9 (ff_ar (ff_cnt v n) (ff_cnt v n)))) q9 + (ff_F (ff_rl (ff_it KP KL v) (ff_cnt v n)) q9 (ff_ar (ff_cnt v n) i)).length) (mn) (pn) (sn) v hv hn) cx hK hP [0] rfl (rq := 0) rfl rfl rfl hS rfl hl.1 rfl (Nat.le_of_ble_eq_true rfl) dX6_repeats_62 ⟨Nat.zero_le _, Nat.zero_le _⟩ (fun H locs hP hS => ?_)
                refine lv_icmp_ge (tgt := 199) hx hb dX6_repeats_65 (by decide) (fun c65 => ?_) (fun c65 => ?_)
                · have c65 := (nI_leI (by omega) (by omega)).mp c65
                  refine lv_iinc (v := nI (q9 - 1)) (lv' := [(3, .int (nI (q9 - 1))), (0, .ref m0), (1, .int (nI v)), (2, .int (nI w9)), (4, .int (nI i))]) hx hb dX6_repeats_199 hl (k := 3) rfl (sb_m1 (by omega)) (by decide) rfl (fun ls hl => ?_)
                  refine lv_goto (tgt := 50) hx hb dX6_repeats_202 (by decide) ?_
                  rw [show (ff_G (ff_cn (ff_rl (ff_it KP KL v) (ff_cnt v n)) w9 (ff_ar (ff_cnt v n) (ff_cnt v n)))) q9 + (ff_F (ff_rl (ff_it KP KL v) (ff_cnt v n)) q9 (ff_ar (ff_cnt v n) i)).length = (ff_G (ff_cn (ff_rl (ff_it KP KL v) (ff_cnt v n)) w9 (ff_ar (ff_cnt v n) (ff_cnt v n)))) (q9 - 1) from ff_G_fin (by omega) (by omega) (by omega) (ff_cn_big hrlc (by omega) (by omega)) (by omega)] at hP hD
                  exact ih_50 (q9 - 1) (_) _ _ _ (by omega) (by omega) (by rw [show i = (ff_cnt v n) by omega] at hB; exact ff_rowsB_next hB (by omega)) (by omega) hP hD hS (lv_sub hl [1, 2, 3, 0] rfl)
                · have c65 := mt (nI_leI (by omega) (by omega)).mpr c65
                  refine lv_iload hx hb dX6_repeats_68 (lv_at hl 4 rfl) ?_
                  refine lv_iconst (v := nI 1) hx hb dX6_repeats_70 (by decide) ?_
                  refine lv_iadd hx hb dX6_repeats_71 ?_
                  refine lv_asi (nI_add _ _) ?_
                  refine lv_istore (lv' := [(5, .int (nI (i + 1))), (0, .ref m0), (1, .int (nI v)), (2, .int (nI w9)), (3, .int (nI q9)), (4, .int (nI i))]) hx hb dX6_repeats_72 hl (by decide) rfl (fun ls hl => ?_)
                  rw [← ff_pp_0 (ff_cnt v n) i] at hP hD
                  have lp_74 : ∀ (k : Nat) (j : Nat) (RR : Nat → Int32) (H : Heap) (locs : List Loc) (ls : Array Slot), (i + 1 ≤ j) → (j ≤ (ff_cnt v n)) → (ff_rowsB (ff_rl (ff_it KP KL v) (ff_cnt v n)) w9 (ff_G (ff_cn (ff_rl (ff_it KP KL v) (ff_cnt v n)) w9 (ff_ar (ff_cnt v n) (ff_cnt v n)))) (ff_ar (ff_cnt v n) (ff_cnt v n)) q9 (ff_pp (ff_cnt v n) i j) RR) → ((ff_cnt v n) - j < k) → va_P D vwCl [(m0, .inr (6, [.int ((nI 0)), .int (nI n), .ref m1, .ref m2, .int (nI ((ff_G (ff_cn (ff_rl (ff_it KP KL v) (ff_cnt v n)) w9 (ff_ar (ff_cnt v n) (ff_cnt v n)))) q9 + (ff_F (ff_rl (ff_it KP KL v) (ff_cnt v n)) q9 (ff_pp (ff_cnt v n) i j)).length)), .ref m3, .int (nI mn), .ref m4, .ref m5, .int (nI pn), .ref m6, .int (nI sn), .int co, .ref m7, .ref m8, .ref m9, .ref m10, .ref m11])), (m1, oI cI 60 KP), (m2, oI cI 60 KL), (m3, oI cI 5400 RR), (m4, oI cI 12 KM), (m5, oI cI 12 KN), (m6, oI cI 60 KS), (m7, oI cI 60 KB), (m8, oI cI 12 KT), (m9, oI cI 61 KE), (m10, oI cI 61 KF), (m11, oI cI 61 KX)] H → va_D A [(m0, .inr (6, [.int ((nI 0)), .int (nI n), .ref m1, .ref m2, .int (nI ((ff_G (ff_cn (ff_rl (ff_it KP KL v) (ff_cnt v n)) w9 (ff_ar (ff_cnt v n) (ff_cnt v n)))) q9 + (ff_F (ff_rl (ff_it KP KL v) (ff_cnt v n)) q9 (ff_pp (ff_cnt v n) i j)).length)), .ref m3, .int (nI mn), .ref m4, .ref m5, .int (nI pn), .ref m6, .int (nI sn), .int co, .ref m7, .ref m8, .ref m9, .ref m10, .ref m11])), (m1, oI cI 60 KP), (m2, oI cI 60 KL), (m3, oI cI 5400 RR), (m4, oI cI 12 KM), (m5, oI cI 12 KN), (m6, oI cI 60 KS), (m7, oI cI 60 KB), (m8, oI cI 12 KT), (m9, oI cI 61 KE), (m10, oI cI 61 KF), (m11, oI cI 61 KX)] → va_S A s.heap H locs → lv_has ls 7 [(0, .ref m0), (1, .int (nI v)), (2, .int (nI w9)), (3, .int (nI q9)), (4, .int (nI i)), (5, .int (nI j))] → W p l e (rr 2 0 0) s m args below meth c H locs 0 0 Q (F0 m 74 ls []) := by
                    intro k
                    induction k with
                    | zero =>
                      intro j RR H locs ls hj1 hj hB hk
                      exact absurd hk (Nat.not_lt_zero _)
                    | succ k ih_74 =>
                      intro j RR H locs ls hj1 hj hB hk hP hD hS hl
                      refine lv_iload hx hb dX6_repeats_74 (lv_at hl 5 rfl) ?_
                      refine lv_aload_n hx hb dX6_repeats_76 rfl (lv_at hl 0 rfl) ?_
                      refine lv_iload_n hx hb dX6_repeats_77 rfl (lv_at hl 1 rfl) ?_
                      refine Cp.callV (As := [.int (nI v)]) (rest := [.int (nI j)]) (cv_X6_86 hg ⟨Nat.le_of_ble_eq_true rfl, Nat.le_of_ble_eq_true rfl⟩) (k_many l D cI m0 m1 m2 m3 m4 m5 m6 m7 m8 m9 m10 m11 ((nI 0)) (co) (n) ((ff_G (ff_cn (ff_rl (ff_it KP KL v) (ff_cnt v n)) w9 (ff_ar (ff_cnt v n) (ff_cnt v n)))) q9 + (ff_F (ff_rl (ff_it KP KL v) (ff_cnt v n)) q9 (ff_pp (ff_cnt v n) i j)).length) (mn) (pn) (sn) v hv hn) cx hK hP [0] rfl (rq := 0) rfl rfl rfl hS rfl hl.1 rfl (Nat.le_of_ble_eq_true rfl) dX6_repeats_78 ⟨Nat.zero_le _, Nat.zero_le _⟩ (fun H locs hP hS => ?_)
                      refine lv_icmp_ge (tgt := 193) hx hb dX6_repeats_81 (by decide) (fun c81 => ?_) (fun c81 => ?_)
                      · have c81 := (nI_leI (by omega) (by omega)).mp c81
                        refine lv_iinc (v := nI (i + 1)) (lv' := [(4, .int (nI (i + 1))), (0, .ref m0), (1, .int (nI v)), (2, .int (nI w9)), (3, .int (nI q9)), (5, .int (nI j))]) hx hb dX6_repeats_193 hl (k := 4) rfl (nI_1 _) (by decide) rfl (fun ls hl => ?_)
                        refine lv_goto (tgt := 58) hx hb dX6_repeats_196 (by decide) ?_
                        rw [show j = (ff_cnt v n) by omega, ff_pp_n] at hP hD
                        exact ih_58 (i + 1) (_) _ _ _ (by omega) (by rw [show j = (ff_cnt v n) by omega, ff_pp_n] at hB; exact hB) (by omega) hP hD hS (lv_sub hl [1, 2, 3, 4, 0] rfl)
                      · have c81 := mt (nI_leI (by omega) (by omega)).mpr c81
                        refine lv_iload hx hb dX6_repeats_84 (lv_at hl 4 rfl) ?_
                        refine lv_if_eq (tgt := 110) hx hb dX6_repeats_86 (by decide) (fun c86 => ?_) (fun c86 => ?_)
                        · have c86 := (nz_eq (by omega)).mp c86
                          refine lv_iconst (v := nI 1) hx hb dX6_repeats_110 (by decide) ?_
                          refine lv_goto (tgt := 115) hx hb dX6_repeats_111 (by decide) ?_
                          refine lv_istore (lv' := [(6, .int (nI 1)), (0, .ref m0), (1, .int (nI v)), (2, .int (nI w9)), (3, .int (nI q9)), (4, .int (nI i)), (5, .int (nI j))]) hx hb dX6_repeats_115 hl (by decide) rfl (fun ls hl => ?_)
                          refine lv_iload hx hb dX6_repeats_117 (lv_at hl 0 rfl) ?_
                          refine lv_if_eq (tgt := 187) hx hb dX6_repeats_119 (by decide) (fun h9 => absurd h9 (by decide)) (fun _ => ?_)
                          refine lv_aload_n hx hb dX6_repeats_122 rfl (lv_at hl 1 rfl) ?_
                          refine lv_iload_n hx hb dX6_repeats_123 rfl (lv_at hl 2 rfl) ?_
                          refine lv_iload hx hb dX6_repeats_124 (lv_at hl 5 rfl) ?_
                          refine lv_iload hx hb dX6_repeats_126 (lv_at hl 6 rfl) ?_
                          refine Cp.callV (As := [.int (nI v), .int (nI i), .int (nI j)]) (rest := []) (cv_X6_96 hg ⟨Nat.le_of_ble_eq_true rfl, Nat.le_of_ble_eq_true rfl⟩) (k_common l D cI m0 m1 m2 m3 m4 m5 m6 m7 m8 m9 m10 m11 ((nI 0)) (co) (n) ((ff_G (ff_cn (ff_rl (ff_it KP KL v) (ff_cnt v n)) w9 (ff_ar (ff_cnt v n) (ff_cnt v n)))) q9 + (ff_F (ff_rl (ff_it KP KL v) (ff_cnt v n)) q9 (ff_pp (ff_cnt v n) i j)).length) (mn) (pn) (sn) (KP) (KL) v (i) (j) hv hn (by omega) (by omega) hR) cx hK hP [0, 1, 2] rfl (rq := 0) rfl rfl rfl hS rfl hl.1 rfl (Nat.le_of_ble_eq_true rfl) dX6_repeats_128 ⟨Nat.zero_le _, Nat.zero_le _⟩ (fun H locs hP hS => ?_)
                          have hrl := ff_run_le (ff_it KP KL v) ((ff_cnt v n) - j) i j
                          have hbg : i = 0 ∨ ¬ (ff_it KP KL v) (i - 1) = (ff_it KP KL v) (j - 1) := by first | exact Or.inl c86 | exact Or.inr c107
                          refine lv_iload_n hx hb dX6_repeats_131 rfl (lv_at hl 4 rfl) ?_
                          refine lv_icmp_ne (tgt := 187) hx hb dX6_repeats_132 (by decide) (fun c132 => ?_) (fun c132 => ?_)
                          · have c132 := mt (nI_eq (by omega) (by omega)).mpr c132
                            have hno : ¬ (ff_rl (ff_it KP KL v) (ff_cnt v n)) i j = q9 := ff_rl_no hbg c132
                            have e9 : (ff_F (ff_rl (ff_it KP KL v) (ff_cnt v n)) q9 (ff_pp (ff_cnt v n) i (j + 1))).length = (ff_F (ff_rl (ff_it KP KL v) (ff_cnt v n)) q9 (ff_pp (ff_cnt v n) i j)).length := by rw [ff_pp_s (by omega), ff_F_f hno]
                            refine lv_iinc (v := nI (j + 1)) (lv' := [(5, .int (nI (j + 1))), (6, .int (nI 1)), (0, .ref m0), (1, .int (nI v)), (2, .int (nI w9)), (3, .int (nI q9)), (4, .int (nI i))]) hx hb dX6_repeats_187 hl (k := 6) rfl (nI_1 _) (by decide) rfl (fun ls hl => ?_)
                            refine lv_goto (tgt := 74) hx hb dX6_repeats_190 (by decide) ?_
                            rw [← e9] at hP hD
                            exact ih_74 (j + 1) (_) _ _ _ (by omega) (by omega) (by rw [ff_pp_s (by omega)]; first | exact ff_rowsB_t hall hB hyes (by omega) (by omega) | exact ff_rowsB_f hB hno) (by omega) hP hD hS (lv_sub hl [2, 3, 4, 5, 6, 0] rfl)
                          · have c132 := (nI_eq (by omega) (by omega)).mp c132
                            have hyes : (ff_rl (ff_it KP KL v) (ff_cnt v n)) i j = q9 := ff_rl_yes hbg c132
                            obtain ⟨rest9, hall⟩ := ff_pp_pre (n := (ff_cnt v n)) (i := i) (j := j + 1) (by omega) (by omega)
                            rw [ff_pp_s (by omega)] at hall
                            have h900 := ff_tot_900 (ff_it KP KL v) (n := (ff_cnt v n)) w9 (by omega)
                            have hlt9 := ff_place_lt (r := (ff_rl (ff_it KP KL v) (ff_cnt v n))) (least := w9) hall (by omega) (by omega)
                            rw [hyes] at hlt9
                            have e9 : (ff_G (ff_cn (ff_rl (ff_it KP KL v) (ff_cnt v n)) w9 (ff_ar (ff_cnt v n) (ff_cnt v n)))) q9 + (ff_F (ff_rl (ff_it KP KL v) (ff_cnt v n)) q9 (ff_pp (ff_cnt v n) i (j + 1))).length = (ff_G (ff_cn (ff_rl (ff_it KP KL v) (ff_cnt v n)) w9 (ff_ar (ff_cnt v n) (ff_cnt v n)))) q9 + (ff_F (ff_rl (ff_it KP KL v) (ff_cnt v n)) q9 (ff_pp (ff_cnt v n) i j)).length + 1 := by rw [ff_pp_s (by omega), ff_F_t hyes, List.length_append]; rfl
                            refine lv_aload_n hx hb dX6_repeats_135 rfl (lv_at hl 1 rfl) ?_
                            refine gf_X6_16 hx hb hg hown hK hP 0 rfl rfl dX6_repeats_136 ?_
                            refine lv_iconst (v := nI 3) hx hb dX6_repeats_139 (by decide) ?_
                            refine lv_aload_n hx hb dX6_repeats_140 rfl (lv_at hl 1 rfl) ?_
                            refine gf_X6_53 hx hb hg hown hK hP 0 rfl rfl dX6_repeats_141 ?_
                            refine lv_imul hx hb dX6_repeats_144 ?_
                            refine lv_asi (pk_mul _ _) ?_
                            refine lv_iload hx hb dX6_repeats_145 (lv_at hl 5 rfl) ?_
                            refine ast hx hb hK hP hD hS 3 rfl rfl (by omega) dX6_repeats_147 (fun H locs hP hD hS => ?_)
                            have hP : va_P D vwCl [(m0, .inr (6, [.int ((nI 0)), .int (nI n), .ref m1, .ref m2, .int (nI ((ff_G (ff_cn (ff_rl (ff_it KP KL v) (ff_cnt v n)) w9 (ff_ar (ff_cnt v n) (ff_cnt v n)))) q9 + (ff_F (ff_rl (ff_it KP KL v) (ff_cnt v n)) q9 (ff_pp (ff_cnt v n) i j)).length)), .ref m3, .int (nI mn), .ref m4, .ref m5, .int (nI pn), .ref m6, .int (nI sn), .int co, .ref m7, .ref m8, .ref m9, .ref m10, .ref m11])), (m1, oI cI 60 KP), (m2, oI cI 60 KL), (m3, oI cI 5400 (upd RR (3 * ((ff_G (ff_cn (ff_rl (ff_it KP KL v) (ff_cnt v n)) w9 (ff_ar (ff_cnt v n) (ff_cnt v n)))) q9 + (ff_F (ff_rl (ff_it KP KL v) (ff_cnt v n)) q9 (ff_pp (ff_cnt v n) i j)).length)) (nI i))), (m4, oI cI 12 KM), (m5, oI cI 12 KN), (m6, oI cI 60 KS), (m7, oI cI 60 KB), (m8, oI cI 12 KT), (m9, oI cI 61 KE), (m10, oI cI 61 KF), (m11, oI cI 61 KX)] H := hP
                            have hD : va_D A [(m0, .inr (6, [.int ((nI 0)), .int (nI n), .ref m1, .ref m2, .int (nI ((ff_G (ff_cn (ff_rl (ff_it KP KL v) (ff_cnt v n)) w9 (ff_ar (ff_cnt v n) (ff_cnt v n)))) q9 + (ff_F (ff_rl (ff_it KP KL v) (ff_cnt v n)) q9 (ff_pp (ff_cnt v n) i j)).length)), .ref m3, .int (nI mn), .ref m4, .ref m5, .int (nI pn), .ref m6, .int (nI sn), .int co, .ref m7, .ref m8, .ref m9, .ref m10, .ref m11])), (m1, oI cI 60 KP), (m2, oI cI 60 KL), (m3, oI cI 5400 (upd RR (3 * ((ff_G (ff_cn (ff_rl (ff_it KP KL v) (ff_cnt v n)) w9 (ff_ar (ff_cnt v n) (ff_cnt v n)))) q9 + (ff_F (ff_rl (ff_it KP KL v) (ff_cnt v n)) q9 (ff_pp (ff_cnt v n) i j)).length)) (nI i))), (m4, oI cI 12 KM), (m5, oI cI 12 KN), (m6, oI cI 60 KS), (m7, oI cI 60 KB), (m8, oI cI 12 KT), (m9, oI cI 61 KE), (m10, oI cI 61 KF), (m11, oI cI 61 KX)] := hD
                            refine lv_aload_n hx hb dX6_repeats_148 rfl (lv_at hl 1 rfl) ?_
                            refine gf_X6_16 hx hb hg hown hK hP 0 rfl rfl dX6_repeats_149 ?_
                            refine lv_iconst (v := nI 3) hx hb dX6_repeats_152 (by decide) ?_
                            refine lv_aload_n hx hb dX6_repeats_153 rfl (lv_at hl 1 rfl) ?_
                            refine gf_X6_53 hx hb hg hown hK hP 0 rfl rfl dX6_repeats_154 ?_
                            refine lv_imul hx hb dX6_repeats_157 ?_
                            refine lv_asi (pk_mul _ _) ?_
                            refine lv_iconst (v := nI 1) hx hb dX6_repeats_158 (by decide) ?_
                            refine lv_iadd hx hb dX6_repeats_159 ?_
                            refine lv_asi (nI_add _ _) ?_
                            refine lv_iload hx hb dX6_repeats_160 (lv_at hl 6 rfl) ?_
                            refine ast hx hb hK hP hD hS 3 rfl rfl (by omega) dX6_repeats_162 (fun H locs hP hD hS => ?_)
                            have hP : va_P D vwCl [(m0, .inr (6, [.int ((nI 0)), .int (nI n), .ref m1, .ref m2, .int (nI ((ff_G (ff_cn (ff_rl (ff_it KP KL v) (ff_cnt v n)) w9 (ff_ar (ff_cnt v n) (ff_cnt v n)))) q9 + (ff_F (ff_rl (ff_it KP KL v) (ff_cnt v n)) q9 (ff_pp (ff_cnt v n) i j)).length)), .ref m3, .int (nI mn), .ref m4, .ref m5, .int (nI pn), .ref m6, .int (nI sn), .int co, .ref m7, .ref m8, .ref m9, .ref m10, .ref m11])), (m1, oI cI 60 KP), (m2, oI cI 60 KL), (m3, oI cI 5400 (upd (upd RR (3 * ((ff_G (ff_cn (ff_rl (ff_it KP KL v) (ff_cnt v n)) w9 (ff_ar (ff_cnt v n) (ff_cnt v n)))) q9 + (ff_F (ff_rl (ff_it KP KL v) (ff_cnt v n)) q9 (ff_pp (ff_cnt v n) i j)).length)) (nI i)) (3 * ((ff_G (ff_cn (ff_rl (ff_it KP KL v) (ff_cnt v n)) w9 (ff_ar (ff_cnt v n) (ff_cnt v n)))) q9 + (ff_F (ff_rl (ff_it KP KL v) (ff_cnt v n)) q9 (ff_pp (ff_cnt v n) i j)).length) + 1) (nI j))), (m4, oI cI 12 KM), (m5, oI cI 12 KN), (m6, oI cI 60 KS), (m7, oI cI 60 KB), (m8, oI cI 12 KT), (m9, oI cI 61 KE), (m10, oI cI 61 KF), (m11, oI cI 61 KX)] H := hP
                            have hD : va_D A [(m0, .inr (6, [.int ((nI 0)), .int (nI n), .ref m1, .ref m2, .int (nI ((ff_G (ff_cn (ff_rl (ff_it KP KL v) (ff_cnt v n)) w9 (ff_ar (ff_cnt v n) (ff_cnt v n)))) q9 + (ff_F (ff_rl (ff_it KP KL v) (ff_cnt v n)) q9 (ff_pp (ff_cnt v n) i j)).length)), .ref m3, .int (nI mn), .ref m4, .ref m5, .int (nI pn), .ref m6, .int (nI sn), .int co, .ref m7, .ref m8, .ref m9, .ref m10, .ref m11])), (m1, oI cI 60 KP), (m2, oI cI 60 KL), (m3, oI cI 5400 (upd (upd RR (3 * ((ff_G (ff_cn (ff_rl (ff_it KP KL v) (ff_cnt v n)) w9 (ff_ar (ff_cnt v n) (ff_cnt v n)))) q9 + (ff_F (ff_rl (ff_it KP KL v) (ff_cnt v n)) q9 (ff_pp (ff_cnt v n) i j)).length)) (nI i)) (3 * ((ff_G (ff_cn (ff_rl (ff_it KP KL v) (ff_cnt v n)) w9 (ff_ar (ff_cnt v n) (ff_cnt v n)))) q9 + (ff_F (ff_rl (ff_it KP KL v) (ff_cnt v n)) q9 (ff_pp (ff_cnt v n) i j)).length) + 1) (nI j))), (m4, oI cI 12 KM), (m5, oI cI 12 KN), (m6, oI cI 60 KS), (m7, oI cI 60 KB), (m8, oI cI 12 KT), (m9, oI cI 61 KE), (m10, oI cI 61 KF), (m11, oI cI 61 KX)] := hD
                            refine lv_aload_n hx hb dX6_repeats_163 rfl (lv_at hl 1 rfl) ?_
                            refine gf_X6_16 hx hb hg hown hK hP 0 rfl rfl dX6_repeats_164 ?_
                            refine lv_iconst (v := nI 3) hx hb dX6_repeats_167 (by decide) ?_
                            refine lv_aload_n hx hb dX6_repeats_168 rfl (lv_at hl 1 rfl) ?_
                            refine gf_X6_53 hx hb hg hown hK hP 0 rfl rfl dX6_repeats_169 ?_
                            refine lv_imul hx hb dX6_repeats_172 ?_
                            refine lv_asi (pk_mul _ _) ?_
                            refine lv_iconst (v := nI 2) hx hb dX6_repeats_173 (by decide) ?_
                            refine lv_iadd hx hb dX6_repeats_174 ?_
                            refine lv_asi (nI_add _ _) ?_
                            refine lv_iload_n hx hb dX6_repeats_175 rfl (lv_at hl 4 rfl) ?_
                            refine ast hx hb hK hP hD hS 3 rfl rfl (by omega) dX6_repeats_176 (fun H locs hP hD hS => ?_)
                            have hP : va_P D vwCl [(m0, .inr (6, [.int ((nI 0)), .int (nI n), .ref m1, .ref m2, .int (nI ((ff_G (ff_cn (ff_rl (ff_it KP KL v) (ff_cnt v n)) w9 (ff_ar (ff_cnt v n) (ff_cnt v n)))) q9 + (ff_F (ff_rl (ff_it KP KL v) (ff_cnt v n)) q9 (ff_pp (ff_cnt v n) i j)).length)), .ref m3, .int (nI mn), .ref m4, .ref m5, .int (nI pn), .ref m6, .int (nI sn), .int co, .ref m7, .ref m8, .ref m9, .ref m10, .ref m11])), (m1, oI cI 60 KP), (m2, oI cI 60 KL), (m3, oI cI 5400 (upd (upd (upd RR (3 * ((ff_G (ff_cn (ff_rl (ff_it KP KL v) (ff_cnt v n)) w9 (ff_ar (ff_cnt v n) (ff_cnt v n)))) q9 + (ff_F (ff_rl (ff_it KP KL v) (ff_cnt v n)) q9 (ff_pp (ff_cnt v n) i j)).length)) (nI i)) (3 * ((ff_G (ff_cn (ff_rl (ff_it KP KL v) (ff_cnt v n)) w9 (ff_ar (ff_cnt v n) (ff_cnt v n)))) q9 + (ff_F (ff_rl (ff_it KP KL v) (ff_cnt v n)) q9 (ff_pp (ff_cnt v n) i j)).length) + 1) (nI j)) (3 * ((ff_G (ff_cn (ff_rl (ff_it KP KL v) (ff_cnt v n)) w9 (ff_ar (ff_cnt v n) (ff_cnt v n)))) q9 + (ff_F (ff_rl (ff_it KP KL v) (ff_cnt v n)) q9 (ff_pp (ff_cnt v n) i j)).length) + 2) (nI q9))), (m4, oI cI 12 KM), (m5, oI cI 12 KN), (m6, oI cI 60 KS), (m7, oI cI 60 KB), (m8, oI cI 12 KT), (m9, oI cI 61 KE), (m10, oI cI 61 KF), (m11, oI cI 61 KX)] H := hP
                            have hD : va_D A [(m0, .inr (6, [.int ((nI 0)), .int (nI n), .ref m1, .ref m2, .int (nI ((ff_G (ff_cn (ff_rl (ff_it KP KL v) (ff_cnt v n)) w9 (ff_ar (ff_cnt v n) (ff_cnt v n)))) q9 + (ff_F (ff_rl (ff_it KP KL v) (ff_cnt v n)) q9 (ff_pp (ff_cnt v n) i j)).length)), .ref m3, .int (nI mn), .ref m4, .ref m5, .int (nI pn), .ref m6, .int (nI sn), .int co, .ref m7, .ref m8, .ref m9, .ref m10, .ref m11])), (m1, oI cI 60 KP), (m2, oI cI 60 KL), (m3, oI cI 5400 (upd (upd (upd RR (3 * ((ff_G (ff_cn (ff_rl (ff_it KP KL v) (ff_cnt v n)) w9 (ff_ar (ff_cnt v n) (ff_cnt v n)))) q9 + (ff_F (ff_rl (ff_it KP KL v) (ff_cnt v n)) q9 (ff_pp (ff_cnt v n) i j)).length)) (nI i)) (3 * ((ff_G (ff_cn (ff_rl (ff_it KP KL v) (ff_cnt v n)) w9 (ff_ar (ff_cnt v n) (ff_cnt v n)))) q9 + (ff_F (ff_rl (ff_it KP KL v) (ff_cnt v n)) q9 (ff_pp (ff_cnt v n) i j)).length) + 1) (nI j)) (3 * ((ff_G (ff_cn (ff_rl (ff_it KP KL v) (ff_cnt v n)) w9 (ff_ar (ff_cnt v n) (ff_cnt v n)))) q9 + (ff_F (ff_rl (ff_it KP KL v) (ff_cnt v n)) q9 (ff_pp (ff_cnt v n) i j)).length) + 2) (nI q9))), (m4, oI cI 12 KM), (m5, oI cI 12 KN), (m6, oI cI 60 KS), (m7, oI cI 60 KB), (m8, oI cI 12 KT), (m9, oI cI 61 KE), (m10, oI cI 61 KF), (m11, oI cI 61 KX)] := hD
                            refine lv_aload_n hx hb dX6_repeats_177 rfl (lv_at hl 1 rfl) ?_
                            refine lv_dup hx hb dX6_repeats_178 rfl ?_
                            refine gf_X6_53 hx hb hg hown hK hP 0 rfl rfl dX6_repeats_179 ?_
                            refine lv_iconst (v := nI 1) hx hb dX6_repeats_182 (by decide) ?_
                            refine lv_iadd hx hb dX6_repeats_183 ?_
                            refine lv_asi (nI_add _ _) ?_
                            refine pf_X6_53 hx hb hg hown hK hP hD hS 0 rfl (Nat.le_of_ble_eq_true rfl) dX6_repeats_184 (fun H locs hP hD hS => ?_)
                            have hP : va_P D vwCl [(m0, .inr (6, [.int ((nI 0)), .int (nI n), .ref m1, .ref m2, .int (nI ((ff_G (ff_cn (ff_rl (ff_it KP KL v) (ff_cnt v n)) w9 (ff_ar (ff_cnt v n) (ff_cnt v n)))) q9 + (ff_F (ff_rl (ff_it KP KL v) (ff_cnt v n)) q9 (ff_pp (ff_cnt v n) i j)).length + 1)), .ref m3, .int (nI mn), .ref m4, .ref m5, .int (nI pn), .ref m6, .int (nI sn), .int co, .ref m7, .ref m8, .ref m9, .ref m10, .ref m11])), (m1, oI cI 60 KP), (m2, oI cI 60 KL), (m3, oI cI 5400 (upd (upd (upd RR (3 * ((ff_G (ff_cn (ff_rl (ff_it KP KL v) (ff_cnt v n)) w9 (ff_ar (ff_cnt v n) (ff_cnt v n)))) q9 + (ff_F (ff_rl (ff_it KP KL v) (ff_cnt v n)) q9 (ff_pp (ff_cnt v n) i j)).length)) (nI i)) (3 * ((ff_G (ff_cn (ff_rl (ff_it KP KL v) (ff_cnt v n)) w9 (ff_ar (ff_cnt v n) (ff_cnt v n)))) q9 + (ff_F (ff_rl (ff_it KP KL v) (ff_cnt v n)) q9 (ff_pp (ff_cnt v n) i j)).length) + 1) (nI j)) (3 * ((ff_G (ff_cn (ff_rl (ff_it KP KL v) (ff_cnt v n)) w9 (ff_ar (ff_cnt v n) (ff_cnt v n)))) q9 + (ff_F (ff_rl (ff_it KP KL v) (ff_cnt v n)) q9 (ff_pp (ff_cnt v n) i j)).length) + 2) (nI q9))), (m4, oI cI 12 KM), (m5, oI cI 12 KN), (m6, oI cI 60 KS), (m7, oI cI 60 KB), (m8, oI cI 12 KT), (m9, oI cI 61 KE), (m10, oI cI 61 KF), (m11, oI cI 61 KX)] H := hP
                            have hD : va_D A [(m0, .inr (6, [.int ((nI 0)), .int (nI n), .ref m1, .ref m2, .int (nI ((ff_G (ff_cn (ff_rl (ff_it KP KL v) (ff_cnt v n)) w9 (ff_ar (ff_cnt v n) (ff_cnt v n)))) q9 + (ff_F (ff_rl (ff_it KP KL v) (ff_cnt v n)) q9 (ff_pp (ff_cnt v n) i j)).length + 1)), .ref m3, .int (nI mn), .ref m4, .ref m5, .int (nI pn), .ref m6, .int (nI sn), .int co, .ref m7, .ref m8, .ref m9, .ref m10, .ref m11])), (m1, oI cI 60 KP), (m2, oI cI 60 KL), (m3, oI cI 5400 (upd (upd (upd RR (3 * ((ff_G (ff_cn (ff_rl (ff_it KP KL v) (ff_cnt v n)) w9 (ff_ar (ff_cnt v n) (ff_cnt v n)))) q9 + (ff_F (ff_rl (ff_it KP KL v) (ff_cnt v n)) q9 (ff_pp (ff_cnt v n) i j)).length)) (nI i)) (3 * ((ff_G (ff_cn (ff_rl (ff_it KP KL v) (ff_cnt v n)) w9 (ff_ar (ff_cnt v n) (ff_cnt v n)))) q9 + (ff_F (ff_rl (ff_it KP KL v) (ff_cnt v n)) q9 (ff_pp (ff_cnt v n) i j)).length) + 1) (nI j)) (3 * ((ff_G (ff_cn (ff_rl (ff_it KP KL v) (ff_cnt v n)) w9 (ff_ar (ff_cnt v n) (ff_cnt v n)))) q9 + (ff_F (ff_rl (ff_it KP KL v) (ff_cnt v n)) q9 (ff_pp (ff_cnt v n) i j)).length) + 2) (nI q9))), (m4, oI cI 12 KM), (m5, oI cI 12 KN), (m6, oI cI 60 KS), (m7, oI cI 60 KB), (m8, oI cI 12 KT), (m9, oI cI 61 KE), (m10, oI cI 61 KF), (m11, oI cI 61 KX)] := hD
                            refine lv_iinc (v := nI (j + 1)) (lv' := [(5, .int (nI (j + 1))), (6, .int (nI 1)), (0, .ref m0), (1, .int (nI v)), (2, .int (nI w9)), (3, .int (nI q9)), (4, .int (nI i))]) hx hb dX6_repeats_187 hl (k := 6) rfl (nI_1 _) (by decide) rfl (fun ls hl => ?_)
                            refine lv_goto (tgt := 74) hx hb dX6_repeats_190 (by decide) ?_
                            rw [← e9] at hP hD
                            exact ih_74 (j + 1) (_) _ _ _ (by omega) (by omega) (by rw [ff_pp_s (by omega)]; first | exact ff_rowsB_t hall hB hyes (by omega) (by omega) | exact ff_rowsB_f hB hno) (by omega) hP hD hS (lv_sub hl [2, 3, 4, 5, 6, 0] rfl)
                        · have c86 := mt (nz_eq (by omega)).mpr c86
                          refine lv_aload_n hx hb dX6_repeats_89 rfl (lv_at hl 0 rfl) ?_
                          refine lv_iload_n hx hb dX6_repeats_90 rfl (lv_at hl 1 rfl) ?_
                          refine lv_iload hx hb dX6_repeats_91 (lv_at hl 4 rfl) ?_
                          refine lv_iconst (v := nI 1) hx hb dX6_repeats_93 (by decide) ?_
                          refine lv_isub hx hb dX6_repeats_94 ?_
                          refine lv_asi (pk_sub (by omega)) ?_
                          refine Cp.callV (As := [.int (nI v), .int (nI (i - 1))]) (rest := []) (cv_X6_90 hg ⟨Nat.le_of_ble_eq_true rfl, Nat.le_of_ble_eq_true rfl⟩) (k_itemOf l D cI m0 m1 m2 m3 m4 m5 m6 m7 m8 m9 m10 m11 ((nI 0)) (co) (n) ((ff_G (ff_cn (ff_rl (ff_it KP KL v) (ff_cnt v n)) w9 (ff_ar (ff_cnt v n) (ff_cnt v n)))) q9 + (ff_F (ff_rl (ff_it KP KL v) (ff_cnt v n)) q9 (ff_pp (ff_cnt v n) i j)).length) (mn) (pn) (sn) (KP) (KL) v (i - 1) hv hn (by omega) hR) cx hK hP [0, 1, 2] rfl (rq := 0) rfl rfl rfl hS rfl hl.1 rfl (Nat.le_of_ble_eq_true rfl) dX6_repeats_95 ⟨Nat.zero_le _, Nat.zero_le _⟩ (fun H locs hP hS => ?_)
                          refine lv_aload_n hx hb dX6_repeats_98 rfl (lv_at hl 0 rfl) ?_
                          refine lv_iload_n hx hb dX6_repeats_99 rfl (lv_at hl 1 rfl) ?_
                          refine lv_iload hx hb dX6_repeats_100 (lv_at hl 5 rfl) ?_
                          refine lv_iconst (v := nI 1) hx hb dX6_repeats_102 (by decide) ?_
                          refine lv_isub hx hb dX6_repeats_103 ?_
                          refine lv_asi (pk_sub (by omega)) ?_
                          refine Cp.callV (As := [.int (nI v), .int (nI (j - 1))]) (rest := [.int ((ff_it (KP) (KL) v (i - 1)))]) (cv_X6_90 hg ⟨Nat.le_of_ble_eq_true rfl, Nat.le_of_ble_eq_true rfl⟩) (k_itemOf l D cI m0 m1 m2 m3 m4 m5 m6 m7 m8 m9 m10 m11 ((nI 0)) (co) (n) ((ff_G (ff_cn (ff_rl (ff_it KP KL v) (ff_cnt v n)) w9 (ff_ar (ff_cnt v n) (ff_cnt v n)))) q9 + (ff_F (ff_rl (ff_it KP KL v) (ff_cnt v n)) q9 (ff_pp (ff_cnt v n) i j)).length) (mn) (pn) (sn) (KP) (KL) v (j - 1) hv hn (by omega) hR) cx hK hP [0, 1, 2] rfl (rq := 0) rfl rfl rfl hS rfl hl.1 rfl (Nat.le_of_ble_eq_true rfl) dX6_repeats_104 ⟨Nat.zero_le _, Nat.zero_le _⟩ (fun H locs hP hS => ?_)
                          refine lv_icmp_eq (tgt := 114) hx hb dX6_repeats_107 (by decide) (fun c107 => ?_) (fun c107 => ?_)
                          · skip
                            have hno : ¬ (ff_rl (ff_it KP KL v) (ff_cnt v n)) i j = q9 := ff_rl_no2 c86 c107 (by omega)
                            have e9 : (ff_F (ff_rl (ff_it KP KL v) (ff_cnt v n)) q9 (ff_pp (ff_cnt v n) i (j + 1))).length = (ff_F (ff_rl (ff_it KP KL v) (ff_cnt v n)) q9 (ff_pp (ff_cnt v n) i j)).length := by rw [ff_pp_s (by omega), ff_F_f hno]
                            refine lv_iconst (v := nI 0) hx hb dX6_repeats_114 (by decide) ?_
                            refine lv_istore (lv' := [(6, .int (nI 0)), (0, .ref m0), (1, .int (nI v)), (2, .int (nI w9)), (3, .int (nI q9)), (4, .int (nI i)), (5, .int (nI j))]) hx hb dX6_repeats_115 hl (by decide) rfl (fun ls hl => ?_)
                            refine lv_iload hx hb dX6_repeats_117 (lv_at hl 0 rfl) ?_
                            refine lv_if_eq (tgt := 187) hx hb dX6_repeats_119 (by decide) (fun _ => ?_) (fun h9 => absurd (by decide) h9)
                            refine lv_iinc (v := nI (j + 1)) (lv' := [(5, .int (nI (j + 1))), (6, .int (nI 0)), (0, .ref m0), (1, .int (nI v)), (2, .int (nI w9)), (3, .int (nI q9)), (4, .int (nI i))]) hx hb dX6_repeats_187 hl (k := 6) rfl (nI_1 _) (by decide) rfl (fun ls hl => ?_)
                            refine lv_goto (tgt := 74) hx hb dX6_repeats_190 (by decide) ?_
                            rw [← e9] at hP hD
                            exact ih_74 (j + 1) (_) _ _ _ (by omega) (by omega) (by rw [ff_pp_s (by omega)]; first | exact ff_rowsB_t hall hB hyes (by omega) (by omega) | exact ff_rowsB_f hB hno) (by omega) hP hD hS (lv_sub hl [2, 3, 4, 5, 6, 0] rfl)
                          · skip
                            refine lv_iconst (v := nI 1) hx hb dX6_repeats_110 (by decide) ?_
                            refine lv_goto (tgt := 115) hx hb dX6_repeats_111 (by decide) ?_
                            refine lv_istore (lv' := [(6, .int (nI 1)), (0, .ref m0), (1, .int (nI v)), (2, .int (nI w9)), (3, .int (nI q9)), (4, .int (nI i)), (5, .int (nI j))]) hx hb dX6_repeats_115 hl (by decide) rfl (fun ls hl => ?_)
                            refine lv_iload hx hb dX6_repeats_117 (lv_at hl 0 rfl) ?_
                            refine lv_if_eq (tgt := 187) hx hb dX6_repeats_119 (by decide) (fun h9 => absurd h9 (by decide)) (fun _ => ?_)
                            refine lv_aload_n hx hb dX6_repeats_122 rfl (lv_at hl 1 rfl) ?_
                            refine lv_iload_n hx hb dX6_repeats_123 rfl (lv_at hl 2 rfl) ?_
                            refine lv_iload hx hb dX6_repeats_124 (lv_at hl 5 rfl) ?_
                            refine lv_iload hx hb dX6_repeats_126 (lv_at hl 6 rfl) ?_
                            refine Cp.callV (As := [.int (nI v), .int (nI i), .int (nI j)]) (rest := []) (cv_X6_96 hg ⟨Nat.le_of_ble_eq_true rfl, Nat.le_of_ble_eq_true rfl⟩) (k_common l D cI m0 m1 m2 m3 m4 m5 m6 m7 m8 m9 m10 m11 ((nI 0)) (co) (n) ((ff_G (ff_cn (ff_rl (ff_it KP KL v) (ff_cnt v n)) w9 (ff_ar (ff_cnt v n) (ff_cnt v n)))) q9 + (ff_F (ff_rl (ff_it KP KL v) (ff_cnt v n)) q9 (ff_pp (ff_cnt v n) i j)).length) (mn) (pn) (sn) (KP) (KL) v (i) (j) hv hn (by omega) (by omega) hR) cx hK hP [0, 1, 2] rfl (rq := 0) rfl rfl rfl hS rfl hl.1 rfl (Nat.le_of_ble_eq_true rfl) dX6_repeats_128 ⟨Nat.zero_le _, Nat.zero_le _⟩ (fun H locs hP hS => ?_)
                            have hrl := ff_run_le (ff_it KP KL v) ((ff_cnt v n) - j) i j
                            have hbg : i = 0 ∨ ¬ (ff_it KP KL v) (i - 1) = (ff_it KP KL v) (j - 1) := by first | exact Or.inl c86 | exact Or.inr c107
                            refine lv_iload_n hx hb dX6_repeats_131 rfl (lv_at hl 4 rfl) ?_
                            refine lv_icmp_ne (tgt := 187) hx hb dX6_repeats_132 (by decide) (fun c132 => ?_) (fun c132 => ?_)
                            · have c132 := mt (nI_eq (by omega) (by omega)).mpr c132
                              have hno : ¬ (ff_rl (ff_it KP KL v) (ff_cnt v n)) i j = q9 := ff_rl_no hbg c132
                              have e9 : (ff_F (ff_rl (ff_it KP KL v) (ff_cnt v n)) q9 (ff_pp (ff_cnt v n) i (j + 1))).length = (ff_F (ff_rl (ff_it KP KL v) (ff_cnt v n)) q9 (ff_pp (ff_cnt v n) i j)).length := by rw [ff_pp_s (by omega), ff_F_f hno]
                              refine lv_iinc (v := nI (j + 1)) (lv' := [(5, .int (nI (j + 1))), (6, .int (nI 1)), (0, .ref m0), (1, .int (nI v)), (2, .int (nI w9)), (3, .int (nI q9)), (4, .int (nI i))]) hx hb dX6_repeats_187 hl (k := 6) rfl (nI_1 _) (by decide) rfl (fun ls hl => ?_)
                              refine lv_goto (tgt := 74) hx hb dX6_repeats_190 (by decide) ?_
                              rw [← e9] at hP hD
                              exact ih_74 (j + 1) (_) _ _ _ (by omega) (by omega) (by rw [ff_pp_s (by omega)]; first | exact ff_rowsB_t hall hB hyes (by omega) (by omega) | exact ff_rowsB_f hB hno) (by omega) hP hD hS (lv_sub hl [2, 3, 4, 5, 6, 0] rfl)
                            · have c132 := (nI_eq (by omega) (by omega)).mp c132
                              have hyes : (ff_rl (ff_it KP KL v) (ff_cnt v n)) i j = q9 := ff_rl_yes hbg c132
                              obtain ⟨rest9, hall⟩ := ff_pp_pre (n := (ff_cnt v n)) (i := i) (j := j + 1) (by omega) (by omega)
                              rw [ff_pp_s (by omega)] at hall
                              have h900 := ff_tot_900 (ff_it KP KL v) (n := (ff_cnt v n)) w9 (by omega)
                              have hlt9 := ff_place_lt (r := (ff_rl (ff_it KP KL v) (ff_cnt v n))) (least := w9) hall (by omega) (by omega)
                              rw [hyes] at hlt9
                              have e9 : (ff_G (ff_cn (ff_rl (ff_it KP KL v) (ff_cnt v n)) w9 (ff_ar (ff_cnt v n) (ff_cnt v n)))) q9 + (ff_F (ff_rl (ff_it KP KL v) (ff_cnt v n)) q9 (ff_pp (ff_cnt v n) i (j + 1))).length = (ff_G (ff_cn (ff_rl (ff_it KP KL v) (ff_cnt v n)) w9 (ff_ar (ff_cnt v n) (ff_cnt v n)))) q9 + (ff_F (ff_rl (ff_it KP KL v) (ff_cnt v n)) q9 (ff_pp (ff_cnt v n) i j)).length + 1 := by rw [ff_pp_s (by omega), ff_F_t hyes, List.length_append]; rfl
                              refine lv_aload_n hx hb dX6_repeats_135 rfl (lv_at hl 1 rfl) ?_
                              refine gf_X6_16 hx hb hg hown hK hP 0 rfl rfl dX6_repeats_136 ?_
                              refine lv_iconst (v := nI 3) hx hb dX6_repeats_139 (by decide) ?_
                              refine lv_aload_n hx hb dX6_repeats_140 rfl (lv_at hl 1 rfl) ?_
                              refine gf_X6_53 hx hb hg hown hK hP 0 rfl rfl dX6_repeats_141 ?_
                              refine lv_imul hx hb dX6_repeats_144 ?_
                              refine lv_asi (pk_mul _ _) ?_
                              refine lv_iload hx hb dX6_repeats_145 (lv_at hl 5 rfl) ?_
                              refine ast hx hb hK hP hD hS 3 rfl rfl (by omega) dX6_repeats_147 (fun H locs hP hD hS => ?_)
                              have hP : va_P D vwCl [(m0, .inr (6, [.int ((nI 0)), .int (nI n), .ref m1, .ref m2, .int (nI ((ff_G (ff_cn (ff_rl (ff_it KP KL v) (ff_cnt v n)) w9 (ff_ar (ff_cnt v n) (ff_cnt v n)))) q9 + (ff_F (ff_rl (ff_it KP KL v) (ff_cnt v n)) q9 (ff_pp (ff_cnt v n) i j)).length)), .ref m3, .int (nI mn), .ref m4, .ref m5, .int (nI pn), .ref m6, .int (nI sn), .int co, .ref m7, .ref m8, .ref m9, .ref m10, .ref m11])), (m1, oI cI 60 KP), (m2, oI cI 60 KL), (m3, oI cI 5400 (upd RR (3 * ((ff_G (ff_cn (ff_rl (ff_it KP KL v) (ff_cnt v n)) w9 (ff_ar (ff_cnt v n) (ff_cnt v n)))) q9 + (ff_F (ff_rl (ff_it KP KL v) (ff_cnt v n)) q9 (ff_pp (ff_cnt v n) i j)).length)) (nI i))), (m4, oI cI 12 KM), (m5, oI cI 12 KN), (m6, oI cI 60 KS), (m7, oI cI 60 KB), (m8, oI cI 12 KT), (m9, oI cI 61 KE), (m10, oI cI 61 KF), (m11, oI cI 61 KX)] H := hP
                              have hD : va_D A [(m0, .inr (6, [.int ((nI 0)), .int (nI n), .ref m1, .ref m2, .int (nI ((ff_G (ff_cn (ff_rl (ff_it KP KL v) (ff_cnt v n)) w9 (ff_ar (ff_cnt v n) (ff_cnt v n)))) q9 + (ff_F (ff_rl (ff_it KP KL v) (ff_cnt v n)) q9 (ff_pp (ff_cnt v n) i j)).length)), .ref m3, .int (nI mn), .ref m4, .ref m5, .int (nI pn), .ref m6, .int (nI sn), .int co, .ref m7, .ref m8, .ref m9, .ref m10, .ref m11])), (m1, oI cI 60 KP), (m2, oI cI 60 KL), (m3, oI cI 5400 (upd RR (3 * ((ff_G (ff_cn (ff_rl (ff_it KP KL v) (ff_cnt v n)) w9 (ff_ar (ff_cnt v n) (ff_cnt v n)))) q9 + (ff_F (ff_rl (ff_it KP KL v) (ff_cnt v n)) q9 (ff_pp (ff_cnt v n) i j)).length)) (nI i))), (m4, oI cI 12 KM), (m5, oI cI 12 KN), (m6, oI cI 60 KS), (m7, oI cI 60 KB), (m8, oI cI 12 KT), (m9, oI cI 61 KE), (m10, oI cI 61 KF), (m11, oI cI 61 KX)] := hD
                              refine lv_aload_n hx hb dX6_repeats_148 rfl (lv_at hl 1 rfl) ?_
                              refine gf_X6_16 hx hb hg hown hK hP 0 rfl rfl dX6_repeats_149 ?_
                              refine lv_iconst (v := nI 3) hx hb dX6_repeats_152 (by decide) ?_
                              refine lv_aload_n hx hb dX6_repeats_153 rfl (lv_at hl 1 rfl) ?_
                              refine gf_X6_53 hx hb hg hown hK hP 0 rfl rfl dX6_repeats_154 ?_
                              refine lv_imul hx hb dX6_repeats_157 ?_
                              refine lv_asi (pk_mul _ _) ?_
                              refine lv_iconst (v := nI 1) hx hb dX6_repeats_158 (by decide) ?_
                              refine lv_iadd hx hb dX6_repeats_159 ?_
                              refine lv_asi (nI_add _ _) ?_
                              refine lv_iload hx hb dX6_repeats_160 (lv_at hl 6 rfl) ?_
                              refine ast hx hb hK hP hD hS 3 rfl rfl (by omega) dX6_repeats_162 (fun H locs hP hD hS => ?_)
                              have hP : va_P D vwCl [(m0, .inr (6, [.int ((nI 0)), .int (nI n), .ref m1, .ref m2, .int (nI ((ff_G (ff_cn (ff_rl (ff_it KP KL v) (ff_cnt v n)) w9 (ff_ar (ff_cnt v n) (ff_cnt v n)))) q9 + (ff_F (ff_rl (ff_it KP KL v) (ff_cnt v n)) q9 (ff_pp (ff_cnt v n) i j)).length)), .ref m3, .int (nI mn), .ref m4, .ref m5, .int (nI pn), .ref m6, .int (nI sn), .int co, .ref m7, .ref m8, .ref m9, .ref m10, .ref m11])), (m1, oI cI 60 KP), (m2, oI cI 60 KL), (m3, oI cI 5400 (upd (upd RR (3 * ((ff_G (ff_cn (ff_rl (ff_it KP KL v) (ff_cnt v n)) w9 (ff_ar (ff_cnt v n) (ff_cnt v n)))) q9 + (ff_F (ff_rl (ff_it KP KL v) (ff_cnt v n)) q9 (ff_pp (ff_cnt v n) i j)).length)) (nI i)) (3 * ((ff_G (ff_cn (ff_rl (ff_it KP KL v) (ff_cnt v n)) w9 (ff_ar (ff_cnt v n) (ff_cnt v n)))) q9 + (ff_F (ff_rl (ff_it KP KL v) (ff_cnt v n)) q9 (ff_pp (ff_cnt v n) i j)).length) + 1) (nI j))), (m4, oI cI 12 KM), (m5, oI cI 12 KN), (m6, oI cI 60 KS), (m7, oI cI 60 KB), (m8, oI cI 12 KT), (m9, oI cI 61 KE), (m10, oI cI 61 KF), (m11, oI cI 61 KX)] H := hP
                              have hD : va_D A [(m0, .inr (6, [.int ((nI 0)), .int (nI n), .ref m1, .ref m2, .int (nI ((ff_G (ff_cn (ff_rl (ff_it KP KL v) (ff_cnt v n)) w9 (ff_ar (ff_cnt v n) (ff_cnt v n)))) q9 + (ff_F (ff_rl (ff_it KP KL v) (ff_cnt v n)) q9 (ff_pp (ff_cnt v n) i j)).length)), .ref m3, .int (nI mn), .ref m4, .ref m5, .int (nI pn), .ref m6, .int (nI sn), .int co, .ref m7, .ref m8, .ref m9, .ref m10, .ref m11])), (m1, oI cI 60 KP), (m2, oI cI 60 KL), (m3, oI cI 5400 (upd (upd RR (3 * ((ff_G (ff_cn (ff_rl (ff_it KP KL v) (ff_cnt v n)) w9 (ff_ar (ff_cnt v n) (ff_cnt v n)))) q9 + (ff_F (ff_rl (ff_it KP KL v) (ff_cnt v n)) q9 (ff_pp (ff_cnt v n) i j)).length)) (nI i)) (3 * ((ff_G (ff_cn (ff_rl (ff_it KP KL v) (ff_cnt v n)) w9 (ff_ar (ff_cnt v n) (ff_cnt v n)))) q9 + (ff_F (ff_rl (ff_it KP KL v) (ff_cnt v n)) q9 (ff_pp (ff_cnt v n) i j)).length) + 1) (nI j))), (m4, oI cI 12 KM), (m5, oI cI 12 KN), (m6, oI cI 60 KS), (m7, oI cI 60 KB), (m8, oI cI 12 KT), (m9, oI cI 61 KE), (m10, oI cI 61 KF), (m11, oI cI 61 KX)] := hD
                              refine lv_aload_n hx hb dX6_repeats_163 rfl (lv_at hl 1 rfl) ?_
                              refine gf_X6_16 hx hb hg hown hK hP 0 rfl rfl dX6_repeats_164 ?_
                              refine lv_iconst (v := nI 3) hx hb dX6_repeats_167 (by decide) ?_
                              refine lv_aload_n hx hb dX6_repeats_168 rfl (lv_at hl 1 rfl) ?_
                              refine gf_X6_53 hx hb hg hown hK hP 0 rfl rfl dX6_repeats_169 ?_
                              refine lv_imul hx hb dX6_repeats_172 ?_
                              refine lv_asi (pk_mul _ _) ?_
                              refine lv_iconst (v := nI 2) hx hb dX6_repeats_173 (by decide) ?_
                              refine lv_iadd hx hb dX6_repeats_174 ?_
                              refine lv_asi (nI_add _ _) ?_
                              refine lv_iload_n hx hb dX6_repeats_175 rfl (lv_at hl 4 rfl) ?_
                              refine ast hx hb hK hP hD hS 3 rfl rfl (by omega) dX6_repeats_176 (fun H locs hP hD hS => ?_)
                              have hP : va_P D vwCl [(m0, .inr (6, [.int ((nI 0)), .int (nI n), .ref m1, .ref m2, .int (nI ((ff_G (ff_cn (ff_rl (ff_it KP KL v) (ff_cnt v n)) w9 (ff_ar (ff_cnt v n) (ff_cnt v n)))) q9 + (ff_F (ff_rl (ff_it KP KL v) (ff_cnt v n)) q9 (ff_pp (ff_cnt v n) i j)).length)), .ref m3, .int (nI mn), .ref m4, .ref m5, .int (nI pn), .ref m6, .int (nI sn), .int co, .ref m7, .ref m8, .ref m9, .ref m10, .ref m11])), (m1, oI cI 60 KP), (m2, oI cI 60 KL), (m3, oI cI 5400 (upd (upd (upd RR (3 * ((ff_G (ff_cn (ff_rl (ff_it KP KL v) (ff_cnt v n)) w9 (ff_ar (ff_cnt v n) (ff_cnt v n)))) q9 + (ff_F (ff_rl (ff_it KP KL v) (ff_cnt v n)) q9 (ff_pp (ff_cnt v n) i j)).length)) (nI i)) (3 * ((ff_G (ff_cn (ff_rl (ff_it KP KL v) (ff_cnt v n)) w9 (ff_ar (ff_cnt v n) (ff_cnt v n)))) q9 + (ff_F (ff_rl (ff_it KP KL v) (ff_cnt v n)) q9 (ff_pp (ff_cnt v n) i j)).length) + 1) (nI j)) (3 * ((ff_G (ff_cn (ff_rl (ff_it KP KL v) (ff_cnt v n)) w9 (ff_ar (ff_cnt v n) (ff_cnt v n)))) q9 + (ff_F (ff_rl (ff_it KP KL v) (ff_cnt v n)) q9 (ff_pp (ff_cnt v n) i j)).length) + 2) (nI q9))), (m4, oI cI 12 KM), (m5, oI cI 12 KN), (m6, oI cI 60 KS), (m7, oI cI 60 KB), (m8, oI cI 12 KT), (m9, oI cI 61 KE), (m10, oI cI 61 KF), (m11, oI cI 61 KX)] H := hP
                              have hD : va_D A [(m0, .inr (6, [.int ((nI 0)), .int (nI n), .ref m1, .ref m2, .int (nI ((ff_G (ff_cn (ff_rl (ff_it KP KL v) (ff_cnt v n)) w9 (ff_ar (ff_cnt v n) (ff_cnt v n)))) q9 + (ff_F (ff_rl (ff_it KP KL v) (ff_cnt v n)) q9 (ff_pp (ff_cnt v n) i j)).length)), .ref m3, .int (nI mn), .ref m4, .ref m5, .int (nI pn), .ref m6, .int (nI sn), .int co, .ref m7, .ref m8, .ref m9, .ref m10, .ref m11])), (m1, oI cI 60 KP), (m2, oI cI 60 KL), (m3, oI cI 5400 (upd (upd (upd RR (3 * ((ff_G (ff_cn (ff_rl (ff_it KP KL v) (ff_cnt v n)) w9 (ff_ar (ff_cnt v n) (ff_cnt v n)))) q9 + (ff_F (ff_rl (ff_it KP KL v) (ff_cnt v n)) q9 (ff_pp (ff_cnt v n) i j)).length)) (nI i)) (3 * ((ff_G (ff_cn (ff_rl (ff_it KP KL v) (ff_cnt v n)) w9 (ff_ar (ff_cnt v n) (ff_cnt v n)))) q9 + (ff_F (ff_rl (ff_it KP KL v) (ff_cnt v n)) q9 (ff_pp (ff_cnt v n) i j)).length) + 1) (nI j)) (3 * ((ff_G (ff_cn (ff_rl (ff_it KP KL v) (ff_cnt v n)) w9 (ff_ar (ff_cnt v n) (ff_cnt v n)))) q9 + (ff_F (ff_rl (ff_it KP KL v) (ff_cnt v n)) q9 (ff_pp (ff_cnt v n) i j)).length) + 2) (nI q9))), (m4, oI cI 12 KM), (m5, oI cI 12 KN), (m6, oI cI 60 KS), (m7, oI cI 60 KB), (m8, oI cI 12 KT), (m9, oI cI 61 KE), (m10, oI cI 61 KF), (m11, oI cI 61 KX)] := hD
                              refine lv_aload_n hx hb dX6_repeats_177 rfl (lv_at hl 1 rfl) ?_
                              refine lv_dup hx hb dX6_repeats_178 rfl ?_
                              refine gf_X6_53 hx hb hg hown hK hP 0 rfl rfl dX6_repeats_179 ?_
                              refine lv_iconst (v := nI 1) hx hb dX6_repeats_182 (by decide) ?_
                              refine lv_iadd hx hb dX6_repeats_183 ?_
                              refine lv_asi (nI_add _ _) ?_
                              refine pf_X6_53 hx hb hg hown hK hP hD hS 0 rfl (Nat.le_of_ble_eq_true rfl) dX6_repeats_184 (fun H locs hP hD hS => ?_)
                              have hP : va_P D vwCl [(m0, .inr (6, [.int ((nI 0)), .int (nI n), .ref m1, .ref m2, .int (nI ((ff_G (ff_cn (ff_rl (ff_it KP KL v) (ff_cnt v n)) w9 (ff_ar (ff_cnt v n) (ff_cnt v n)))) q9 + (ff_F (ff_rl (ff_it KP KL v) (ff_cnt v n)) q9 (ff_pp (ff_cnt v n) i j)).length + 1)), .ref m3, .int (nI mn), .ref m4, .ref m5, .int (nI pn), .ref m6, .int (nI sn), .int co, .ref m7, .ref m8, .ref m9, .ref m10, .ref m11])), (m1, oI cI 60 KP), (m2, oI cI 60 KL), (m3, oI cI 5400 (upd (upd (upd RR (3 * ((ff_G (ff_cn (ff_rl (ff_it KP KL v) (ff_cnt v n)) w9 (ff_ar (ff_cnt v n) (ff_cnt v n)))) q9 + (ff_F (ff_rl (ff_it KP KL v) (ff_cnt v n)) q9 (ff_pp (ff_cnt v n) i j)).length)) (nI i)) (3 * ((ff_G (ff_cn (ff_rl (ff_it KP KL v) (ff_cnt v n)) w9 (ff_ar (ff_cnt v n) (ff_cnt v n)))) q9 + (ff_F (ff_rl (ff_it KP KL v) (ff_cnt v n)) q9 (ff_pp (ff_cnt v n) i j)).length) + 1) (nI j)) (3 * ((ff_G (ff_cn (ff_rl (ff_it KP KL v) (ff_cnt v n)) w9 (ff_ar (ff_cnt v n) (ff_cnt v n)))) q9 + (ff_F (ff_rl (ff_it KP KL v) (ff_cnt v n)) q9 (ff_pp (ff_cnt v n) i j)).length) + 2) (nI q9))), (m4, oI cI 12 KM), (m5, oI cI 12 KN), (m6, oI cI 60 KS), (m7, oI cI 60 KB), (m8, oI cI 12 KT), (m9, oI cI 61 KE), (m10, oI cI 61 KF), (m11, oI cI 61 KX)] H := hP
                              have hD : va_D A [(m0, .inr (6, [.int ((nI 0)), .int (nI n), .ref m1, .ref m2, .int (nI ((ff_G (ff_cn (ff_rl (ff_it KP KL v) (ff_cnt v n)) w9 (ff_ar (ff_cnt v n) (ff_cnt v n)))) q9 + (ff_F (ff_rl (ff_it KP KL v) (ff_cnt v n)) q9 (ff_pp (ff_cnt v n) i j)).length + 1)), .ref m3, .int (nI mn), .ref m4, .ref m5, .int (nI pn), .ref m6, .int (nI sn), .int co, .ref m7, .ref m8, .ref m9, .ref m10, .ref m11])), (m1, oI cI 60 KP), (m2, oI cI 60 KL), (m3, oI cI 5400 (upd (upd (upd RR (3 * ((ff_G (ff_cn (ff_rl (ff_it KP KL v) (ff_cnt v n)) w9 (ff_ar (ff_cnt v n) (ff_cnt v n)))) q9 + (ff_F (ff_rl (ff_it KP KL v) (ff_cnt v n)) q9 (ff_pp (ff_cnt v n) i j)).length)) (nI i)) (3 * ((ff_G (ff_cn (ff_rl (ff_it KP KL v) (ff_cnt v n)) w9 (ff_ar (ff_cnt v n) (ff_cnt v n)))) q9 + (ff_F (ff_rl (ff_it KP KL v) (ff_cnt v n)) q9 (ff_pp (ff_cnt v n) i j)).length) + 1) (nI j)) (3 * ((ff_G (ff_cn (ff_rl (ff_it KP KL v) (ff_cnt v n)) w9 (ff_ar (ff_cnt v n) (ff_cnt v n)))) q9 + (ff_F (ff_rl (ff_it KP KL v) (ff_cnt v n)) q9 (ff_pp (ff_cnt v n) i j)).length) + 2) (nI q9))), (m4, oI cI 12 KM), (m5, oI cI 12 KN), (m6, oI cI 60 KS), (m7, oI cI 60 KB), (m8, oI cI 12 KT), (m9, oI cI 61 KE), (m10, oI cI 61 KF), (m11, oI cI 61 KX)] := hD
                              refine lv_iinc (v := nI (j + 1)) (lv' := [(5, .int (nI (j + 1))), (6, .int (nI 1)), (0, .ref m0), (1, .int (nI v)), (2, .int (nI w9)), (3, .int (nI q9)), (4, .int (nI i))]) hx hb dX6_repeats_187 hl (k := 6) rfl (nI_1 _) (by decide) rfl (fun ls hl => ?_)
                              refine lv_goto (tgt := 74) hx hb dX6_repeats_190 (by decide) ?_
                              rw [← e9] at hP hD
                              exact ih_74 (j + 1) (_) _ _ _ (by omega) (by omega) (by rw [ff_pp_s (by omega)]; first | exact ff_rowsB_t hall hB hyes (by omega) (by omega) | exact ff_rowsB_f hB hno) (by omega) hP hD hS (lv_sub hl [2, 3, 4, 5, 6, 0] rfl)
                  exact lp_74 (_ + 1) (i + 1) (RR) _ _ _ (Nat.le_refl _) (by omega) (by rw [ff_pp_0]; exact hB) (Nat.lt_succ_self _) hP hD hS (lv_sub hl [1, 2, 3, 4, 5, 0] rfl)
            exact lp_58 (_ + 1) (0) (RR) _ _ _ (Nat.zero_le _) (hB) (Nat.lt_succ_self _) hP hD hS (lv_sub hl [1, 2, 3, 4, 0] rfl)
      exact lp_50 (_ + 1) ((ff_cnt v n)) (KR) _ _ _ (Nat.le_refl _) (Or.inr rfl) (ff_rowsB_0 hrlc) (Nat.lt_succ_self _) hP hD hS (lv_sub hl [1, 2, 3, 0] rfl)
