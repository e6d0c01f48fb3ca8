theorem ff_off {w : Int32} (h : ¬ okOf w) : w.toInt < 0 ∨ 4 < w.toInt := by
  apply Decidable.byContradiction
  intro q
  refine h ⟨w.toInt.toNat, by omega, Int32.toInt_inj.mp ?_⟩
  rw [nI_toInt (by omega)]
  omega
set_option maxHeartbeats 4000000 in
set_option maxRecDepth 100000 in
theorem t_alike (l : Launch) (hst : l.stackTraces = false) (D : va_G) (cI : ClassId) (a0 n0 n1 n2 t0 t1 t2 s0 s1 s2 r0 r1 g0 g1 g2 p0 p1 q0 q1 q2 q3 q4 : Nat) (nn tn sn gn pn qn : Nat) (rz qc : Int32) (NP NL TP TL SP SL RF GP GS PS QS lc fw fe : Nat → Int32) (hn : nn ≤ 60) (ht : tn ≤ 12) (vw i j q : Int32) : Ct l yX5_alike cX5_alike 6 6 D (tI cI) [.ref a0, .int vw, .int i, .int j, .int q] [(a0, .inr (5, [.ref n0, .ref t0, .ref s0, .ref r0, .ref g0, .ref p0, .ref q0])), (n0, .inr (1, [.ref n1, .ref n2, .int (nI nn)])), (n1, oI cI 60 NP), (n2, oI cI 60 NL), (t0, .inr (1, [.ref t1, .ref t2, .int (nI tn)])), (t1, oI cI 60 TP), (t2, oI cI 60 TL), (s0, .inr (1, [.ref s1, .ref s2, .int (nI sn)])), (s1, oI cI 60 SP), (s2, oI cI 60 SL), (r0, .inr (0, [.ref r1, .int rz])), (r1, oI cI 60 RF), (g0, .inr (4, [.ref g1, .ref g2, .int (nI gn)])), (g1, oI cI 2700 GP), (g2, oI cI 60 GS), (p0, .inr (3, [.ref p1, .int (nI pn)])), (p1, oI cI 60 PS), (q0, .inr (2, [.ref q1, .int (nI qn), .int qc, .ref q2, .ref q3, .ref q4])), (q1, oI cI 60 QS), (q2, oI cI 61 lc), (q3, oI cI 61 fw), (q4, oI cI 61 fe)] (S := ff_S) (fun r u => okAl nn vw i j q ∧ ¬ q = 0 ∧ r = nI (100 * ff_same (ff_fill (ff_it NP NL (cl vw)) RF (ff_cnt (cl vw) nn)) (cl i) (cl j) (cl q)) / q ∧ u = (ff_N (nn) (tn) (sn) (gn) (pn) (qn), ff_Z (nI (ff_cnt (cl vw) nn)) (qc), ff_A14 (NP) (NL) (TP) (TL) (SP) (SL) (ff_fill (ff_it NP NL (cl vw)) RF (ff_cnt (cl vw) nn)) (GP) (GS) (PS) (QS) (lc) (fw) (fe))) (fun u => [(a0, .inr (5, [.ref n0, .ref t0, .ref s0, .ref r0, .ref g0, .ref p0, .ref q0])), (n0, .inr (1, [.ref n1, .ref n2, .int (nI (u.1 0))])), (n1, oI cI 60 (u.2.2 0)), (n2, oI cI 60 (u.2.2 1)), (t0, .inr (1, [.ref t1, .ref t2, .int (nI (u.1 1))])), (t1, oI cI 60 (u.2.2 2)), (t2, oI cI 60 (u.2.2 3)), (s0, .inr (1, [.ref s1, .ref s2, .int (nI (u.1 2))])), (s1, oI cI 60 (u.2.2 4)), (s2, oI cI 60 (u.2.2 5)), (r0, .inr (0, [.ref r1, .int ((u.2.1 0))])), (r1, oI cI 60 (u.2.2 6)), (g0, .inr (4, [.ref g1, .ref g2, .int (nI (u.1 3))])), (g1, oI cI 2700 (u.2.2 7)), (g2, oI cI 60 (u.2.2 8)), (p0, .inr (3, [.ref p1, .int (nI (u.1 4))])), (p1, oI cI 60 (u.2.2 9)), (q0, .inr (2, [.ref q1, .int (nI (u.1 5)), .int ((u.2.1 1)), .ref q2, .ref q3, .ref q4])), (q1, oI cI 60 (u.2.2 10)), (q2, oI cI 61 (u.2.2 11)), (q3, oI cI 61 (u.2.2 12)), (q4, oI cI 61 (u.2.2 13))]) (fun E => (E = xIA ∧ ¬ okAl nn vw i j q) ∨ (E = xAR ∧ okAl nn vw i j q ∧ q = 0)) := by
  refine Ct.of (lv := [(0, .ref a0), (1, .int vw), (2, .int i), (3, .int j), (4, .int q)]) hst (by decide) (by decide +kernel) rfl (Nat.le_of_ble_eq_true rfl) rfl ?_
  intro p e s m args below meth c Q A cx hK hP hD hA hret hthr ls hl
  obtain ⟨hx, hb, hml, hown, hg⟩ := id cx
  have hS : va_S A s.heap s.heap [] := va_S.rf
  refine lv_iload_n hx hb dX5_alike_0 rfl (lv_at hl 1 rfl) ?_
  refine Cp.callS (As := [.int vw]) (rest := []) (cv_X5_82 hg ⟨Nat.le_of_ble_eq_true rfl, Nat.le_of_ble_eq_true rfl⟩) (k_isView l D cI [] vw) cx hK hP [] rfl hS rfl hl.1 rfl (Nat.le_of_ble_eq_true rfl) dX5_alike_1 ⟨Nat.zero_le _, Nat.zero_le _⟩ (fun H locs hP hS => ?_)
  refine lv_if_eq (tgt := 12) hx hb dX5_alike_4 (by decide) (fun c4 => ?_) (fun c4 => ?_)
  · have c4 := bI_z.mp c4
    exact hthr _ _ 12 _ 64 114 68 _ _ ff_E_IA (List.mem_of_getElem? (i := 7) rfl) (Or.inl ⟨rfl, fun h => by obtain ⟨v9, hv9, e9, a9, b9, m9, e1, e2, e3, h1, h2⟩ := h; first | exact c4 (by rw [e9]; exact ff_le hv9 (by decide)) | (obtain rfl := nI_inj (by omega) (by omega) e9; have hcn := ff_cnt_le v nn; exact c9 (by rw [e3]; exact nI_pos' (by omega)))⟩) hP hS hl.1 dX5_alike_12 dX5_alike_15 dX5_alike_16 dX5_alike_18 dX5_alike_21
  · have c4 := bI_nz.mp c4
    obtain ⟨v, hv, rfl⟩ := ff_of (by decide) c4
    refine lv_iload hx hb dX5_alike_7 (lv_at hl 4 rfl) ?_
    refine lv_if_ge (tgt := 22) hx hb dX5_alike_9 (by decide) (fun c9 => ?_) (fun c9 => ?_)
    · skip
      have c9 := i_nlt.mpr c9
      refine lv_aload_n hx hb dX5_alike_22 rfl (lv_at hl 0 rfl) ?_
      refine gf_X5_10 hx hb hg hown hK hP 0 rfl rfl dX5_alike_23 ?_
      refine lv_iload_n hx hb dX5_alike_26 rfl (lv_at hl 1 rfl) ?_
      refine Cp.callS (As := [.ref n0, .int (nI v)]) (rest := []) (cv_X5_88 hg ⟨Nat.le_of_ble_eq_true rfl, Nat.le_of_ble_eq_true rfl⟩) (k_X0_countIn l D cI n0 n1 n2 nn NP NL v hv hn) cx hK hP [1, 2, 3] rfl hS rfl hl.1 rfl (Nat.le_of_ble_eq_true rfl) dX5_alike_27 ⟨Nat.zero_le _, Nat.zero_le _⟩ (fun H locs hP hS => ?_)
      have hcn := ff_cnt_le v nn
      refine lv_iload hx hb dX5_alike_30 (lv_at hl 4 rfl) ?_
      refine lv_isub hx hb dX5_alike_32 ?_
      refine lv_istore (lv' := [(5, .int ((nI (ff_cnt v nn) - q))), (0, .ref a0), (1, .int (nI v)), (2, .int i), (3, .int j), (4, .int q)]) hx hb dX5_alike_33 hl (by decide) rfl (fun ls hl => ?_)
      refine lv_iload_n hx hb dX5_alike_35 rfl (lv_at hl 3 rfl) ?_
      refine lv_iconst (v := nI 0) hx hb dX5_alike_36 (by decide) ?_
      refine lv_iload hx hb dX5_alike_37 (lv_at hl 0 rfl) ?_
      refine Cp.callS (As := [.int i, .int (nI 0), .int ((nI (ff_cnt v nn) - q))]) (rest := []) (cv_X5_60 hg ⟨Nat.le_of_ble_eq_true rfl, Nat.le_of_ble_eq_true rfl⟩) (k_isWithin l D cI [] (i) (nI 0) ((nI (ff_cnt v nn) - q))) cx hK hP [] rfl hS rfl hl.1 rfl (Nat.le_of_ble_eq_true rfl) dX5_alike_39 ⟨Nat.zero_le _, Nat.zero_le _⟩ (fun H locs hP hS => ?_)
      refine lv_if_eq (tgt := 55) hx hb dX5_alike_42 (by decide) (fun c42 => ?_) (fun c42 => ?_)
      · have c42 := bI_z.mp c42
        exact hthr _ _ 55 _ 64 124 68 _ _ ff_E_IA (List.mem_of_getElem? (i := 8) rfl) (Or.inl ⟨rfl, fun h => by obtain ⟨v9, hv9, e9, a9, b9, m9, e1, e2, e3, h1, h2⟩ := h; obtain rfl := nI_inj (by omega) (by omega) e9; first | exact c42 (by rw [e1, e3]; exact ff_le3 h1 (by omega)) | exact c52 (by rw [e2, e3]; exact ff_le3 h2 (by omega))⟩) hP hS hl.1 dX5_alike_55 dX5_alike_58 dX5_alike_59 dX5_alike_61 dX5_alike_64
      · have c42 := bI_nz.mp c42
        refine lv_iload_n hx hb dX5_alike_45 rfl (lv_at hl 4 rfl) ?_
        refine lv_iconst (v := nI 0) hx hb dX5_alike_46 (by decide) ?_
        refine lv_iload hx hb dX5_alike_47 (lv_at hl 0 rfl) ?_
        refine Cp.callS (As := [.int j, .int (nI 0), .int ((nI (ff_cnt v nn) - q))]) (rest := []) (cv_X5_60 hg ⟨Nat.le_of_ble_eq_true rfl, Nat.le_of_ble_eq_true rfl⟩) (k_isWithin l D cI [] (j) (nI 0) ((nI (ff_cnt v nn) - q))) cx hK hP [] rfl hS rfl hl.1 rfl (Nat.le_of_ble_eq_true rfl) dX5_alike_49 ⟨Nat.zero_le _, Nat.zero_le _⟩ (fun H locs hP hS => ?_)
        refine lv_if_ne (tgt := 65) hx hb dX5_alike_52 (by decide) (fun c52 => ?_) (fun c52 => ?_)
        · have c52 := bI_nz.mp c52
          obtain ⟨b1, b3, rfl, rfl, hb1⟩ := ff_of3 (by omega) c9 c42
          obtain ⟨b2, b4, rfl, e9, hb2⟩ := ff_of3 (by omega) c9 c52
          obtain rfl := nI_inj (by omega) (by omega) e9
          refine lv_iload hx hb dX5_alike_65 (lv_at hl 5 rfl) ?_
          refine lv_if_ne (tgt := 80) hx hb dX5_alike_67 (by decide) (fun c67 => ?_) (fun c67 => ?_)
          · have c67 := mt (nz_eq (by omega)).mpr c67
            refine lv_aload_n hx hb dX5_alike_80 rfl (lv_at hl 1 rfl) ?_
            refine gf_X5_25 hx hb hg hown hK hP 0 rfl rfl dX5_alike_81 ?_
            refine lv_aload_n hx hb dX5_alike_84 rfl (lv_at hl 1 rfl) ?_
            refine gf_X5_10 hx hb hg hown hK hP 0 rfl rfl dX5_alike_85 ?_
            refine lv_iload_n hx hb dX5_alike_88 rfl (lv_at hl 2 rfl) ?_
            refine Cv.callV (As := [.ref n0, .int (nI v)]) (rest := []) (wr := [(a0, .inr (5, [.ref n0, .ref t0, .ref s0, .ref r0, .ref g0, .ref p0, .ref q0])), (t0, .inr (1, [.ref t1, .ref t2, .int (nI tn)])), (t1, oI cI 60 TP), (t2, oI cI 60 TL), (s0, .inr (1, [.ref s1, .ref s2, .int (nI sn)])), (s1, oI cI 60 SP), (s2, oI cI 60 SL), (g0, .inr (4, [.ref g1, .ref g2, .int (nI gn)])), (g1, oI cI 2700 GP), (g2, oI cI 60 GS), (p0, .inr (3, [.ref p1, .int (nI pn)])), (p1, oI cI 60 PS), (q0, .inr (2, [.ref q1, .int (nI qn), .int qc, .ref q2, .ref q3, .ref q4])), (q1, oI cI 60 QS), (q2, oI cI 61 lc), (q3, oI cI 61 fw), (q4, oI cI 61 fe)]) (wn := (fun u89 => [(a0, .inr (5, [.ref n0, .ref t0, .ref s0, .ref r0, .ref g0, .ref p0, .ref q0])), (n0, .inr (1, [.ref n1, .ref n2, .int (nI nn)])), (n1, oI cI 60 NP), (n2, oI cI 60 NL), (t0, .inr (1, [.ref t1, .ref t2, .int (nI tn)])), (t1, oI cI 60 TP), (t2, oI cI 60 TL), (s0, .inr (1, [.ref s1, .ref s2, .int (nI sn)])), (s1, oI cI 60 SP), (s2, oI cI 60 SL), (r0, .inr (0, [.ref r1, .int (nI (ff_cnt v nn))])), (r1, oI cI 60 (ff_fill (ff_it NP NL v) RF (ff_cnt v nn))), (g0, .inr (4, [.ref g1, .ref g2, .int (nI gn)])), (g1, oI cI 2700 GP), (g2, oI cI 60 GS), (p0, .inr (3, [.ref p1, .int (nI pn)])), (p1, oI cI 60 PS), (q0, .inr (2, [.ref q1, .int (nI qn), .int qc, .ref q2, .ref q3, .ref q4])), (q1, oI cI 60 QS), (q2, oI cI 61 lc), (q3, oI cI 61 fw), (q4, oI cI 61 fe)])) (cv_X5_100 hg ⟨Nat.le_of_ble_eq_true rfl, Nat.le_of_ble_eq_true rfl⟩) (k_X0_read l D cI r0 r1 rz RF n0 n1 n2 nn NP NL v hv hn) cx hK hP hD hA [10, 11, 1, 2, 3] [0, 4, 5, 6, 7, 8, 9, 12, 13, 14, 15, 16, 17, 18, 19, 20, 21] [0, 19, 20, 21, 1, 2, 3, 4, 5, 6, 17, 18, 7, 8, 9, 10, 11, 12, 13, 14, 15, 16] rfl rfl (by decide) (fun _ => rfl) (rq := 0) rfl rfl rfl hS rfl hl.1 rfl (Nat.le_of_ble_eq_true rfl) dX5_alike_89 ⟨Nat.zero_le _, Nat.zero_le _⟩ (fun H locs u89 p89 hP hD hS => ?_)
            have hcn := ff_cnt_le v nn
            refine lv_bipush (v := nI 100) hx hb dX5_alike_92 (by decide) ?_
            refine lv_aload_n hx hb dX5_alike_94 rfl (lv_at hl 1 rfl) ?_
            refine gf_X5_25 hx hb hg hown hK hP 0 rfl rfl dX5_alike_95 ?_
            refine lv_iload_n hx hb dX5_alike_98 rfl (lv_at hl 3 rfl) ?_
            refine lv_iload_n hx hb dX5_alike_99 rfl (lv_at hl 4 rfl) ?_
            refine lv_iload hx hb dX5_alike_100 (lv_at hl 5 rfl) ?_
            refine Cp.callV (As := [.int (nI b1), .int (nI b2), .int (nI b3)]) (rest := [.int (nI 100)]) (cv_X5_131 hg ⟨Nat.le_of_ble_eq_true rfl, Nat.le_of_ble_eq_true rfl⟩) (k_X0_countSame l D cI r0 r1 (ff_cnt v nn) (ff_fill (ff_it NP NL v) RF (ff_cnt v nn)) b1 b2 b3 (by omega) (by omega)) cx hK hP [10, 11] rfl (rq := 0) rfl rfl rfl hS rfl hl.1 rfl (Nat.le_of_ble_eq_true rfl) dX5_alike_102 ⟨Nat.zero_le _, Nat.zero_le _⟩ (fun H locs hP hS => ?_)
            refine lv_imul hx hb dX5_alike_105 ?_
            refine lv_asi (pk_mul _ _) ?_
            refine lv_iload hx hb dX5_alike_106 (lv_at hl 5 rfl) ?_
            refine lv_idiv hx hb dX5_alike_108 (fun h9 => c67 ((nz_eq (by omega)).mp h9)) ?_
            exact hret _ _ 109 _ _ ((ff_N (nn) (tn) (sn) (gn) (pn) (qn), ff_Z (nI (ff_cnt v nn)) (qc), ff_A14 (NP) (NL) (TP) (TL) (SP) (SL) (ff_fill (ff_it NP NL v) RF (ff_cnt v nn)) (GP) (GS) (PS) (QS) (lc) (fw) (fe))) (⟨⟨v, hv, rfl, b1, b2, b3, rfl, rfl, rfl, hb1, hb2⟩, fun h9 => c67 ((nz_eq (by omega)).mp h9), by rw [cl_n (by omega), cl_n (by omega), cl_n (by omega), cl_n (by omega)], by rw [cl_n (by omega)]⟩) hP hD hS dX5_alike_109
          · have c67 := (nz_eq (by omega)).mp c67
            exact hthr _ _ 70 _ 126 128 130 _ _ ff_E_AR (List.mem_of_getElem? (i := 9) rfl) (Or.inr ⟨rfl, ⟨v, hv, rfl, b1, b2, b3, rfl, rfl, rfl, hb1, hb2⟩, (nz_eq (by omega)).mpr c67⟩) hP hS hl.1 dX5_alike_70 dX5_alike_73 dX5_alike_74 dX5_alike_76 dX5_alike_79
        · have c52 := bI_z.mp c52
          exact hthr _ _ 55 _ 64 124 68 _ _ ff_E_IA (List.mem_of_getElem? (i := 8) rfl) (Or.inl ⟨rfl, fun h => by obtain ⟨v9, hv9, e9, a9, b9, m9, e1, e2, e3, h1, h2⟩ := h; obtain rfl := nI_inj (by omega) (by omega) e9; first | exact c42 (by rw [e1, e3]; exact ff_le3 h1 (by omega)) | exact c52 (by rw [e2, e3]; exact ff_le3 h2 (by omega))⟩) hP hS hl.1 dX5_alike_55 dX5_alike_58 dX5_alike_59 dX5_alike_61 dX5_alike_64
    · skip
      exact hthr _ _ 12 _ 64 114 68 _ _ ff_E_IA (List.mem_of_getElem? (i := 7) rfl) (Or.inl ⟨rfl, fun h => by obtain ⟨v9, hv9, e9, a9, b9, m9, e1, e2, e3, h1, h2⟩ := h; first | exact c4 (by rw [e9]; exact ff_le hv9 (by decide)) | (obtain rfl := nI_inj (by omega) (by omega) e9; have hcn := ff_cnt_le v nn; exact c9 (by rw [e3]; exact nI_pos' (by omega)))⟩) hP hS hl.1 dX5_alike_12 dX5_alike_15 dX5_alike_16 dX5_alike_18 dX5_alike_21

set_option maxHeartbeats 4000000 in
set_option maxRecDepth 100000 in
theorem t_motive (l : Launch) (hst : l.stackTraces = false) (D : va_G) (cI : ClassId) (a0 n0 n1 n2 t0 t1 t2 s0 s1 s2 r0 r1 g0 g1 g2 p0 p1 q0 q1 q2 q3 q4 : Nat) (nn tn sn gn pn qn : Nat) (rz qc : Int32) (NP NL TP TL SP SL RF GP GS PS QS lc fw fe : Nat → Int32) (hn : nn ≤ 60) (ht : tn ≤ 12) (fr q : Int32) : Ct l yX5_motive cX5_motive 4 6 D (tI cI) [.ref a0, .int fr, .int q] [(a0, .inr (5, [.ref n0, .ref t0, .ref s0, .ref r0, .ref g0, .ref p0, .ref q0])), (n0, .inr (1, [.ref n1, .ref n2, .int (nI nn)])), (n1, oI cI 60 NP), (n2, oI cI 60 NL), (t0, .inr (1, [.ref t1, .ref t2, .int (nI tn)])), (t1, oI cI 60 TP), (t2, oI cI 60 TL), (s0, .inr (1, [.ref s1, .ref s2, .int (nI sn)])), (s1, oI cI 60 SP), (s2, oI cI 60 SL), (r0, .inr (0, [.ref r1, .int rz])), (r1, oI cI 60 RF), (g0, .inr (4, [.ref g1, .ref g2, .int (nI gn)])), (g1, oI cI 2700 GP), (g2, oI cI 60 GS), (p0, .inr (3, [.ref p1, .int (nI pn)])), (p1, oI cI 60 PS), (q0, .inr (2, [.ref q1, .int (nI qn), .int qc, .ref q2, .ref q3, .ref q4])), (q1, oI cI 60 QS), (q2, oI cI 61 lc), (q3, oI cI 61 fw), (q4, oI cI 61 fe)] (S := ff_S) (fun r u => okMo nn fr q ∧ r = NP (cl fr) ∧ u = (ff_N (nn) (cl q) (sn) (gn) (pn) (qn), ff_Z (rz) (qc), ff_A14 (NP) (NL) (ff_fill (fun i => NP (cl fr + i)) TP (cl q)) (ff_fill (fun i => NL (cl fr + i)) TL (cl q)) (SP) (SL) (RF) (GP) (GS) (PS) (QS) (lc) (fw) (fe))) (fun u => [(a0, .inr (5, [.ref n0, .ref t0, .ref s0, .ref r0, .ref g0, .ref p0, .ref q0])), (n0, .inr (1, [.ref n1, .ref n2, .int (nI (u.1 0))])), (n1, oI cI 60 (u.2.2 0)), (n2, oI cI 60 (u.2.2 1)), (t0, .inr (1, [.ref t1, .ref t2, .int (nI (u.1 1))])), (t1, oI cI 60 (u.2.2 2)), (t2, oI cI 60 (u.2.2 3)), (s0, .inr (1, [.ref s1, .ref s2, .int (nI (u.1 2))])), (s1, oI cI 60 (u.2.2 4)), (s2, oI cI 60 (u.2.2 5)), (r0, .inr (0, [.ref r1, .int ((u.2.1 0))])), (r1, oI cI 60 (u.2.2 6)), (g0, .inr (4, [.ref g1, .ref g2, .int (nI (u.1 3))])), (g1, oI cI 2700 (u.2.2 7)), (g2, oI cI 60 (u.2.2 8)), (p0, .inr (3, [.ref p1, .int (nI (u.1 4))])), (p1, oI cI 60 (u.2.2 9)), (q0, .inr (2, [.ref q1, .int (nI (u.1 5)), .int ((u.2.1 1)), .ref q2, .ref q3, .ref q4])), (q1, oI cI 60 (u.2.2 10)), (q2, oI cI 61 (u.2.2 11)), (q3, oI cI 61 (u.2.2 12)), (q4, oI cI 61 (u.2.2 13))]) (fun E => E = xIA ∧ ¬ okMo nn fr q) := by
  refine Ct.of (lv := [(0, .ref a0), (1, .int fr), (2, .int q)]) hst (by decide) (by decide +kernel) rfl (Nat.le_of_ble_eq_true rfl) rfl ?_
  intro p e s m args below meth c Q A cx hK hP hD hA hret hthr ls hl
  obtain ⟨hx, hb, hml, hown, hg⟩ := id cx
  have hS : va_S A s.heap s.heap [] := va_S.rf
  refine lv_iload_n hx hb dX5_motive_0 rfl (lv_at hl 2 rfl) ?_
  refine lv_iconst (v := nI 1) hx hb dX5_motive_1 (by decide) ?_
  refine lv_bipush (v := nI 12) hx hb dX5_motive_2 (by decide) ?_
  refine Cp.callS (As := [.int q, .int (nI 1), .int (nI 12)]) (rest := []) (cv_X5_60 hg ⟨Nat.le_of_ble_eq_true rfl, Nat.le_of_ble_eq_true rfl⟩) (k_isWithin l D cI [] (q) (nI 1) (nI 12)) cx hK hP [] rfl hS rfl hl.1 rfl (Nat.le_of_ble_eq_true rfl) dX5_motive_4 ⟨Nat.zero_le _, Nat.zero_le _⟩ (fun H locs hP hS => ?_)
  refine lv_if_eq (tgt := 27) hx hb dX5_motive_7 (by decide) (fun c7 => ?_) (fun c7 => ?_)
  · have c7 := bI_z.mp c7
    exact hthr _ _ 27 _ 64 135 68 _ _ ff_E_IA (List.mem_of_getElem? (i := 10) rfl) (⟨rfl, fun h => by obtain ⟨a9, m9, h1, h2, e1, e2, h3⟩ := h; first | exact c7 (by rw [e1]; exact ff_le1 h1 h2 (by decide)) | exact c24 (by rw [e2, e1]; exact ff_le3 h3 (by omega))⟩) hP hS hl.1 dX5_motive_27 dX5_motive_30 dX5_motive_31 dX5_motive_33 dX5_motive_36
  · have c7 := bI_nz.mp c7
    obtain ⟨b3, hb31, hb32, rfl⟩ := ff_of1 (by decide) c7
    refine lv_iload_n hx hb dX5_motive_10 rfl (lv_at hl 1 rfl) ?_
    refine lv_iconst (v := nI 0) hx hb dX5_motive_11 (by decide) ?_
    refine lv_aload_n hx hb dX5_motive_12 rfl (lv_at hl 0 rfl) ?_
    refine gf_X5_10 hx hb hg hown hK hP 0 rfl rfl dX5_motive_13 ?_
    refine gf_X5_50 hx hb hg hown hK hP 1 rfl rfl dX5_motive_16 ?_
    refine lv_iload_n hx hb dX5_motive_19 rfl (lv_at hl 2 rfl) ?_
    refine lv_isub hx hb dX5_motive_20 ?_
    refine Cp.callS (As := [.int fr, .int (nI 0), .int ((nI nn - nI b3))]) (rest := []) (cv_X5_60 hg ⟨Nat.le_of_ble_eq_true rfl, Nat.le_of_ble_eq_true rfl⟩) (k_isWithin l D cI [] (fr) (nI 0) ((nI nn - nI b3))) cx hK hP [] rfl hS rfl hl.1 rfl (Nat.le_of_ble_eq_true rfl) dX5_motive_21 ⟨Nat.zero_le _, Nat.zero_le _⟩ (fun H locs hP hS => ?_)
    refine lv_if_ne (tgt := 37) hx hb dX5_motive_24 (by decide) (fun c24 => ?_) (fun c24 => ?_)
    · have c24 := bI_nz.mp c24
      obtain ⟨b1, b4, rfl, e9, hb1⟩ := ff_of3 (by omega) (nI_pos (by omega)) c24
      obtain rfl := nI_inj (by omega) (by omega) e9
      refine lv_aload_n hx hb dX5_motive_37 rfl (lv_at hl 0 rfl) ?_
      refine gf_X5_16 hx hb hg hown hK hP 0 rfl rfl dX5_motive_38 ?_
      refine lv_iconst (v := nI 0) hx hb dX5_motive_41 (by decide) ?_
      refine pf_X5_50 hx hb hg hown hK hP hD hS 4 rfl (Nat.le_of_ble_eq_true rfl) dX5_motive_42 (fun H locs hP hD hS => ?_)
      have hP : va_P D vwCl [(a0, .inr (5, [.ref n0, .ref t0, .ref s0, .ref r0, .ref g0, .ref p0, .ref q0])), (n0, .inr (1, [.ref n1, .ref n2, .int (nI nn)])), (n1, oI cI 60 NP), (n2, oI cI 60 NL), (t0, .inr (1, [.ref t1, .ref t2, .int (nI 0)])), (t1, oI cI 60 TP), (t2, oI cI 60 TL), (s0, .inr (1, [.ref s1, .ref s2, .int (nI sn)])), (s1, oI cI 60 SP), (s2, oI cI 60 SL), (r0, .inr (0, [.ref r1, .int rz])), (r1, oI cI 60 RF), (g0, .inr (4, [.ref g1, .ref g2, .int (nI gn)])), (g1, oI cI 2700 GP), (g2, oI cI 60 GS), (p0, .inr (3, [.ref p1, .int (nI pn)])), (p1, oI cI 60 PS), (q0, .inr (2, [.ref q1, .int (nI qn), .int qc, .ref q2, .ref q3, .ref q4])), (q1, oI cI 60 QS), (q2, oI cI 61 lc), (q3, oI cI 61 fw), (q4, oI cI 61 fe)] H := hP
      have hD : va_D A [(a0, .inr (5, [.ref n0, .ref t0, .ref s0, .ref r0, .ref g0, .ref p0, .ref q0])), (n0, .inr (1, [.ref n1, .ref n2, .int (nI nn)])), (n1, oI cI 60 NP), (n2, oI cI 60 NL), (t0, .inr (1, [.ref t1, .ref t2, .int (nI 0)])), (t1, oI cI 60 TP), (t2, oI cI 60 TL), (s0, .inr (1, [.ref s1, .ref s2, .int (nI sn)])), (s1, oI cI 60 SP), (s2, oI cI 60 SL), (r0, .inr (0, [.ref r1, .int rz])), (r1, oI cI 60 RF), (g0, .inr (4, [.ref g1, .ref g2, .int (nI gn)])), (g1, oI cI 2700 GP), (g2, oI cI 60 GS), (p0, .inr (3, [.ref p1, .int (nI pn)])), (p1, oI cI 60 PS), (q0, .inr (2, [.ref q1, .int (nI qn), .int qc, .ref q2, .ref q3, .ref q4])), (q1, oI cI 60 QS), (q2, oI cI 61 lc), (q3, oI cI 61 fw), (q4, oI cI 61 fe)] := hD
      refine lv_iload_n hx hb dX5_motive_45 rfl (lv_at hl 1 rfl) ?_
      refine lv_istore_n (lv' := [(3, .int (nI b1)), (0, .ref a0), (1, .int (nI b1)), (2, .int (nI b3))]) hx hb dX5_motive_46 rfl hl (by decide) rfl (fun ls hl => ?_)
      rw [← ff_fill_0 (fun i => NP (b1 + i)) TP, ← ff_fill_0 (fun i => NL (b1 + i)) TL] at hP hD
      have lp_47 : ∀ (k : Nat) (w9 : Nat) (H : Heap) (locs : List Loc) (ls : Array Slot), (w9 ≤ b3) → (b3 - w9 < k) → va_P D vwCl [(a0, .inr (5, [.ref n0, .ref t0, .ref s0, .ref r0, .ref g0, .ref p0, .ref q0])), (n0, .inr (1, [.ref n1, .ref n2, .int (nI nn)])), (n1, oI cI 60 NP), (n2, oI cI 60 NL), (t0, .inr (1, [.ref t1, .ref t2, .int (nI w9)])), (t1, oI cI 60 (ff_fill (fun i => NP (b1 + i)) TP (w9))), (t2, oI cI 60 (ff_fill (fun i => NL (b1 + i)) TL (w9))), (s0, .inr (1, [.ref s1, .ref s2, .int (nI sn)])), (s1, oI cI 60 SP), (s2, oI cI 60 SL), (r0, .inr (0, [.ref r1, .int rz])), (r1, oI cI 60 RF), (g0, .inr (4, [.ref g1, .ref g2, .int (nI gn)])), (g1, oI cI 2700 GP), (g2, oI cI 60 GS), (p0, .inr (3, [.ref p1, .int (nI pn)])), (p1, oI cI 60 PS), (q0, .inr (2, [.ref q1, .int (nI qn), .int qc, .ref q2, .ref q3, .ref q4])), (q1, oI cI 60 QS), (q2, oI cI 61 lc), (q3, oI cI 61 fw), (q4, oI cI 61 fe)] H → va_D A [(a0, .inr (5, [.ref n0, .ref t0, .ref s0, .ref r0, .ref g0, .ref p0, .ref q0])), (n0, .inr (1, [.ref n1, .ref n2, .int (nI nn)])), (n1, oI cI 60 NP), (n2, oI cI 60 NL), (t0, .inr (1, [.ref t1, .ref t2, .int (nI w9)])), (t1, oI cI 60 (ff_fill (fun i => NP (b1 + i)) TP (w9))), (t2, oI cI 60 (ff_fill (fun i => NL (b1 + i)) TL (w9))), (s0, .inr (1, [.ref s1, .ref s2, .int (nI sn)])), (s1, oI cI 60 SP), (s2, oI cI 60 SL), (r0, .inr (0, [.ref r1, .int rz])), (r1, oI cI 60 RF), (g0, .inr (4, [.ref g1, .ref g2, .int (nI gn)])), (g1, oI cI 2700 GP), (g2, oI cI 60 GS), (p0, .inr (3, [.ref p1, .int (nI pn)])), (p1, oI cI 60 PS), (q0, .inr (2, [.ref q1, .int (nI qn), .int qc, .ref q2, .ref q3, .ref q4])), (q1, oI cI 60 QS), (q2, oI cI 61 lc), (q3, oI cI 61 fw), (q4, oI cI 61 fe)] → va_S A s.heap H locs → lv_has ls 4 [(0, .ref a0), (1, .int (nI b1)), (2, .int (nI b3)), (3, .int (nI (b1 + w9)))] → W p l e (rr 6 1 6) s m args below meth c H locs 0 0 Q (F0 m 47 ls []) := by
        intro k
        induction k with
        | zero =>
          intro w9 H locs ls hw hk
          exact absurd hk (Nat.not_lt_zero _)
        | succ k ih_47 =>
          intro w9 H locs ls hw hk hP hD hS hl
          refine lv_iload_n hx hb dX5_motive_47 rfl (lv_at hl 3 rfl) ?_
          refine lv_iload_n hx hb dX5_motive_48 rfl (lv_at hl 1 rfl) ?_
          refine lv_iload_n hx hb dX5_motive_49 rfl (lv_at hl 2 rfl) ?_
          refine lv_iadd hx hb dX5_motive_50 ?_
          refine lv_asi (nI_add _ _) ?_
          refine lv_icmp_ge (tgt := 85) hx hb dX5_motive_51 (by decide) (fun c51 => ?_) (fun c51 => ?_)
          · have c51 := (nI_leI (by omega) (by omega)).mp c51
            obtain rfl : w9 = b3 := by omega
            refine lv_aload_n hx hb dX5_motive_85 rfl (lv_at hl 0 rfl) ?_
            refine gf_X5_16 hx hb hg hown hK hP 0 rfl rfl dX5_motive_86 ?_
            refine gf_X5_137 hx hb hg hown hK hP 4 rfl rfl dX5_motive_89 ?_
            refine lv_iconst (v := nI 0) hx hb dX5_motive_92 (by decide) ?_
            refine ald hx hb hK hP 5 rfl rfl (by omega) dX5_motive_93 ?_
            refine lv_asi (y := (NP b1)) (ff_fill_in (by omega)) ?_
            exact hret _ _ 94 _ _ ((ff_N (nn) (w9) (sn) (gn) (pn) (qn), ff_Z (rz) (qc), ff_A14 (NP) (NL) (ff_fill (fun i => NP (b1 + i)) TP (w9)) (ff_fill (fun i => NL (b1 + i)) TL (w9)) (SP) (SL) (RF) (GP) (GS) (PS) (QS) (lc) (fw) (fe))) (⟨⟨b1, w9, hb31, hb32, rfl, rfl, hb1⟩, by rw [cl_n (by omega)], by rw [cl_n (by omega), cl_n (by omega)]⟩) hP hD hS dX5_motive_94
          · have c51 := mt (nI_leI (by omega) (by omega)).mpr c51
            refine lv_aload_n hx hb dX5_motive_54 rfl (lv_at hl 0 rfl) ?_
            refine gf_X5_16 hx hb hg hown hK hP 0 rfl rfl dX5_motive_55 ?_
            refine lv_aload_n hx hb dX5_motive_58 rfl (lv_at hl 0 rfl) ?_
            refine gf_X5_10 hx hb hg hown hK hP 0 rfl rfl dX5_motive_59 ?_
            refine gf_X5_137 hx hb hg hown hK hP 1 rfl rfl dX5_motive_62 ?_
            refine lv_iload_n hx hb dX5_motive_65 rfl (lv_at hl 3 rfl) ?_
            refine ald hx hb hK hP 2 rfl rfl (by omega) dX5_motive_66 ?_
            refine lv_aload_n hx hb dX5_motive_67 rfl (lv_at hl 0 rfl) ?_
            refine gf_X5_10 hx hb hg hown hK hP 0 rfl rfl dX5_motive_68 ?_
            refine gf_X5_141 hx hb hg hown hK hP 1 rfl rfl dX5_motive_71 ?_
            refine lv_iload_n hx hb dX5_motive_74 rfl (lv_at hl 3 rfl) ?_
            refine ald hx hb hK hP 3 rfl rfl (by omega) dX5_motive_75 ?_
            refine Cv.callV (As := [.int ((NP (b1 + w9))), .int ((NL (b1 + w9)))]) (rest := []) (wr := [(a0, .inr (5, [.ref n0, .ref t0, .ref s0, .ref r0, .ref g0, .ref p0, .ref q0])), (n0, .inr (1, [.ref n1, .ref n2, .int (nI nn)])), (n1, oI cI 60 NP), (n2, oI cI 60 NL), (s0, .inr (1, [.ref s1, .ref s2, .int (nI sn)])), (s1, oI cI 60 SP), (s2, oI cI 60 SL), (r0, .inr (0, [.ref r1, .int rz])), (r1, oI cI 60 RF), (g0, .inr (4, [.ref g1, .ref g2, .int (nI gn)])), (g1, oI cI 2700 GP), (g2, oI cI 60 GS), (p0, .inr (3, [.ref p1, .int (nI pn)])), (p1, oI cI 60 PS), (q0, .inr (2, [.ref q1, .int (nI qn), .int qc, .ref q2, .ref q3, .ref q4])), (q1, oI cI 60 QS), (q2, oI cI 61 lc), (q3, oI cI 61 fw), (q4, oI cI 61 fe)]) (wn := (fun u76 => [(a0, .inr (5, [.ref n0, .ref t0, .ref s0, .ref r0, .ref g0, .ref p0, .ref q0])), (n0, .inr (1, [.ref n1, .ref n2, .int (nI nn)])), (n1, oI cI 60 NP), (n2, oI cI 60 NL), (t0, .inr (1, [.ref t1, .ref t2, .int (nI (w9 + 1))])), (t1, oI cI 60 (upd (ff_fill (fun i => NP (b1 + i)) TP w9) w9 (NP (b1 + w9)))), (t2, oI cI 60 (upd (ff_fill (fun i => NL (b1 + i)) TL w9) w9 (NL (b1 + w9)))), (s0, .inr (1, [.ref s1, .ref s2, .int (nI sn)])), (s1, oI cI 60 SP), (s2, oI cI 60 SL), (r0, .inr (0, [.ref r1, .int rz])), (r1, oI cI 60 RF), (g0, .inr (4, [.ref g1, .ref g2, .int (nI gn)])), (g1, oI cI 2700 GP), (g2, oI cI 60 GS), (p0, .inr (3, [.ref p1, .int (nI pn)])), (p1, oI cI 60 PS), (q0, .inr (2, [.ref q1, .int (nI qn), .int qc, .ref q2, .ref q3, .ref q4])), (q1, oI cI 60 QS), (q2, oI cI 61 lc), (q3, oI cI 61 fw), (q4, oI cI 61 fe)])) (cv_X5_76 hg ⟨Nat.le_of_ble_eq_true rfl, Nat.le_of_ble_eq_true rfl⟩) (k_X1_append l D cI t0 t1 t2 w9 (ff_fill (fun i => NP (b1 + i)) TP w9) (ff_fill (fun i => NL (b1 + i)) TL w9) (NP (b1 + w9)) (NL (b1 + w9)) (by omega)) cx hK hP hD hA [4, 5, 6] [0, 1, 2, 3, 7, 8, 9, 10, 11, 12, 13, 14, 15, 16, 17, 18, 19, 20, 21] [0, 1, 2, 3, 19, 20, 21, 4, 5, 6, 7, 8, 9, 10, 11, 12, 13, 14, 15, 16, 17, 18] rfl rfl (by decide) (fun _ => rfl) (rq := 0) rfl rfl rfl hS rfl hl.1 rfl (Nat.le_of_ble_eq_true rfl) dX5_motive_76 ⟨Nat.zero_le _, Nat.zero_le _⟩ (fun H locs u76 p76 hP hD hS => ?_)
            rw [show upd (ff_fill (fun i => NP (b1 + i)) TP w9) w9 (NP (b1 + w9)) = ff_fill (fun i => NP (b1 + i)) TP (w9 + 1) from ff_fill_s (fun i => NP (b1 + i)) TP w9, show upd (ff_fill (fun i => NL (b1 + i)) TL w9) w9 (NL (b1 + w9)) = ff_fill (fun i => NL (b1 + i)) TL (w9 + 1) from ff_fill_s (fun i => NL (b1 + i)) TL w9] at hP hD
            refine lv_iinc (v := nI (b1 + w9 + 1)) (lv' := [(3, .int (nI (b1 + w9 + 1))), (0, .ref a0), (1, .int (nI b1)), (2, .int (nI b3))]) hx hb dX5_motive_79 hl (k := 3) rfl (nI_1 _) (by decide) rfl (fun ls hl => ?_)
            refine lv_goto (tgt := 47) hx hb dX5_motive_82 (by decide) ?_
            rw [show b1 + w9 + 1 = b1 + (w9 + 1) by omega] at hl
            exact ih_47 (w9 + 1) _ _ _ (by omega) (by omega) hP hD hS (lv_sub hl [1, 2, 3, 0] rfl)
      exact lp_47 (_ + 1) (0) _ _ _ (Nat.zero_le _) (Nat.lt_succ_self _) hP hD hS (lv_sub hl [1, 2, 3, 0] rfl)
    · have c24 := bI_z.mp c24
      exact hthr _ _ 27 _ 64 135 68 _ _ ff_E_IA (List.mem_of_getElem? (i := 10) rfl) (⟨rfl, fun h => by obtain ⟨a9, m9, h1, h2, e1, e2, h3⟩ := h; first | exact c7 (by rw [e1]; exact ff_le1 h1 h2 (by decide)) | exact c24 (by rw [e2, e1]; exact ff_le3 h3 (by omega))⟩) hP hS hl.1 dX5_motive_27 dX5_motive_30 dX5_motive_31 dX5_motive_33 dX5_motive_36

set_option maxHeartbeats 4000000 in
set_option maxRecDepth 100000 in
theorem t_form (l : Launch) (hst : l.stackTraces = false) (D : va_G) (cI : ClassId) (a0 n0 n1 n2 t0 t1 t2 s0 s1 s2 r0 r1 g0 g1 g2 p0 p1 q0 q1 q2 q3 q4 : Nat) (nn tn sn gn pn qn : Nat) (rz qc : Int32) (NP NL TP TL SP SL RF GP GS PS QS lc fw fe : Nat → Int32) (hn : nn ≤ 60) (ht : tn ≤ 12) (fo i w : Int32) : Ct l yX5_form cX5_form 4 6 D (tI cI) [.ref a0, .int fo, .int i, .int w] [(a0, .inr (5, [.ref n0, .ref t0, .ref s0, .ref r0, .ref g0, .ref p0, .ref q0])), (n0, .inr (1, [.ref n1, .ref n2, .int (nI nn)])), (n1, oI cI 60 NP), (n2, oI cI 60 NL), (t0, .inr (1, [.ref t1, .ref t2, .int (nI tn)])), (t1, oI cI 60 TP), (t2, oI cI 60 TL), (s0, .inr (1, [.ref s1, .ref s2, .int (nI sn)])), (s1, oI cI 60 SP), (s2, oI cI 60 SL), (r0, .inr (0, [.ref r1, .int rz])), (r1, oI cI 60 RF), (g0, .inr (4, [.ref g1, .ref g2, .int (nI gn)])), (g1, oI cI 2700 GP), (g2, oI cI 60 GS), (p0, .inr (3, [.ref p1, .int (nI pn)])), (p1, oI cI 60 PS), (q0, .inr (2, [.ref q1, .int (nI qn), .int qc, .ref q2, .ref q3, .ref q4])), (q1, oI cI 60 QS), (q2, oI cI 61 lc), (q3, oI cI 61 fw), (q4, oI cI 61 fe)] (S := ff_S) (fun r u => okFo tn fo i w ∧ r = (if w = 0 then ff_fp TP (cl fo) tn (cl i) else ff_fl TL (cl fo) tn (cl i)) ∧ u = (ff_N (nn) (tn) (sn) (gn) (pn) (qn), ff_Z (rz) (qc), ff_A14 (NP) (NL) (TP) (TL) (SP) (SL) (RF) (GP) (GS) (PS) (QS) (lc) (fw) (fe))) (fun u => [(a0, .inr (5, [.ref n0, .ref t0, .ref s0, .ref r0, .ref g0, .ref p0, .ref q0])), (n0, .inr (1, [.ref n1, .ref n2, .int (nI (u.1 0))])), (n1, oI cI 60 (u.2.2 0)), (n2, oI cI 60 (u.2.2 1)), (t0, .inr (1, [.ref t1, .ref t2, .int (nI (u.1 1))])), (t1, oI cI 60 (u.2.2 2)), (t2, oI cI 60 (u.2.2 3)), (s0, .inr (1, [.ref s1, .ref s2, .int (nI (u.1 2))])), (s1, oI cI 60 (u.2.2 4)), (s2, oI cI 60 (u.2.2 5)), (r0, .inr (0, [.ref r1, .int ((u.2.1 0))])), (r1, oI cI 60 (u.2.2 6)), (g0, .inr (4, [.ref g1, .ref g2, .int (nI (u.1 3))])), (g1, oI cI 2700 (u.2.2 7)), (g2, oI cI 60 (u.2.2 8)), (p0, .inr (3, [.ref p1, .int (nI (u.1 4))])), (p1, oI cI 60 (u.2.2 9)), (q0, .inr (2, [.ref q1, .int (nI (u.1 5)), .int ((u.2.1 1)), .ref q2, .ref q3, .ref q4])), (q1, oI cI 60 (u.2.2 10)), (q2, oI cI 61 (u.2.2 11)), (q3, oI cI 61 (u.2.2 12)), (q4, oI cI 61 (u.2.2 13))]) (fun E => E = xIA ∧ ¬ okFo tn fo i w) := by
  refine Ct.of (lv := [(0, .ref a0), (1, .int fo), (2, .int i), (3, .int w)]) hst (by decide) (by decide +kernel) rfl (Nat.le_of_ble_eq_true rfl) rfl ?_
  intro p e s m args below meth c Q A cx hK hP hD hA hret hthr ls hl
  obtain ⟨hx, hb, hml, hown, hg⟩ := id cx
  have hS : va_S A s.heap s.heap [] := va_S.rf
  refine lv_iload_n hx hb dX5_form_0 rfl (lv_at hl 1 rfl) ?_
  refine Cp.callS (As := [.int fo]) (rest := []) (cv_X5_144 hg ⟨Nat.le_of_ble_eq_true rfl, Nat.le_of_ble_eq_true rfl⟩) (k_isForm l D cI [] fo) cx hK hP [] rfl hS rfl hl.1 rfl (Nat.le_of_ble_eq_true rfl) dX5_form_1 ⟨Nat.zero_le _, Nat.zero_le _⟩ (fun H locs hP hS => ?_)
  refine lv_if_eq (tgt := 33) hx hb dX5_form_4 (by decide) (fun c4 => ?_) (fun c4 => ?_)
  · have c4 := bI_z.mp c4
    exact hthr _ _ 33 _ 64 147 68 _ _ ff_E_IA (List.mem_of_getElem? (i := 11) rfl) (⟨rfl, fun h => by obtain ⟨f8, j8, x8, h1, e1, h2, e2, h3, e3⟩ := h; first | exact c4 (by rw [e1]; exact ff_le h1 (by decide)) | exact c21 (by rw [e2]; exact ff_le2 h2 (by omega)) | exact c30 (by rw [e3]; exact ff_le h3 (by decide))⟩) hP hS hl.1 dX5_form_33 dX5_form_36 dX5_form_37 dX5_form_39 dX5_form_42
  · have c4 := bI_nz.mp c4
    obtain ⟨f9, hf9, rfl⟩ := ff_of (by decide) c4
    refine lv_iload_n hx hb dX5_form_7 rfl (lv_at hl 2 rfl) ?_
    refine lv_iconst (v := nI 0) hx hb dX5_form_8 (by decide) ?_
    refine lv_aload_n hx hb dX5_form_9 rfl (lv_at hl 0 rfl) ?_
    refine gf_X5_16 hx hb hg hown hK hP 0 rfl rfl dX5_form_10 ?_
    refine gf_X5_50 hx hb hg hown hK hP 4 rfl rfl dX5_form_13 ?_
    refine lv_iconst (v := nI 1) hx hb dX5_form_16 (by decide) ?_
    refine lv_isub hx hb dX5_form_17 ?_
    refine Cp.callS (As := [.int i, .int (nI 0), .int ((nI tn - nI 1))]) (rest := []) (cv_X5_60 hg ⟨Nat.le_of_ble_eq_true rfl, Nat.le_of_ble_eq_true rfl⟩) (k_isWithin l D cI [] (i) (nI 0) ((nI tn - nI 1))) cx hK hP [] rfl hS rfl hl.1 rfl (Nat.le_of_ble_eq_true rfl) dX5_form_18 ⟨Nat.zero_le _, Nat.zero_le _⟩ (fun H locs hP hS => ?_)
    refine lv_if_eq (tgt := 33) hx hb dX5_form_21 (by decide) (fun c21 => ?_) (fun c21 => ?_)
    · have c21 := bI_z.mp c21
      exact hthr _ _ 33 _ 64 147 68 _ _ ff_E_IA (List.mem_of_getElem? (i := 11) rfl) (⟨rfl, fun h => by obtain ⟨f8, j8, x8, h1, e1, h2, e2, h3, e3⟩ := h; first | exact c4 (by rw [e1]; exact ff_le h1 (by decide)) | exact c21 (by rw [e2]; exact ff_le2 h2 (by omega)) | exact c30 (by rw [e3]; exact ff_le h3 (by decide))⟩) hP hS hl.1 dX5_form_33 dX5_form_36 dX5_form_37 dX5_form_39 dX5_form_42
    · have c21 := bI_nz.mp c21
      obtain ⟨j9, hj9, rfl⟩ := ff_of2 (by omega) c21
      refine lv_iload_n hx hb dX5_form_24 rfl (lv_at hl 3 rfl) ?_
      refine lv_iconst (v := nI 0) hx hb dX5_form_25 (by decide) ?_
      refine lv_iconst (v := nI 1) hx hb dX5_form_26 (by decide) ?_
      refine Cp.callS (As := [.int w, .int (nI 0), .int (nI 1)]) (rest := []) (cv_X5_60 hg ⟨Nat.le_of_ble_eq_true rfl, Nat.le_of_ble_eq_true rfl⟩) (k_isWithin l D cI [] (w) (nI 0) (nI 1)) cx hK hP [] rfl hS rfl hl.1 rfl (Nat.le_of_ble_eq_true rfl) dX5_form_27 ⟨Nat.zero_le _, Nat.zero_le _⟩ (fun H locs hP hS => ?_)
      refine lv_if_ne (tgt := 43) hx hb dX5_form_30 (by decide) (fun c30 => ?_) (fun c30 => ?_)
      · have c30 := bI_nz.mp c30
        obtain ⟨x9, hx9, rfl⟩ := ff_of (by decide) c30
        refine lv_iload_n hx hb dX5_form_43 rfl (lv_at hl 3 rfl) ?_
        refine lv_if_ne (tgt := 56) hx hb dX5_form_44 (by decide) (fun c44 => ?_) (fun c44 => ?_)
        · have c44 := mt (nz_eq (by omega)).mpr c44
          refine lv_aload_n hx hb dX5_form_56 rfl (lv_at hl 0 rfl) ?_
          refine lv_iload_n hx hb dX5_form_57 rfl (lv_at hl 1 rfl) ?_
          refine lv_iload_n hx hb dX5_form_58 rfl (lv_at hl 2 rfl) ?_
          refine Cp.callV (As := [.int (nI f9), .int (nI j9)]) (rest := []) (cv_X5_152 hg ⟨Nat.le_of_ble_eq_true rfl, Nat.le_of_ble_eq_true rfl⟩) (k_formLength l D cI a0 n0 t0 s0 r0 g0 p0 q0 t1 t2 tn TP TL f9 j9 hf9 hj9 ht) cx hK hP [0, 4, 5, 6] rfl (rq := 0) rfl rfl rfl hS rfl hl.1 rfl (Nat.le_of_ble_eq_true rfl) dX5_form_59 ⟨Nat.zero_le _, Nat.zero_le _⟩ (fun H locs hP hS => ?_)
          exact hret _ _ 62 _ _ ((ff_N (nn) (tn) (sn) (gn) (pn) (qn), ff_Z (rz) (qc), ff_A14 (NP) (NL) (TP) (TL) (SP) (SL) (RF) (GP) (GS) (PS) (QS) (lc) (fw) (fe))) (⟨⟨f9, j9, x9, hf9, rfl, hj9, rfl, hx9, rfl⟩, by rw [cl_n (by omega), cl_n (by omega)]; first | rw [if_pos ((nz_eq (by omega)).mpr c44)] | rw [if_neg (mt (nz_eq (by omega)).mp c44)], rfl⟩) hP hD hS dX5_form_62
        · have c44 := (nz_eq (by omega)).mp c44
          refine lv_aload_n hx hb dX5_form_47 rfl (lv_at hl 0 rfl) ?_
          refine lv_iload_n hx hb dX5_form_48 rfl (lv_at hl 1 rfl) ?_
          refine lv_iload_n hx hb dX5_form_49 rfl (lv_at hl 2 rfl) ?_
          refine Cp.callV (As := [.int (nI f9), .int (nI j9)]) (rest := []) (cv_X5_149 hg ⟨Nat.le_of_ble_eq_true rfl, Nat.le_of_ble_eq_true rfl⟩) (k_formPitch l D cI a0 n0 t0 s0 r0 g0 p0 q0 t1 t2 tn TP TL f9 j9 hf9 hj9 ht) cx hK hP [0, 4, 5, 6] rfl (rq := 0) rfl rfl rfl hS rfl hl.1 rfl (Nat.le_of_ble_eq_true rfl) dX5_form_50 ⟨Nat.zero_le _, Nat.zero_le _⟩ (fun H locs hP hS => ?_)
          refine lv_goto (tgt := 62) hx hb dX5_form_53 (by decide) ?_
          exact hret _ _ 62 _ _ ((ff_N (nn) (tn) (sn) (gn) (pn) (qn), ff_Z (rz) (qc), ff_A14 (NP) (NL) (TP) (TL) (SP) (SL) (RF) (GP) (GS) (PS) (QS) (lc) (fw) (fe))) (⟨⟨f9, j9, x9, hf9, rfl, hj9, rfl, hx9, rfl⟩, by rw [cl_n (by omega), cl_n (by omega)]; first | rw [if_pos ((nz_eq (by omega)).mpr c44)] | rw [if_neg (mt (nz_eq (by omega)).mp c44)], rfl⟩) hP hD hS dX5_form_62
      · have c30 := bI_z.mp c30
        exact hthr _ _ 33 _ 64 147 68 _ _ ff_E_IA (List.mem_of_getElem? (i := 11) rfl) (⟨rfl, fun h => by obtain ⟨f8, j8, x8, h1, e1, h2, e2, h3, e3⟩ := h; first | exact c4 (by rw [e1]; exact ff_le h1 (by decide)) | exact c21 (by rw [e2]; exact ff_le2 h2 (by omega)) | exact c30 (by rw [e3]; exact ff_le h3 (by decide))⟩) hP hS hl.1 dX5_form_33 dX5_form_36 dX5_form_37 dX5_form_39 dX5_form_42

set_option maxHeartbeats 4000000 in
set_option maxRecDepth 100000 in
theorem t_answer (l : Launch) (hst : l.stackTraces = false) (D : va_G) (cI : ClassId) (a0 n0 n1 n2 t0 t1 t2 s0 s1 s2 r0 r1 g0 g1 g2 p0 p1 q0 q1 q2 q3 q4 : Nat) (nn tn sn gn pn qn : Nat) (rz qc : Int32) (NP NL TP TL SP SL RF GP GS PS QS lc fw fe : Nat → Int32) (hn : nn ≤ 60) (ht : tn ≤ 12) (ky hd i : Int32) (hTP : ∀ t, t < tn → 0 ≤ (TP t).toInt ∧ (TP t).toInt ≤ 127) : Ct l yX5_answer cX5_answer 4 6 D (tI cI) [.ref a0, .int ky, .int hd, .int i] [(a0, .inr (5, [.ref n0, .ref t0, .ref s0, .ref r0, .ref g0, .ref p0, .ref q0])), (n0, .inr (1, [.ref n1, .ref n2, .int (nI nn)])), (n1, oI cI 60 NP), (n2, oI cI 60 NL), (t0, .inr (1, [.ref t1, .ref t2, .int (nI tn)])), (t1, oI cI 60 TP), (t2, oI cI 60 TL), (s0, .inr (1, [.ref s1, .ref s2, .int (nI sn)])), (s1, oI cI 60 SP), (s2, oI cI 60 SL), (r0, .inr (0, [.ref r1, .int rz])), (r1, oI cI 60 RF), (g0, .inr (4, [.ref g1, .ref g2, .int (nI gn)])), (g1, oI cI 2700 GP), (g2, oI cI 60 GS), (p0, .inr (3, [.ref p1, .int (nI pn)])), (p1, oI cI 60 PS), (q0, .inr (2, [.ref q1, .int (nI qn), .int qc, .ref q2, .ref q3, .ref q4])), (q1, oI cI 60 QS), (q2, oI cI 61 lc), (q3, oI cI 61 fw), (q4, oI cI 61 fe)] (S := ff_S) (fun r u => okAn tn ky hd i ∧ r = ff_ap TP (cl ky) (cl hd) (cl i) ∧ u = (ff_N (nn) (tn) (sn) (gn) (pn) (qn), ff_Z (rz) (qc), ff_A14 (NP) (NL) (TP) (TL) (SP) (SL) (RF) (GP) (GS) (PS) (QS) (lc) (fw) (fe))) (fun u => [(a0, .inr (5, [.ref n0, .ref t0, .ref s0, .ref r0, .ref g0, .ref p0, .ref q0])), (n0, .inr (1, [.ref n1, .ref n2, .int (nI (u.1 0))])), (n1, oI cI 60 (u.2.2 0)), (n2, oI cI 60 (u.2.2 1)), (t0, .inr (1, [.ref t1, .ref t2, .int (nI (u.1 1))])), (t1, oI cI 60 (u.2.2 2)), (t2, oI cI 60 (u.2.2 3)), (s0, .inr (1, [.ref s1, .ref s2, .int (nI (u.1 2))])), (s1, oI cI 60 (u.2.2 4)), (s2, oI cI 60 (u.2.2 5)), (r0, .inr (0, [.ref r1, .int ((u.2.1 0))])), (r1, oI cI 60 (u.2.2 6)), (g0, .inr (4, [.ref g1, .ref g2, .int (nI (u.1 3))])), (g1, oI cI 2700 (u.2.2 7)), (g2, oI cI 60 (u.2.2 8)), (p0, .inr (3, [.ref p1, .int (nI (u.1 4))])), (p1, oI cI 60 (u.2.2 9)), (q0, .inr (2, [.ref q1, .int (nI (u.1 5)), .int ((u.2.1 1)), .ref q2, .ref q3, .ref q4])), (q1, oI cI 60 (u.2.2 10)), (q2, oI cI 61 (u.2.2 11)), (q3, oI cI 61 (u.2.2 12)), (q4, oI cI 61 (u.2.2 13))]) (fun E => E = xIA ∧ ¬ okAn tn ky hd i) := by
  refine Ct.of (lv := [(0, .ref a0), (1, .int ky), (2, .int hd), (3, .int i)]) hst (by decide) (by decide +kernel) rfl (Nat.le_of_ble_eq_true rfl) rfl ?_
  intro p e s m args below meth c Q A cx hK hP hD hA hret hthr ls hl
  obtain ⟨hx, hb, hml, hown, hg⟩ := id cx
  have hS : va_S A s.heap s.heap [] := va_S.rf
  refine lv_iload_n hx hb dX5_answer_0 rfl (lv_at hl 1 rfl) ?_
  refine lv_iload_n hx hb dX5_answer_1 rfl (lv_at hl 2 rfl) ?_
  refine Cp.callS (As := [.int ky, .int hd]) (rest := []) (cv_X5_166 hg ⟨Nat.le_of_ble_eq_true rfl, Nat.le_of_ble_eq_true rfl⟩) (k_isKeyAndHead l D cI [] ky hd) cx hK hP [] rfl hS rfl hl.1 rfl (Nat.le_of_ble_eq_true rfl) dX5_answer_2 ⟨Nat.zero_le _, Nat.zero_le _⟩ (fun H locs hP hS => ?_)
  refine lv_if_eq (tgt := 25) hx hb dX5_answer_5 (by decide) (fun c5 => ?_) (fun c5 => ?_)
  · have c5 := bI_z.mp c5
    exact hthr _ _ 25 _ 64 169 68 _ _ ff_E_IA (List.mem_of_getElem? (i := 14) rfl) (⟨rfl, fun h => by obtain ⟨a8, b8, j8, h1, e1, h2, e2, h3, e3⟩ := h; first | exact c5 (by rw [e1, e2]; exact ⟨ff_le h1 (by decide), ff_le h2 (by decide)⟩) | exact c22 (by rw [e3]; exact ff_le2 h3 (by omega))⟩) hP hS hl.1 dX5_answer_25 dX5_answer_28 dX5_answer_29 dX5_answer_31 dX5_answer_34
  · have c5 := bI_nz.mp c5
    obtain ⟨ky9, hky, rfl⟩ := ff_of (by decide) c5.1
    obtain ⟨hd9, hhd, rfl⟩ := ff_of (by decide) c5.2
    refine lv_iload_n hx hb dX5_answer_8 rfl (lv_at hl 3 rfl) ?_
    refine lv_iconst (v := nI 0) hx hb dX5_answer_9 (by decide) ?_
    refine lv_aload_n hx hb dX5_answer_10 rfl (lv_at hl 0 rfl) ?_
    refine gf_X5_16 hx hb hg hown hK hP 0 rfl rfl dX5_answer_11 ?_
    refine gf_X5_50 hx hb hg hown hK hP 4 rfl rfl dX5_answer_14 ?_
    refine lv_iconst (v := nI 1) hx hb dX5_answer_17 (by decide) ?_
    refine lv_isub hx hb dX5_answer_18 ?_
    refine Cp.callS (As := [.int i, .int (nI 0), .int ((nI tn - nI 1))]) (rest := []) (cv_X5_60 hg ⟨Nat.le_of_ble_eq_true rfl, Nat.le_of_ble_eq_true rfl⟩) (k_isWithin l D cI [] (i) (nI 0) ((nI tn - nI 1))) cx hK hP [] rfl hS rfl hl.1 rfl (Nat.le_of_ble_eq_true rfl) dX5_answer_19 ⟨Nat.zero_le _, Nat.zero_le _⟩ (fun H locs hP hS => ?_)
    refine lv_if_ne (tgt := 35) hx hb dX5_answer_22 (by decide) (fun c22 => ?_) (fun c22 => ?_)
    · have c22 := bI_nz.mp c22
      obtain ⟨j9, hj9, rfl⟩ := ff_of2 (by omega) c22
      refine lv_aload_n hx hb dX5_answer_35 rfl (lv_at hl 0 rfl) ?_
      refine lv_iload_n hx hb dX5_answer_36 rfl (lv_at hl 1 rfl) ?_
      refine lv_iload_n hx hb dX5_answer_37 rfl (lv_at hl 2 rfl) ?_
      refine lv_iload_n hx hb dX5_answer_38 rfl (lv_at hl 3 rfl) ?_
      refine Cp.callV (As := [.int (nI ky9), .int (nI hd9), .int (nI j9)]) (rest := []) (cv_X5_171 hg ⟨Nat.le_of_ble_eq_true rfl, Nat.le_of_ble_eq_true rfl⟩) (k_answerPitch l D cI a0 n0 t0 s0 r0 g0 p0 q0 t1 t2 tn TP TL ky9 hd9 j9 hky hhd hj9 ht (hTP j9 hj9).1 (hTP j9 hj9).2) cx hK hP [0, 4, 5, 6] rfl (rq := 0) rfl rfl rfl hS rfl hl.1 rfl (Nat.le_of_ble_eq_true rfl) dX5_answer_39 ⟨Nat.zero_le _, Nat.zero_le _⟩ (fun H locs hP hS => ?_)
      exact hret _ _ 42 _ _ ((ff_N (nn) (tn) (sn) (gn) (pn) (qn), ff_Z (rz) (qc), ff_A14 (NP) (NL) (TP) (TL) (SP) (SL) (RF) (GP) (GS) (PS) (QS) (lc) (fw) (fe))) (⟨⟨ky9, hd9, j9, hky, rfl, hhd, rfl, hj9, rfl⟩, by rw [cl_n (by omega), cl_n (by omega), cl_n (by omega)], rfl⟩) hP hD hS dX5_answer_42
    · have c22 := bI_z.mp c22
      exact hthr _ _ 25 _ 64 169 68 _ _ ff_E_IA (List.mem_of_getElem? (i := 14) rfl) (⟨rfl, fun h => by obtain ⟨a8, b8, j8, h1, e1, h2, e2, h3, e3⟩ := h; first | exact c5 (by rw [e1, e2]; exact ⟨ff_le h1 (by decide), ff_le h2 (by decide)⟩) | exact c22 (by rw [e3]; exact ff_le2 h3 (by omega))⟩) hP hS hl.1 dX5_answer_25 dX5_answer_28 dX5_answer_29 dX5_answer_31 dX5_answer_34

set_option maxHeartbeats 4000000 in
set_option maxRecDepth 100000 in
theorem t_find (l : Launch) (hst : l.stackTraces = false) (D : va_G) (cI : ClassId) (a0 n0 n1 n2 t0 t1 t2 s0 s1 s2 r0 r1 g0 g1 g2 p0 p1 q0 q1 q2 q3 q4 : Nat) (nn tn sn gn pn qn : Nat) (rz qc : Int32) (NP NL TP TL SP SL RF GP GS PS QS lc fw fe : Nat → Int32) (hn : nn ≤ 60) (ht : tn ≤ 12) (fo up dn : Int32) : Ct l yX5_find cX5_find 5 6 D (tI cI) [.ref a0, .int fo, .int up, .int dn] [(a0, .inr (5, [.ref n0, .ref t0, .ref s0, .ref r0, .ref g0, .ref p0, .ref q0])), (n0, .inr (1, [.ref n1, .ref n2, .int (nI nn)])), (n1, oI cI 60 NP), (n2, oI cI 60 NL), (t0, .inr (1, [.ref t1, .ref t2, .int (nI tn)])), (t1, oI cI 60 TP), (t2, oI cI 60 TL), (s0, .inr (1, [.ref s1, .ref s2, .int (nI sn)])), (s1, oI cI 60 SP), (s2, oI cI 60 SL), (r0, .inr (0, [.ref r1, .int rz])), (r1, oI cI 60 RF), (g0, .inr (4, [.ref g1, .ref g2, .int (nI gn)])), (g1, oI cI 2700 GP), (g2, oI cI 60 GS), (p0, .inr (3, [.ref p1, .int (nI pn)])), (p1, oI cI 60 PS), (q0, .inr (2, [.ref q1, .int (nI qn), .int qc, .ref q2, .ref q3, .ref q4])), (q1, oI cI 60 QS), (q2, oI cI 61 lc), (q3, oI cI 61 fw), (q4, oI cI 61 fe)] (S := ff_S) (fun r u => okFi fo up dn ∧ 0 < tn ∧ ∃ ul : Nat → Int32, ff_hits (ff_at NP NL (ff_fill (ff_fp TP (cl fo) tn) SP tn) (ff_fill (ff_fl TL (cl fo) tn) SL tn) tn up dn) (nn + 1 - tn) ul ∧ r = nI (ff_ct (ff_at NP NL (ff_fill (ff_fp TP (cl fo) tn) SP tn) (ff_fill (ff_fl TL (cl fo) tn) SL tn) tn up dn) (nn + 1 - tn)) ∧ u = (ff_N (nn) (tn) (tn) (gn) (ff_ct (ff_at NP NL (ff_fill (ff_fp TP (cl fo) tn) SP tn) (ff_fill (ff_fl TL (cl fo) tn) SL tn) tn up dn) (nn + 1 - tn)) (qn), ff_Z (rz) (qc), ff_A14 (NP) (NL) (TP) (TL) (ff_fill (ff_fp TP (cl fo) tn) SP tn) (ff_fill (ff_fl TL (cl fo) tn) SL tn) (RF) (GP) (GS) (ul) (QS) (lc) (fw) (fe))) (fun u => [(a0, .inr (5, [.ref n0, .ref t0, .ref s0, .ref r0, .ref g0, .ref p0, .ref q0])), (n0, .inr (1, [.ref n1, .ref n2, .int (nI (u.1 0))])), (n1, oI cI 60 (u.2.2 0)), (n2, oI cI 60 (u.2.2 1)), (t0, .inr (1, [.ref t1, .ref t2, .int (nI (u.1 1))])), (t1, oI cI 60 (u.2.2 2)), (t2, oI cI 60 (u.2.2 3)), (s0, .inr (1, [.ref s1, .ref s2, .int (nI (u.1 2))])), (s1, oI cI 60 (u.2.2 4)), (s2, oI cI 60 (u.2.2 5)), (r0, .inr (0, [.ref r1, .int ((u.2.1 0))])), (r1, oI cI 60 (u.2.2 6)), (g0, .inr (4, [.ref g1, .ref g2, .int (nI (u.1 3))])), (g1, oI cI 2700 (u.2.2 7)), (g2, oI cI 60 (u.2.2 8)), (p0, .inr (3, [.ref p1, .int (nI (u.1 4))])), (p1, oI cI 60 (u.2.2 9)), (q0, .inr (2, [.ref q1, .int (nI (u.1 5)), .int ((u.2.1 1)), .ref q2, .ref q3, .ref q4])), (q1, oI cI 60 (u.2.2 10)), (q2, oI cI 61 (u.2.2 11)), (q3, oI cI 61 (u.2.2 12)), (q4, oI cI 61 (u.2.2 13))]) (fun E => (E = xIA ∧ ¬ okFi fo up dn) ∨ (E = xIS ∧ okFi fo up dn ∧ tn = 0)) := by
  refine Ct.of (lv := [(0, .ref a0), (1, .int fo), (2, .int up), (3, .int dn)]) hst (by decide) (by decide +kernel) rfl (Nat.le_of_ble_eq_true rfl) rfl ?_
  intro p e s m args below meth c Q A cx hK hP hD hA hret hthr ls hl
  obtain ⟨hx, hb, hml, hown, hg⟩ := id cx
  have hS : va_S A s.heap s.heap [] := va_S.rf
  refine lv_iload_n hx hb dX5_find_0 rfl (lv_at hl 1 rfl) ?_
  refine Cp.callS (As := [.int fo]) (rest := []) (cv_X5_144 hg ⟨Nat.le_of_ble_eq_true rfl, Nat.le_of_ble_eq_true rfl⟩) (k_isForm l D cI [] fo) cx hK hP [] rfl hS rfl hl.1 rfl (Nat.le_of_ble_eq_true rfl) dX5_find_1 ⟨Nat.zero_le _, Nat.zero_le _⟩ (fun H locs hP hS => ?_)
  refine lv_if_eq (tgt := 15) hx hb dX5_find_4 (by decide) (fun c4 => ?_) (fun c4 => ?_)
  · have c4 := bI_z.mp c4
    exact hthr _ _ 15 _ 64 159 68 _ _ ff_E_IA (List.mem_of_getElem? (i := 12) rfl) (Or.inl ⟨rfl, fun h => by first | exact c12 h.2 | (obtain ⟨⟨f8, h1, e1⟩, _⟩ := h; exact c4 (by rw [e1]; exact ff_le h1 (by decide)))⟩) hP hS hl.1 dX5_find_15 dX5_find_18 dX5_find_19 dX5_find_21 dX5_find_24
  · have c4 := bI_nz.mp c4
    obtain ⟨f9, hf9, rfl⟩ := ff_of (by decide) c4
    refine lv_iload_n hx hb dX5_find_7 rfl (lv_at hl 2 rfl) ?_
    refine lv_iload_n hx hb dX5_find_8 rfl (lv_at hl 3 rfl) ?_
    refine Cp.callS (As := [.int up, .int dn]) (rest := []) (cv_X5_155 hg ⟨Nat.le_of_ble_eq_true rfl, Nat.le_of_ble_eq_true rfl⟩) (k_isScale l D cI [] up dn) cx hK hP [] rfl hS rfl hl.1 rfl (Nat.le_of_ble_eq_true rfl) dX5_find_9 ⟨Nat.zero_le _, Nat.zero_le _⟩ (fun H locs hP hS => ?_)
    refine lv_if_ne (tgt := 25) hx hb dX5_find_12 (by decide) (fun c12 => ?_) (fun c12 => ?_)
    · have c12 := bI_nz.mp c12
      refine lv_aload_n hx hb dX5_find_25 rfl (lv_at hl 0 rfl) ?_
      refine gf_X5_16 hx hb hg hown hK hP 0 rfl rfl dX5_find_26 ?_
      refine gf_X5_50 hx hb hg hown hK hP 4 rfl rfl dX5_find_29 ?_
      refine lv_if_ne (tgt := 45) hx hb dX5_find_32 (by decide) (fun c32 => ?_) (fun c32 => ?_)
      · have c32 := mt (nz_eq (by omega)).mpr c32
        refine lv_aload_n hx hb dX5_find_45 rfl (lv_at hl 0 rfl) ?_
        refine gf_X5_19 hx hb hg hown hK hP 0 rfl rfl dX5_find_46 ?_
        refine lv_iconst (v := nI 0) hx hb dX5_find_49 (by decide) ?_
        refine pf_X5_50 hx hb hg hown hK hP hD hS 7 rfl (Nat.le_of_ble_eq_true rfl) dX5_find_50 (fun H locs hP hD hS => ?_)
        have hP : va_P D vwCl [(a0, .inr (5, [.ref n0, .ref t0, .ref s0, .ref r0, .ref g0, .ref p0, .ref q0])), (n0, .inr (1, [.ref n1, .ref n2, .int (nI nn)])), (n1, oI cI 60 NP), (n2, oI cI 60 NL), (t0, .inr (1, [.ref t1, .ref t2, .int (nI tn)])), (t1, oI cI 60 TP), (t2, oI cI 60 TL), (s0, .inr (1, [.ref s1, .ref s2, .int (nI 0)])), (s1, oI cI 60 SP), (s2, oI cI 60 SL), (r0, .inr (0, [.ref r1, .int rz])), (r1, oI cI 60 RF), (g0, .inr (4, [.ref g1, .ref g2, .int (nI gn)])), (g1, oI cI 2700 GP), (g2, oI cI 60 GS), (p0, .inr (3, [.ref p1, .int (nI pn)])), (p1, oI cI 60 PS), (q0, .inr (2, [.ref q1, .int (nI qn), .int qc, .ref q2, .ref q3, .ref q4])), (q1, oI cI 60 QS), (q2, oI cI 61 lc), (q3, oI cI 61 fw), (q4, oI cI 61 fe)] H := hP
        have hD : va_D A [(a0, .inr (5, [.ref n0, .ref t0, .ref s0, .ref r0, .ref g0, .ref p0, .ref q0])), (n0, .inr (1, [.ref n1, .ref n2, .int (nI nn)])), (n1, oI cI 60 NP), (n2, oI cI 60 NL), (t0, .inr (1, [.ref t1, .ref t2, .int (nI tn)])), (t1, oI cI 60 TP), (t2, oI cI 60 TL), (s0, .inr (1, [.ref s1, .ref s2, .int (nI 0)])), (s1, oI cI 60 SP), (s2, oI cI 60 SL), (r0, .inr (0, [.ref r1, .int rz])), (r1, oI cI 60 RF), (g0, .inr (4, [.ref g1, .ref g2, .int (nI gn)])), (g1, oI cI 2700 GP), (g2, oI cI 60 GS), (p0, .inr (3, [.ref p1, .int (nI pn)])), (p1, oI cI 60 PS), (q0, .inr (2, [.ref q1, .int (nI qn), .int qc, .ref q2, .ref q3, .ref q4])), (q1, oI cI 60 QS), (q2, oI cI 61 lc), (q3, oI cI 61 fw), (q4, oI cI 61 fe)] := hD
        refine lv_iconst (v := nI 0) hx hb dX5_find_53 (by decide) ?_
        refine lv_istore (lv' := [(4, .int (nI 0)), (0, .ref a0), (1, .int (nI f9)), (2, .int up), (3, .int dn)]) hx hb dX5_find_54 hl (by decide) rfl (fun ls hl => ?_)
        rw [← ff_fill_0 (ff_fp TP f9 tn) SP, ← ff_fill_0 (ff_fl TL f9 tn) SL] at hP hD
        have lp_56 : ∀ (k : Nat) (w9 : Nat) (H : Heap) (locs : List Loc) (ls : Array Slot), (w9 ≤ tn) → (tn - w9 < k) → va_P D vwCl [(a0, .inr (5, [.ref n0, .ref t0, .ref s0, .ref r0, .ref g0, .ref p0, .ref q0])), (n0, .inr (1, [.ref n1, .ref n2, .int (nI nn)])), (n1, oI cI 60 NP), (n2, oI cI 60 NL), (t0, .inr (1, [.ref t1, .ref t2, .int (nI tn)])), (t1, oI cI 60 TP), (t2, oI cI 60 TL), (s0, .inr (1, [.ref s1, .ref s2, .int (nI w9)])), (s1, oI cI 60 (ff_fill (ff_fp TP f9 tn) SP (w9))), (s2, oI cI 60 (ff_fill (ff_fl TL f9 tn) SL (w9))), (r0, .inr (0, [.ref r1, .int rz])), (r1, oI cI 60 RF), (g0, .inr (4, [.ref g1, .ref g2, .int (nI gn)])), (g1, oI cI 2700 GP), (g2, oI cI 60 GS), (p0, .inr (3, [.ref p1, .int (nI pn)])), (p1, oI cI 60 PS), (q0, .inr (2, [.ref q1, .int (nI qn), .int qc, .ref q2, .ref q3, .ref q4])), (q1, oI cI 60 QS), (q2, oI cI 61 lc), (q3, oI cI 61 fw), (q4, oI cI 61 fe)] H → va_D A [(a0, .inr (5, [.ref n0, .ref t0, .ref s0, .ref r0, .ref g0, .ref p0, .ref q0])), (n0, .inr (1, [.ref n1, .ref n2, .int (nI nn)])), (n1, oI cI 60 NP), (n2, oI cI 60 NL), (t0, .inr (1, [.ref t1, .ref t2, .int (nI tn)])), (t1, oI cI 60 TP), (t2, oI cI 60 TL), (s0, .inr (1, [.ref s1, .ref s2, .int (nI w9)])), (s1, oI cI 60 (ff_fill (ff_fp TP f9 tn) SP (w9))), (s2, oI cI 60 (ff_fill (ff_fl TL f9 tn) SL (w9))), (r0, .inr (0, [.ref r1, .int rz])), (r1, oI cI 60 RF), (g0, .inr (4, [.ref g1, .ref g2, .int (nI gn)])), (g1, oI cI 2700 GP), (g2, oI cI 60 GS), (p0, .inr (3, [.ref p1, .int (nI pn)])), (p1, oI cI 60 PS), (q0, .inr (2, [.ref q1, .int (nI qn), .int qc, .ref q2, .ref q3, .ref q4])), (q1, oI cI 60 QS), (q2, oI cI 61 lc), (q3, oI cI 61 fw), (q4, oI cI 61 fe)] → va_S A s.heap H locs → lv_has ls 5 [(0, .ref a0), (1, .int (nI f9)), (2, .int up), (3, .int dn), (4, .int (nI w9))] → W p l e (rr 6 1 6) s m args below meth c H locs 0 0 Q (F0 m 56 ls []) := by
          intro k
          induction k with
          | zero =>
            intro w9 H locs ls hw hk
            exact absurd hk (Nat.not_lt_zero _)
          | succ k ih_56 =>
            intro w9 H locs ls hw hk hP hD hS hl
            refine lv_iload hx hb dX5_find_56 (lv_at hl 4 rfl) ?_
            refine lv_aload_n hx hb dX5_find_58 rfl (lv_at hl 0 rfl) ?_
            refine gf_X5_16 hx hb hg hown hK hP 0 rfl rfl dX5_find_59 ?_
            refine gf_X5_50 hx hb hg hown hK hP 4 rfl rfl dX5_find_62 ?_
            refine lv_icmp_ge (tgt := 95) hx hb dX5_find_65 (by decide) (fun c65 => ?_) (fun c65 => ?_)
            · have c65 := (nI_leI (by omega) (by omega)).mp c65
              obtain rfl : tn = w9 := by omega
              refine lv_aload_n hx hb dX5_find_95 rfl (lv_at hl 0 rfl) ?_
              refine lv_iload_n hx hb dX5_find_96 rfl (lv_at hl 2 rfl) ?_
              refine lv_iload_n hx hb dX5_find_97 rfl (lv_at hl 3 rfl) ?_
              refine Cv.callV (As := [.int up, .int dn]) (rest := []) (wr := [(t0, .inr (1, [.ref t1, .ref t2, .int (nI tn)])), (t1, oI cI 60 TP), (t2, oI cI 60 TL), (r0, .inr (0, [.ref r1, .int rz])), (r1, oI cI 60 RF), (g0, .inr (4, [.ref g1, .ref g2, .int (nI gn)])), (g1, oI cI 2700 GP), (g2, oI cI 60 GS), (q0, .inr (2, [.ref q1, .int (nI qn), .int qc, .ref q2, .ref q3, .ref q4])), (q1, oI cI 60 QS), (q2, oI cI 61 lc), (q3, oI cI 61 fw), (q4, oI cI 61 fe)]) (wn := (fun ul => [(a0, .inr (5, [.ref n0, .ref t0, .ref s0, .ref r0, .ref g0, .ref p0, .ref q0])), (n0, .inr (1, [.ref n1, .ref n2, .int (nI nn)])), (n1, oI cI 60 NP), (n2, oI cI 60 NL), (t0, .inr (1, [.ref t1, .ref t2, .int (nI tn)])), (t1, oI cI 60 TP), (t2, oI cI 60 TL), (s0, .inr (1, [.ref s1, .ref s2, .int (nI tn)])), (s1, oI cI 60 (ff_fill (ff_fp TP f9 tn) SP tn)), (s2, oI cI 60 (ff_fill (ff_fl TL f9 tn) SL tn)), (r0, .inr (0, [.ref r1, .int rz])), (r1, oI cI 60 RF), (g0, .inr (4, [.ref g1, .ref g2, .int (nI gn)])), (g1, oI cI 2700 GP), (g2, oI cI 60 GS), (p0, .inr (3, [.ref p1, .int (nI (ff_ct (ff_at NP NL (ff_fill (ff_fp TP f9 tn) SP tn) (ff_fill (ff_fl TL f9 tn) SL tn) tn up dn) (nn + 1 - tn)))])), (p1, oI cI 60 ul), (q0, .inr (2, [.ref q1, .int (nI qn), .int qc, .ref q2, .ref q3, .ref q4])), (q1, oI cI 60 QS), (q2, oI cI 61 lc), (q3, oI cI 61 fw), (q4, oI cI 61 fe)])) (cv_X5_163 hg ⟨Nat.le_of_ble_eq_true rfl, Nat.le_of_ble_eq_true rfl⟩) (k_lookForSought l D cI a0 n0 t0 s0 r0 g0 p0 q0 n1 n2 nn NP NL s1 s2 tn (ff_fill (ff_fp TP f9 tn) SP tn) (ff_fill (ff_fl TL f9 tn) SL tn) p1 (nI pn) PS up dn hn (by omega) (by omega)) cx hK hP hD hA [0, 1, 2, 3, 7, 8, 9, 15, 16] [4, 5, 6, 10, 11, 12, 13, 14, 17, 18, 19, 20, 21] [13, 14, 15, 16, 0, 1, 2, 17, 18, 19, 3, 4, 5, 6, 7, 20, 21, 8, 9, 10, 11, 12] rfl rfl (by decide) (fun _ => rfl) (rq := 0) rfl rfl rfl hS rfl hl.1 rfl (Nat.le_of_ble_eq_true rfl) dX5_find_98 ⟨Nat.zero_le _, Nat.zero_le _⟩ (fun H locs ul p98 hP hD hS => ?_)
              refine lv_aload_n hx hb dX5_find_101 rfl (lv_at hl 0 rfl) ?_
              refine gf_X5_39 hx hb hg hown hK hP 0 rfl rfl dX5_find_102 ?_
              refine gf_X5_55 hx hb hg hown hK hP 15 rfl rfl dX5_find_105 ?_
              exact hret _ _ 108 _ _ ((ff_N (nn) (tn) (tn) (gn) (ff_ct (ff_at NP NL (ff_fill (ff_fp TP f9 tn) SP tn) (ff_fill (ff_fl TL f9 tn) SL tn) tn up dn) (nn + 1 - tn)) (qn), ff_Z (rz) (qc), ff_A14 (NP) (NL) (TP) (TL) (ff_fill (ff_fp TP f9 tn) SP tn) (ff_fill (ff_fl TL f9 tn) SL tn) (RF) (GP) (GS) (ul) (QS) (lc) (fw) (fe))) (⟨⟨⟨f9, hf9, rfl⟩, c12⟩, by omega, ul, by rw [cl_n (by omega)]; exact ⟨p98, rfl, rfl⟩⟩) hP hD hS dX5_find_108
            · have c65 := mt (nI_leI (by omega) (by omega)).mpr c65
              refine lv_aload_n hx hb dX5_find_68 rfl (lv_at hl 0 rfl) ?_
              refine gf_X5_19 hx hb hg hown hK hP 0 rfl rfl dX5_find_69 ?_
              refine lv_aload_n hx hb dX5_find_72 rfl (lv_at hl 0 rfl) ?_
              refine lv_iload_n hx hb dX5_find_73 rfl (lv_at hl 1 rfl) ?_
              refine lv_iload hx hb dX5_find_74 (lv_at hl 4 rfl) ?_
              refine Cp.callV (As := [.int (nI f9), .int (nI w9)]) (rest := [.ref s0]) (cv_X5_149 hg ⟨Nat.le_of_ble_eq_true rfl, Nat.le_of_ble_eq_true rfl⟩) (k_formPitch l D cI a0 n0 t0 s0 r0 g0 p0 q0 t1 t2 tn TP TL f9 w9 hf9 (by omega) ht) cx hK hP [0, 4, 5, 6] rfl (rq := 0) rfl rfl rfl hS rfl hl.1 rfl (Nat.le_of_ble_eq_true rfl) dX5_find_76 ⟨Nat.zero_le _, Nat.zero_le _⟩ (fun H locs hP hS => ?_)
              refine lv_aload_n hx hb dX5_find_79 rfl (lv_at hl 0 rfl) ?_
              refine lv_iload_n hx hb dX5_find_80 rfl (lv_at hl 1 rfl) ?_
              refine lv_iload hx hb dX5_find_81 (lv_at hl 4 rfl) ?_
              refine Cp.callV (As := [.int (nI f9), .int (nI w9)]) (rest := [.int ((ff_fp TP f9 tn w9)), .ref s0]) (cv_X5_152 hg ⟨Nat.le_of_ble_eq_true rfl, Nat.le_of_ble_eq_true rfl⟩) (k_formLength l D cI a0 n0 t0 s0 r0 g0 p0 q0 t1 t2 tn TP TL f9 w9 hf9 (by omega) ht) cx hK hP [0, 4, 5, 6] rfl (rq := 0) rfl rfl rfl hS rfl hl.1 rfl (Nat.le_of_ble_eq_true rfl) dX5_find_83 ⟨Nat.zero_le _, Nat.zero_le _⟩ (fun H locs hP hS => ?_)
              refine Cv.callV (As := [.int ((ff_fp TP f9 tn w9)), .int ((ff_fl TL f9 tn w9))]) (rest := []) (wr := [(a0, .inr (5, [.ref n0, .ref t0, .ref s0, .ref r0, .ref g0, .ref p0, .ref q0])), (n0, .inr (1, [.ref n1, .ref n2, .int (nI nn)])), (n1, oI cI 60 NP), (n2, oI cI 60 NL), (t0, .inr (1, [.ref t1, .ref t2, .int (nI tn)])), (t1, oI cI 60 TP), (t2, oI cI 60 TL), (r0, .inr (0, [.ref r1, .int rz])), (r1, oI cI 60 RF), (g0, .inr (4, [.ref g1, .ref g2, .int (nI gn)])), (g1, oI cI 2700 GP), (g2, oI cI 60 GS), (p0, .inr (3, [.ref p1, .int (nI pn)])), (p1, oI cI 60 PS), (q0, .inr (2, [.ref q1, .int (nI qn), .int qc, .ref q2, .ref q3, .ref q4])), (q1, oI cI 60 QS), (q2, oI cI 61 lc), (q3, oI cI 61 fw), (q4, oI cI 61 fe)]) (wn := (fun u86 => [(a0, .inr (5, [.ref n0, .ref t0, .ref s0, .ref r0, .ref g0, .ref p0, .ref q0])), (n0, .inr (1, [.ref n1, .ref n2, .int (nI nn)])), (n1, oI cI 60 NP), (n2, oI cI 60 NL), (t0, .inr (1, [.ref t1, .ref t2, .int (nI tn)])), (t1, oI cI 60 TP), (t2, oI cI 60 TL), (s0, .inr (1, [.ref s1, .ref s2, .int (nI (w9 + 1))])), (s1, oI cI 60 (upd (ff_fill (ff_fp TP f9 tn) SP w9) w9 (ff_fp TP f9 tn w9))), (s2, oI cI 60 (upd (ff_fill (ff_fl TL f9 tn) SL w9) w9 (ff_fl TL f9 tn w9))), (r0, .inr (0, [.ref r1, .int rz])), (r1, oI cI 60 RF), (g0, .inr (4, [.ref g1, .ref g2, .int (nI gn)])), (g1, oI cI 2700 GP), (g2, oI cI 60 GS), (p0, .inr (3, [.ref p1, .int (nI pn)])), (p1, oI cI 60 PS), (q0, .inr (2, [.ref q1, .int (nI qn), .int qc, .ref q2, .ref q3, .ref q4])), (q1, oI cI 60 QS), (q2, oI cI 61 lc), (q3, oI cI 61 fw), (q4, oI cI 61 fe)])) (cv_X5_76 hg ⟨Nat.le_of_ble_eq_true rfl, Nat.le_of_ble_eq_true rfl⟩) (k_X1_append l D cI s0 s1 s2 w9 (ff_fill (ff_fp TP f9 tn) SP w9) (ff_fill (ff_fl TL f9 tn) SL w9) (ff_fp TP f9 tn w9) (ff_fl TL f9 tn w9) (by omega)) cx hK hP hD hA [7, 8, 9] [0, 1, 2, 3, 4, 5, 6, 10, 11, 12, 13, 14, 15, 16, 17, 18, 19, 20, 21] [0, 1, 2, 3, 4, 5, 6, 19, 20, 21, 7, 8, 9, 10, 11, 12, 13, 14, 15, 16, 17, 18] rfl rfl (by decide) (fun _ => rfl) (rq := 0) rfl rfl rfl hS rfl hl.1 rfl (Nat.le_of_ble_eq_true rfl) dX5_find_86 ⟨Nat.zero_le _, Nat.zero_le _⟩ (fun H locs u86 p86 hP hD hS => ?_)
              rw [show upd (ff_fill (ff_fp TP f9 tn) SP w9) w9 (ff_fp TP f9 tn w9) = ff_fill (ff_fp TP f9 tn) SP (w9 + 1) from ff_fill_s (ff_fp TP f9 tn) SP w9, show upd (ff_fill (ff_fl TL f9 tn) SL w9) w9 (ff_fl TL f9 tn w9) = ff_fill (ff_fl TL f9 tn) SL (w9 + 1) from ff_fill_s (ff_fl TL f9 tn) SL w9] at hP hD
              refine lv_iinc (v := nI (w9 + 1)) (lv' := [(4, .int (nI (w9 + 1))), (0, .ref a0), (1, .int (nI f9)), (2, .int up), (3, .int dn)]) hx hb dX5_find_89 hl (k := 4) rfl (nI_1 _) (by decide) rfl (fun ls hl => ?_)
              refine lv_goto (tgt := 56) hx hb dX5_find_92 (by decide) ?_
              exact ih_56 (w9 + 1) _ _ _ (by omega) (by omega) hP hD hS (lv_sub hl [1, 2, 3, 4, 0] rfl)
        exact lp_56 (_ + 1) (0) _ _ _ (Nat.zero_le _) (Nat.lt_succ_self _) hP hD hS (lv_sub hl [1, 2, 3, 4, 0] rfl)
      · have c32 := (nz_eq (by omega)).mp c32
        exact hthr _ _ 35 _ 71 161 75 _ _ ff_E_IS (List.mem_of_getElem? (i := 13) rfl) (Or.inr ⟨rfl, ⟨⟨f9, hf9, rfl⟩, c12⟩, c32⟩) hP hS hl.1 dX5_find_35 dX5_find_38 dX5_find_39 dX5_find_41 dX5_find_44
    · have c12 := bI_z.mp c12
      exact hthr _ _ 15 _ 64 159 68 _ _ ff_E_IA (List.mem_of_getElem? (i := 12) rfl) (Or.inl ⟨rfl, fun h => by first | exact c12 h.2 | (obtain ⟨⟨f8, h1, e1⟩, _⟩ := h; exact c4 (by rw [e1]; exact ff_le h1 (by decide)))⟩) hP hS hl.1 dX5_find_15 dX5_find_18 dX5_find_19 dX5_find_21 dX5_find_24

set_option maxHeartbeats 4000000 in
set_option maxRecDepth 100000 in
theorem t_entries (l : Launch) (hst : l.stackTraces = false) (D : va_G) (cI : ClassId) (a0 n0 n1 n2 t0 t1 t2 s0 s1 s2 r0 r1 g0 g1 g2 p0 p1 q0 q1 q2 q3 q4 : Nat) (nn tn sn gn pn qn : Nat) (rz qc : Int32) (NP NL TP TL SP SL RF GP GS PS QS lc fw fe : Nat → Int32) (hn : nn ≤ 60) (ht : tn ≤ 12) (ky hd : Int32) (hTP : ∀ t, t < tn → 0 ≤ (TP t).toInt ∧ (TP t).toInt ≤ 127) : Ct l yX5_entries cX5_entries 4 6 D (tI cI) [.ref a0, .int ky, .int hd] [(a0, .inr (5, [.ref n0, .ref t0, .ref s0, .ref r0, .ref g0, .ref p0, .ref q0])), (n0, .inr (1, [.ref n1, .ref n2, .int (nI nn)])), (n1, oI cI 60 NP), (n2, oI cI 60 NL), (t0, .inr (1, [.ref t1, .ref t2, .int (nI tn)])), (t1, oI cI 60 TP), (t2, oI cI 60 TL), (s0, .inr (1, [.ref s1, .ref s2, .int (nI sn)])), (s1, oI cI 60 SP), (s2, oI cI 60 SL), (r0, .inr (0, [.ref r1, .int rz])), (r1, oI cI 60 RF), (g0, .inr (4, [.ref g1, .ref g2, .int (nI gn)])), (g1, oI cI 2700 GP), (g2, oI cI 60 GS), (p0, .inr (3, [.ref p1, .int (nI pn)])), (p1, oI cI 60 PS), (q0, .inr (2, [.ref q1, .int (nI qn), .int qc, .ref q2, .ref q3, .ref q4])), (q1, oI cI 60 QS), (q2, oI cI 61 lc), (q3, oI cI 61 fw), (q4, oI cI 61 fe)] (S := ff_S) (fun r u => okKH ky hd ∧ 0 < tn ∧ ∃ ul : Nat → Int32, ff_hits (ff_at NP NL (ff_fill (ff_ap TP (cl ky) (cl hd)) SP tn) (ff_fill TL SL tn) tn (nI 0) (nI 0)) (nn + 1 - tn) ul ∧ r = nI (ff_ct (ff_at NP NL (ff_fill (ff_ap TP (cl ky) (cl hd)) SP tn) (ff_fill TL SL tn) tn (nI 0) (nI 0)) (nn + 1 - tn)) ∧ u = (ff_N (nn) (tn) (tn) (gn) (ff_ct (ff_at NP NL (ff_fill (ff_ap TP (cl ky) (cl hd)) SP tn) (ff_fill TL SL tn) tn (nI 0) (nI 0)) (nn + 1 - tn)) (qn), ff_Z (rz) (qc), ff_A14 (NP) (NL) (TP) (TL) (ff_fill (ff_ap TP (cl ky) (cl hd)) SP tn) (ff_fill TL SL tn) (RF) (GP) (GS) (ul) (QS) (lc) (fw) (fe))) (fun u => [(a0, .inr (5, [.ref n0, .ref t0, .ref s0, .ref r0, .ref g0, .ref p0, .ref q0])), (n0, .inr (1, [.ref n1, .ref n2, .int (nI (u.1 0))])), (n1, oI cI 60 (u.2.2 0)), (n2, oI cI 60 (u.2.2 1)), (t0, .inr (1, [.ref t1, .ref t2, .int (nI (u.1 1))])), (t1, oI cI 60 (u.2.2 2)), (t2, oI cI 60 (u.2.2 3)), (s0, .inr (1, [.ref s1, .ref s2, .int (nI (u.1 2))])), (s1, oI cI 60 (u.2.2 4)), (s2, oI cI 60 (u.2.2 5)), (r0, .inr (0, [.ref r1, .int ((u.2.1 0))])), (r1, oI cI 60 (u.2.2 6)), (g0, .inr (4, [.ref g1, .ref g2, .int (nI (u.1 3))])), (g1, oI cI 2700 (u.2.2 7)), (g2, oI cI 60 (u.2.2 8)), (p0, .inr (3, [.ref p1, .int (nI (u.1 4))])), (p1, oI cI 60 (u.2.2 9)), (q0, .inr (2, [.ref q1, .int (nI (u.1 5)), .int ((u.2.1 1)), .ref q2, .ref q3, .ref q4])), (q1, oI cI 60 (u.2.2 10)), (q2, oI cI 61 (u.2.2 11)), (q3, oI cI 61 (u.2.2 12)), (q4, oI cI 61 (u.2.2 13))]) (fun E => (E = xIA ∧ ¬ okKH ky hd) ∨ (E = xIS ∧ okKH ky hd ∧ tn = 0)) := by
  refine Ct.of (lv := [(0, .ref a0), (1, .int ky), (2, .int hd)]) hst (by decide) (by decide +kernel) rfl (Nat.le_of_ble_eq_true rfl) rfl ?_
  intro p e s m args below meth c Q A cx hK hP hD hA hret hthr ls hl
  obtain ⟨hx, hb, hml, hown, hg⟩ := id cx
  have hS : va_S A s.heap s.heap [] := va_S.rf
  refine lv_iload_n hx hb dX5_entries_0 rfl (lv_at hl 1 rfl) ?_
  refine lv_iload_n hx hb dX5_entries_1 rfl (lv_at hl 2 rfl) ?_
  refine Cp.callS (As := [.int ky, .int hd]) (rest := []) (cv_X5_166 hg ⟨Nat.le_of_ble_eq_true rfl, Nat.le_of_ble_eq_true rfl⟩) (k_isKeyAndHead l D cI [] ky hd) cx hK hP [] rfl hS rfl hl.1 rfl (Nat.le_of_ble_eq_true rfl) dX5_entries_2 ⟨Nat.zero_le _, Nat.zero_le _⟩ (fun H locs hP hS => ?_)
  refine lv_if_ne (tgt := 18) hx hb dX5_entries_5 (by decide) (fun c5 => ?_) (fun c5 => ?_)
  · have c5 := bI_nz.mp c5
    obtain ⟨ky9, hky, rfl⟩ := ff_of (by decide) c5.1
    obtain ⟨hd9, hhd, rfl⟩ := ff_of (by decide) c5.2
    refine lv_aload_n hx hb dX5_entries_18 rfl (lv_at hl 0 rfl) ?_
    refine gf_X5_16 hx hb hg hown hK hP 0 rfl rfl dX5_entries_19 ?_
    refine gf_X5_50 hx hb hg hown hK hP 4 rfl rfl dX5_entries_22 ?_
    refine lv_if_ne (tgt := 38) hx hb dX5_entries_25 (by decide) (fun c25 => ?_) (fun c25 => ?_)
    · have c25 := mt (nz_eq (by omega)).mpr c25
      refine lv_aload_n hx hb dX5_entries_38 rfl (lv_at hl 0 rfl) ?_
      refine gf_X5_19 hx hb hg hown hK hP 0 rfl rfl dX5_entries_39 ?_
      refine lv_iconst (v := nI 0) hx hb dX5_entries_42 (by decide) ?_
      refine pf_X5_50 hx hb hg hown hK hP hD hS 7 rfl (Nat.le_of_ble_eq_true rfl) dX5_entries_43 (fun H locs hP hD hS => ?_)
      have hP : va_P D vwCl [(a0, .inr (5, [.ref n0, .ref t0, .ref s0, .ref r0, .ref g0, .ref p0, .ref q0])), (n0, .inr (1, [.ref n1, .ref n2, .int (nI nn)])), (n1, oI cI 60 NP), (n2, oI cI 60 NL), (t0, .inr (1, [.ref t1, .ref t2, .int (nI tn)])), (t1, oI cI 60 TP), (t2, oI cI 60 TL), (s0, .inr (1, [.ref s1, .ref s2, .int (nI 0)])), (s1, oI cI 60 SP), (s2, oI cI 60 SL), (r0, .inr (0, [.ref r1, .int rz])), (r1, oI cI 60 RF), (g0, .inr (4, [.ref g1, .ref g2, .int (nI gn)])), (g1, oI cI 2700 GP), (g2, oI cI 60 GS), (p0, .inr (3, [.ref p1, .int (nI pn)])), (p1, oI cI 60 PS), (q0, .inr (2, [.ref q1, .int (nI qn), .int qc, .ref q2, .ref q3, .ref q4])), (q1, oI cI 60 QS), (q2, oI cI 61 lc), (q3, oI cI 61 fw), (q4, oI cI 61 fe)] H := hP
      have hD : va_D A [(a0, .inr (5, [.ref n0, .ref t0, .ref s0, .ref r0, .ref g0, .ref p0, .ref q0])), (n0, .inr (1, [.ref n1, .ref n2, .int (nI nn)])), (n1, oI cI 60 NP), (n2, oI cI 60 NL), (t0, .inr (1, [.ref t1, .ref t2, .int (nI tn)])), (t1, oI cI 60 TP), (t2, oI cI 60 TL), (s0, .inr (1, [.ref s1, .ref s2, .int (nI 0)])), (s1, oI cI 60 SP), (s2, oI cI 60 SL), (r0, .inr (0, [.ref r1, .int rz])), (r1, oI cI 60 RF), (g0, .inr (4, [.ref g1, .ref g2, .int (nI gn)])), (g1, oI cI 2700 GP), (g2, oI cI 60 GS), (p0, .inr (3, [.ref p1, .int (nI pn)])), (p1, oI cI 60 PS), (q0, .inr (2, [.ref q1, .int (nI qn), .int qc, .ref q2, .ref q3, .ref q4])), (q1, oI cI 60 QS), (q2, oI cI 61 lc), (q3, oI cI 61 fw), (q4, oI cI 61 fe)] := hD
      refine lv_iconst (v := nI 0) hx hb dX5_entries_46 (by decide) ?_
      refine lv_istore_n (lv' := [(3, .int (nI 0)), (0, .ref a0), (1, .int (nI ky9)), (2, .int (nI hd9))]) hx hb dX5_entries_47 rfl hl (by decide) rfl (fun ls hl => ?_)
      rw [← ff_fill_0 (ff_ap TP ky9 hd9) SP, ← ff_fill_0 (TL) SL] at hP hD
      have lp_48 : ∀ (k : Nat) (w9 : Nat) (H : Heap) (locs : List Loc) (ls : Array Slot), (w9 ≤ tn) → (tn - w9 < k) → va_P D vwCl [(a0, .inr (5, [.ref n0, .ref t0, .ref s0, .ref r0, .ref g0, .ref p0, .ref q0])), (n0, .inr (1, [.ref n1, .ref n2, .int (nI nn)])), (n1, oI cI 60 NP), (n2, oI cI 60 NL), (t0, .inr (1, [.ref t1, .ref t2, .int (nI tn)])), (t1, oI cI 60 TP), (t2, oI cI 60 TL), (s0, .inr (1, [.ref s1, .ref s2, .int (nI w9)])), (s1, oI cI 60 (ff_fill (ff_ap TP ky9 hd9) SP (w9))), (s2, oI cI 60 (ff_fill (TL) SL (w9))), (r0, .inr (0, [.ref r1, .int rz])), (r1, oI cI 60 RF), (g0, .inr (4, [.ref g1, .ref g2, .int (nI gn)])), (g1, oI cI 2700 GP), (g2, oI cI 60 GS), (p0, .inr (3, [.ref p1, .int (nI pn)])), (p1, oI cI 60 PS), (q0, .inr (2, [.ref q1, .int (nI qn), .int qc, .ref q2, .ref q3, .ref q4])), (q1, oI cI 60 QS), (q2, oI cI 61 lc), (q3, oI cI 61 fw), (q4, oI cI 61 fe)] H → va_D A [(a0, .inr (5, [.ref n0, .ref t0, .ref s0, .ref r0, .ref g0, .ref p0, .ref q0])), (n0, .inr (1, [.ref n1, .ref n2, .int (nI nn)])), (n1, oI cI 60 NP), (n2, oI cI 60 NL), (t0, .inr (1, [.ref t1, .ref t2, .int (nI tn)])), (t1, oI cI 60 TP), (t2, oI cI 60 TL), (s0, .inr (1, [.ref s1, .ref s2, .int (nI w9)])), (s1, oI cI 60 (ff_fill (ff_ap TP ky9 hd9) SP (w9))), (s2, oI cI 60 (ff_fill (TL) SL (w9))), (r0, .inr (0, [.ref r1, .int rz])), (r1, oI cI 60 RF), (g0, .inr (4, [.ref g1, .ref g2, .int (nI gn)])), (g1, oI cI 2700 GP), (g2, oI cI 60 GS), (p0, .inr (3, [.ref p1, .int (nI pn)])), (p1, oI cI 60 PS), (q0, .inr (2, [.ref q1, .int (nI qn), .int qc, .ref q2, .ref q3, .ref q4])), (q1, oI cI 60 QS), (q2, oI cI 61 lc), (q3, oI cI 61 fw), (q4, oI cI 61 fe)] → va_S A s.heap H locs → lv_has ls 4 [(0, .ref a0), (1, .int (nI ky9)), (2, .int (nI hd9)), (3, .int (nI w9))] → W p l e (rr 6 1 6) s m args below meth c H locs 0 0 Q (F0 m 48 ls []) := by
        intro k
        induction k with
        | zero =>
          intro w9 H locs ls hw hk
          exact absurd hk (Nat.not_lt_zero _)
        | succ k ih_48 =>
          intro w9 H locs ls hw hk hP hD hS hl
          refine lv_iload_n hx hb dX5_entries_48 rfl (lv_at hl 3 rfl) ?_
          refine lv_aload_n hx hb dX5_entries_49 rfl (lv_at hl 0 rfl) ?_
          refine gf_X5_16 hx hb hg hown hK hP 0 rfl rfl dX5_entries_50 ?_
          refine gf_X5_50 hx hb hg hown hK hP 4 rfl rfl dX5_entries_53 ?_
          refine lv_icmp_ge (tgt := 88) hx hb dX5_entries_56 (by decide) (fun c56 => ?_) (fun c56 => ?_)
          · have c56 := (nI_leI (by omega) (by omega)).mp c56
            obtain rfl : tn = w9 := by omega
            refine lv_aload_n hx hb dX5_entries_88 rfl (lv_at hl 0 rfl) ?_
            refine lv_iconst (v := nI 0) hx hb dX5_entries_89 (by decide) ?_
            refine lv_iconst (v := nI 0) hx hb dX5_entries_90 (by decide) ?_
            refine Cv.callV (As := [.int (nI 0), .int (nI 0)]) (rest := []) (wr := [(t0, .inr (1, [.ref t1, .ref t2, .int (nI tn)])), (t1, oI cI 60 TP), (t2, oI cI 60 TL), (r0, .inr (0, [.ref r1, .int rz])), (r1, oI cI 60 RF), (g0, .inr (4, [.ref g1, .ref g2, .int (nI gn)])), (g1, oI cI 2700 GP), (g2, oI cI 60 GS), (q0, .inr (2, [.ref q1, .int (nI qn), .int qc, .ref q2, .ref q3, .ref q4])), (q1, oI cI 60 QS), (q2, oI cI 61 lc), (q3, oI cI 61 fw), (q4, oI cI 61 fe)]) (wn := (fun ul => [(a0, .inr (5, [.ref n0, .ref t0, .ref s0, .ref r0, .ref g0, .ref p0, .ref q0])), (n0, .inr (1, [.ref n1, .ref n2, .int (nI nn)])), (n1, oI cI 60 NP), (n2, oI cI 60 NL), (t0, .inr (1, [.ref t1, .ref t2, .int (nI tn)])), (t1, oI cI 60 TP), (t2, oI cI 60 TL), (s0, .inr (1, [.ref s1, .ref s2, .int (nI tn)])), (s1, oI cI 60 (ff_fill (ff_ap TP ky9 hd9) SP tn)), (s2, oI cI 60 (ff_fill (TL) SL tn)), (r0, .inr (0, [.ref r1, .int rz])), (r1, oI cI 60 RF), (g0, .inr (4, [.ref g1, .ref g2, .int (nI gn)])), (g1, oI cI 2700 GP), (g2, oI cI 60 GS), (p0, .inr (3, [.ref p1, .int (nI (ff_ct (ff_at NP NL (ff_fill (ff_ap TP ky9 hd9) SP tn) (ff_fill (TL) SL tn) tn (nI 0) (nI 0)) (nn + 1 - tn)))])), (p1, oI cI 60 ul), (q0, .inr (2, [.ref q1, .int (nI qn), .int qc, .ref q2, .ref q3, .ref q4])), (q1, oI cI 60 QS), (q2, oI cI 61 lc), (q3, oI cI 61 fw), (q4, oI cI 61 fe)])) (cv_X5_163 hg ⟨Nat.le_of_ble_eq_true rfl, Nat.le_of_ble_eq_true rfl⟩) (k_lookForSought l D cI a0 n0 t0 s0 r0 g0 p0 q0 n1 n2 nn NP NL s1 s2 tn (ff_fill (ff_ap TP ky9 hd9) SP tn) (ff_fill (TL) SL tn) p1 (nI pn) PS (nI 0) (nI 0) hn (by omega) (by omega)) cx hK hP hD hA [0, 1, 2, 3, 7, 8, 9, 15, 16] [4, 5, 6, 10, 11, 12, 13, 14, 17, 18, 19, 20, 21] [13, 14, 15, 16, 0, 1, 2, 17, 18, 19, 3, 4, 5, 6, 7, 20, 21, 8, 9, 10, 11, 12] rfl rfl (by decide) (fun _ => rfl) (rq := 0) rfl rfl rfl hS rfl hl.1 rfl (Nat.le_of_ble_eq_true rfl) dX5_entries_91 ⟨Nat.zero_le _, Nat.zero_le _⟩ (fun H locs ul p91 hP hD hS => ?_)
            refine lv_aload_n hx hb dX5_entries_94 rfl (lv_at hl 0 rfl) ?_
            refine gf_X5_39 hx hb hg hown hK hP 0 rfl rfl dX5_entries_95 ?_
            refine gf_X5_55 hx hb hg hown hK hP 15 rfl rfl dX5_entries_98 ?_
            exact hret _ _ 101 _ _ ((ff_N (nn) (tn) (tn) (gn) (ff_ct (ff_at NP NL (ff_fill (ff_ap TP ky9 hd9) SP tn) (ff_fill (TL) SL tn) tn (nI 0) (nI 0)) (nn + 1 - tn)) (qn), ff_Z (rz) (qc), ff_A14 (NP) (NL) (TP) (TL) (ff_fill (ff_ap TP ky9 hd9) SP tn) (ff_fill (TL) SL tn) (RF) (GP) (GS) (ul) (QS) (lc) (fw) (fe))) (⟨⟨ky9, hd9, hky, rfl, hhd, rfl⟩, by omega, ul, by rw [cl_n (by omega), cl_n (by omega)]; exact ⟨p91, rfl, rfl⟩⟩) hP hD hS dX5_entries_101
          · have c56 := mt (nI_leI (by omega) (by omega)).mpr c56
            refine lv_aload_n hx hb dX5_entries_59 rfl (lv_at hl 0 rfl) ?_
            refine gf_X5_19 hx hb hg hown hK hP 0 rfl rfl dX5_entries_60 ?_
            refine lv_aload_n hx hb dX5_entries_63 rfl (lv_at hl 0 rfl) ?_
            refine lv_iload_n hx hb dX5_entries_64 rfl (lv_at hl 1 rfl) ?_
            refine lv_iload_n hx hb dX5_entries_65 rfl (lv_at hl 2 rfl) ?_
            refine lv_iload_n hx hb dX5_entries_66 rfl (lv_at hl 3 rfl) ?_
            refine Cp.callV (As := [.int (nI ky9), .int (nI hd9), .int (nI w9)]) (rest := [.ref s0]) (cv_X5_171 hg ⟨Nat.le_of_ble_eq_true rfl, Nat.le_of_ble_eq_true rfl⟩) (k_answerPitch l D cI a0 n0 t0 s0 r0 g0 p0 q0 t1 t2 tn TP TL ky9 hd9 w9 hky hhd (by omega) ht (hTP w9 (by omega)).1 (hTP w9 (by omega)).2) cx hK hP [0, 4, 5, 6] rfl (rq := 0) rfl rfl rfl hS rfl hl.1 rfl (Nat.le_of_ble_eq_true rfl) dX5_entries_67 ⟨Nat.zero_le _, Nat.zero_le _⟩ (fun H locs hP hS => ?_)
            refine lv_aload_n hx hb dX5_entries_70 rfl (lv_at hl 0 rfl) ?_
            refine gf_X5_16 hx hb hg hown hK hP 0 rfl rfl dX5_entries_71 ?_
            refine gf_X5_141 hx hb hg hown hK hP 4 rfl rfl dX5_entries_74 ?_
            refine lv_iload_n hx hb dX5_entries_77 rfl (lv_at hl 3 rfl) ?_
            refine ald hx hb hK hP 6 rfl rfl (by omega) dX5_entries_78 ?_
            refine Cv.callV (As := [.int ((ff_ap TP ky9 hd9 w9)), .int ((TL w9))]) (rest := []) (wr := [(a0, .inr (5, [.ref n0, .ref t0, .ref s0, .ref r0, .ref g0, .ref p0, .ref q0])), (n0, .inr (1, [.ref n1, .ref n2, .int (nI nn)])), (n1, oI cI 60 NP), (n2, oI cI 60 NL), (t0, .inr (1, [.ref t1, .ref t2, .int (nI tn)])), (t1, oI cI 60 TP), (t2, oI cI 60 TL), (r0, .inr (0, [.ref r1, .int rz])), (r1, oI cI 60 RF), (g0, .inr (4, [.ref g1, .ref g2, .int (nI gn)])), (g1, oI cI 2700 GP), (g2, oI cI 60 GS), (p0, .inr (3, [.ref p1, .int (nI pn)])), (p1, oI cI 60 PS), (q0, .inr (2, [.ref q1, .int (nI qn), .int qc, .ref q2, .ref q3, .ref q4])), (q1, oI cI 60 QS), (q2, oI cI 61 lc), (q3, oI cI 61 fw), (q4, oI cI 61 fe)]) (wn := (fun u79 => [(a0, .inr (5, [.ref n0, .ref t0, .ref s0, .ref r0, .ref g0, .ref p0, .ref q0])), (n0, .inr (1, [.ref n1, .ref n2, .int (nI nn)])), (n1, oI cI 60 NP), (n2, oI cI 60 NL), (t0, .inr (1, [.ref t1, .ref t2, .int (nI tn)])), (t1, oI cI 60 TP), (t2, oI cI 60 TL), (s0, .inr (1, [.ref s1, .ref s2, .int (nI (w9 + 1))])), (s1, oI cI 60 (upd (ff_fill (ff_ap TP ky9 hd9) SP w9) w9 (ff_ap TP ky9 hd9 w9))), (s2, oI cI 60 (upd (ff_fill (TL) SL w9) w9 (TL w9))), (r0, .inr (0, [.ref r1, .int rz])), (r1, oI cI 60 RF), (g0, .inr (4, [.ref g1, .ref g2, .int (nI gn)])), (g1, oI cI 2700 GP), (g2, oI cI 60 GS), (p0, .inr (3, [.ref p1, .int (nI pn)])), (p1, oI cI 60 PS), (q0, .inr (2, [.ref q1, .int (nI qn), .int qc, .ref q2, .ref q3, .ref q4])), (q1, oI cI 60 QS), (q2, oI cI 61 lc), (q3, oI cI 61 fw), (q4, oI cI 61 fe)])) (cv_X5_76 hg ⟨Nat.le_of_ble_eq_true rfl, Nat.le_of_ble_eq_true rfl⟩) (k_X1_append l D cI s0 s1 s2 w9 (ff_fill (ff_ap TP ky9 hd9) SP w9) (ff_fill (TL) SL w9) (ff_ap TP ky9 hd9 w9) (TL w9) (by omega)) cx hK hP hD hA [7, 8, 9] [0, 1, 2, 3, 4, 5, 6, 10, 11, 12, 13, 14, 15, 16, 17, 18, 19, 20, 21] [0, 1, 2, 3, 4, 5, 6, 19, 20, 21, 7, 8, 9, 10, 11, 12, 13, 14, 15, 16, 17, 18] rfl rfl (by decide) (fun _ => rfl) (rq := 0) rfl rfl rfl hS rfl hl.1 rfl (Nat.le_of_ble_eq_true rfl) dX5_entries_79 ⟨Nat.zero_le _, Nat.zero_le _⟩ (fun H locs u79 p79 hP hD hS => ?_)
            rw [show upd (ff_fill (ff_ap TP ky9 hd9) SP w9) w9 (ff_ap TP ky9 hd9 w9) = ff_fill (ff_ap TP ky9 hd9) SP (w9 + 1) from ff_fill_s (ff_ap TP ky9 hd9) SP w9, show upd (ff_fill (TL) SL w9) w9 (TL w9) = ff_fill (TL) SL (w9 + 1) from ff_fill_s (TL) SL w9] at hP hD
            refine lv_iinc (v := nI (w9 + 1)) (lv' := [(3, .int (nI (w9 + 1))), (0, .ref a0), (1, .int (nI ky9)), (2, .int (nI hd9))]) hx hb dX5_entries_82 hl (k := 3) rfl (nI_1 _) (by decide) rfl (fun ls hl => ?_)
            refine lv_goto (tgt := 48) hx hb dX5_entries_85 (by decide) ?_
            exact ih_48 (w9 + 1) _ _ _ (by omega) (by omega) hP hD hS (lv_sub hl [1, 2, 3, 0] rfl)
      exact lp_48 (_ + 1) (0) _ _ _ (Nat.zero_le _) (Nat.lt_succ_self _) hP hD hS (lv_sub hl [1, 2, 3, 0] rfl)
    · have c25 := (nz_eq (by omega)).mp c25
      exact hthr _ _ 28 _ 71 161 75 _ _ ff_E_IS (List.mem_of_getElem? (i := 13) rfl) (Or.inr ⟨rfl, ⟨ky9, hd9, hky, rfl, hhd, rfl⟩, c25⟩) hP hS hl.1 dX5_entries_28 dX5_entries_31 dX5_entries_32 dX5_entries_34 dX5_entries_37
  · have c5 := bI_z.mp c5
    exact hthr _ _ 8 _ 64 174 68 _ _ ff_E_IA (List.mem_of_getElem? (i := 15) rfl) (Or.inl ⟨rfl, fun h => by obtain ⟨a8, b8, h1, e1, h2, e2⟩ := h; exact c5 (by rw [e1, e2]; exact ⟨ff_le h1 (by decide), ff_le h2 (by decide)⟩)⟩) hP hS hl.1 dX5_entries_8 dX5_entries_11 dX5_entries_12 dX5_entries_14 dX5_entries_17

set_option maxHeartbeats 4000000 in
set_option maxRecDepth 100000 in
theorem t_found (l : Launch) (hst : l.stackTraces = false) (D : va_G) (cI : ClassId) (a0 n0 n1 n2 t0 t1 t2 s0 s1 s2 r0 r1 g0 g1 g2 p0 p1 q0 q1 q2 q3 q4 : Nat) (nn tn sn gn pn qn : Nat) (rz qc : Int32) (NP NL TP TL SP SL RF GP GS PS QS lc fw fe : Nat → Int32) (hn : nn ≤ 60) (ht : tn ≤ 12) (q : Int32) (hpn : pn ≤ 60) : Ct l yX5_found cX5_found 2 6 D (tI cI) [.ref a0, .int q] [(a0, .inr (5, [.ref n0, .ref t0, .ref s0, .ref r0, .ref g0, .ref p0, .ref q0])), (n0, .inr (1, [.ref n1, .ref n2, .int (nI nn)])), (n1, oI cI 60 NP), (n2, oI cI 60 NL), (t0, .inr (1, [.ref t1, .ref t2, .int (nI tn)])), (t1, oI cI 60 TP), (t2, oI cI 60 TL), (s0, .inr (1, [.ref s1, .ref s2, .int (nI sn)])), (s1, oI cI 60 SP), (s2, oI cI 60 SL), (r0, .inr (0, [.ref r1, .int rz])), (r1, oI cI 60 RF), (g0, .inr (4, [.ref g1, .ref g2, .int (nI gn)])), (g1, oI cI 2700 GP), (g2, oI cI 60 GS), (p0, .inr (3, [.ref p1, .int (nI pn)])), (p1, oI cI 60 PS), (q0, .inr (2, [.ref q1, .int (nI qn), .int qc, .ref q2, .ref q3, .ref q4])), (q1, oI cI 60 QS), (q2, oI cI 61 lc), (q3, oI cI 61 fw), (q4, oI cI 61 fe)] (S := ff_S) (fun r u => 0 ≤ q ∧ r = (if cl q < pn then PS (cl q) else (-1)) ∧ u = (ff_N (nn) (tn) (sn) (gn) (pn) (qn), ff_Z (rz) (qc), ff_A14 (NP) (NL) (TP) (TL) (SP) (SL) (RF) (GP) (GS) (PS) (QS) (lc) (fw) (fe))) (fun u => [(a0, .inr (5, [.ref n0, .ref t0, .ref s0, .ref r0, .ref g0, .ref p0, .ref q0])), (n0, .inr (1, [.ref n1, .ref n2, .int (nI (u.1 0))])), (n1, oI cI 60 (u.2.2 0)), (n2, oI cI 60 (u.2.2 1)), (t0, .inr (1, [.ref t1, .ref t2, .int (nI (u.1 1))])), (t1, oI cI 60 (u.2.2 2)), (t2, oI cI 60 (u.2.2 3)), (s0, .inr (1, [.ref s1, .ref s2, .int (nI (u.1 2))])), (s1, oI cI 60 (u.2.2 4)), (s2, oI cI 60 (u.2.2 5)), (r0, .inr (0, [.ref r1, .int ((u.2.1 0))])), (r1, oI cI 60 (u.2.2 6)), (g0, .inr (4, [.ref g1, .ref g2, .int (nI (u.1 3))])), (g1, oI cI 2700 (u.2.2 7)), (g2, oI cI 60 (u.2.2 8)), (p0, .inr (3, [.ref p1, .int (nI (u.1 4))])), (p1, oI cI 60 (u.2.2 9)), (q0, .inr (2, [.ref q1, .int (nI (u.1 5)), .int ((u.2.1 1)), .ref q2, .ref q3, .ref q4])), (q1, oI cI 60 (u.2.2 10)), (q2, oI cI 61 (u.2.2 11)), (q3, oI cI 61 (u.2.2 12)), (q4, oI cI 61 (u.2.2 13))]) (fun E => E = xIA ∧ ¬ 0 ≤ q) := by
  refine Ct.of (lv := [(0, .ref a0), (1, .int q)]) hst (by decide) (by decide +kernel) rfl (Nat.le_of_ble_eq_true rfl) rfl ?_
  intro p e s m args below meth c Q A cx hK hP hD hA hret hthr ls hl
  obtain ⟨hx, hb, hml, hown, hg⟩ := id cx
  have hS : va_S A s.heap s.heap [] := va_S.rf
  refine lv_iload_n hx hb dX5_found_0 rfl (lv_at hl 1 rfl) ?_
  refine lv_if_ge (tgt := 14) hx hb dX5_found_1 (by decide) (fun c1 => ?_) (fun c1 => ?_)
  · skip
    obtain ⟨w9, hw9, rfl⟩ := nI_of (i_nlt.mpr c1)
    refine lv_iload_n hx hb dX5_found_14 rfl (lv_at hl 1 rfl) ?_
    refine lv_aload_n hx hb dX5_found_15 rfl (lv_at hl 0 rfl) ?_
    refine gf_X5_39 hx hb hg hown hK hP 0 rfl rfl dX5_found_16 ?_
    refine gf_X5_55 hx hb hg hown hK hP 15 rfl rfl dX5_found_19 ?_
    refine lv_icmp_ge (tgt := 37) hx hb dX5_found_22 (by decide) (fun c22 => ?_) (fun c22 => ?_)
    · have c22 := (nI_leI (by omega) (by omega)).mp c22
      refine lv_iconst (v := (-1)) hx hb dX5_found_37 (by decide) ?_
      exact hret _ _ 38 _ _ ((ff_N (nn) (tn) (sn) (gn) (pn) (qn), ff_Z (rz) (qc), ff_A14 (NP) (NL) (TP) (TL) (SP) (SL) (RF) (GP) (GS) (PS) (QS) (lc) (fw) (fe))) (⟨nI_pos' hw9, by rw [cl_n hw9]; first | rw [if_pos (by omega)] | rw [if_neg (by omega)], rfl⟩) hP hD hS dX5_found_38
    · have c22 := mt (nI_leI (by omega) (by omega)).mpr c22
      refine lv_aload_n hx hb dX5_found_25 rfl (lv_at hl 0 rfl) ?_
      refine gf_X5_39 hx hb hg hown hK hP 0 rfl rfl dX5_found_26 ?_
      refine gf_X5_178 hx hb hg hown hK hP 15 rfl rfl dX5_found_29 ?_
      refine lv_iload_n hx hb dX5_found_32 rfl (lv_at hl 1 rfl) ?_
      refine ald hx hb hK hP 16 rfl rfl (by omega) dX5_found_33 ?_
      refine lv_goto (tgt := 38) hx hb dX5_found_34 (by decide) ?_
      exact hret _ _ 38 _ _ ((ff_N (nn) (tn) (sn) (gn) (pn) (qn), ff_Z (rz) (qc), ff_A14 (NP) (NL) (TP) (TL) (SP) (SL) (RF) (GP) (GS) (PS) (QS) (lc) (fw) (fe))) (⟨nI_pos' hw9, by rw [cl_n hw9]; first | rw [if_pos (by omega)] | rw [if_neg (by omega)], rfl⟩) hP hD hS dX5_found_38
  · skip
    exact hthr _ _ 4 _ 64 176 68 _ _ ff_E_IA (List.mem_of_getElem? (i := 16) rfl) (⟨rfl, c1⟩) hP hS hl.1 dX5_found_4 dX5_found_7 dX5_found_8 dX5_found_10 dX5_found_13

set_option maxHeartbeats 4000000 in
set_option maxRecDepth 100000 in
theorem t_section (l : Launch) (hst : l.stackTraces = false) (D : va_G) (cI : ClassId) (a0 n0 n1 n2 t0 t1 t2 s0 s1 s2 r0 r1 g0 g1 g2 p0 p1 q0 q1 q2 q3 q4 : Nat) (nn tn sn gn pn qn : Nat) (rz qc : Int32) (NP NL TP TL SP SL RF GP GS PS QS lc fw fe : Nat → Int32) (hn : nn ≤ 60) (ht : tn ≤ 12) (q : Int32) (hqn : qn ≤ 60) : Ct l yX5_section cX5_section 2 6 D (tI cI) [.ref a0, .int q] [(a0, .inr (5, [.ref n0, .ref t0, .ref s0, .ref r0, .ref g0, .ref p0, .ref q0])), (n0, .inr (1, [.ref n1, .ref n2, .int (nI nn)])), (n1, oI cI 60 NP), (n2, oI cI 60 NL), (t0, .inr (1, [.ref t1, .ref t2, .int (nI tn)])), (t1, oI cI 60 TP), (t2, oI cI 60 TL), (s0, .inr (1, [.ref s1, .ref s2, .int (nI sn)])), (s1, oI cI 60 SP), (s2, oI cI 60 SL), (r0, .inr (0, [.ref r1, .int rz])), (r1, oI cI 60 RF), (g0, .inr (4, [.ref g1, .ref g2, .int (nI gn)])), (g1, oI cI 2700 GP), (g2, oI cI 60 GS), (p0, .inr (3, [.ref p1, .int (nI pn)])), (p1, oI cI 60 PS), (q0, .inr (2, [.ref q1, .int (nI qn), .int qc, .ref q2, .ref q3, .ref q4])), (q1, oI cI 60 QS), (q2, oI cI 61 lc), (q3, oI cI 61 fw), (q4, oI cI 61 fe)] (S := ff_S) (fun r u => 0 ≤ q ∧ r = (if cl q < qn then QS (cl q) else (-1)) ∧ u = (ff_N (nn) (tn) (sn) (gn) (pn) (qn), ff_Z (rz) (qc), ff_A14 (NP) (NL) (TP) (TL) (SP) (SL) (RF) (GP) (GS) (PS) (QS) (lc) (fw) (fe))) (fun u => [(a0, .inr (5, [.ref n0, .ref t0, .ref s0, .ref r0, .ref g0, .ref p0, .ref q0])), (n0, .inr (1, [.ref n1, .ref n2, .int (nI (u.1 0))])), (n1, oI cI 60 (u.2.2 0)), (n2, oI cI 60 (u.2.2 1)), (t0, .inr (1, [.ref t1, .ref t2, .int (nI (u.1 1))])), (t1, oI cI 60 (u.2.2 2)), (t2, oI cI 60 (u.2.2 3)), (s0, .inr (1, [.ref s1, .ref s2, .int (nI (u.1 2))])), (s1, oI cI 60 (u.2.2 4)), (s2, oI cI 60 (u.2.2 5)), (r0, .inr (0, [.ref r1, .int ((u.2.1 0))])), (r1, oI cI 60 (u.2.2 6)), (g0, .inr (4, [.ref g1, .ref g2, .int (nI (u.1 3))])), (g1, oI cI 2700 (u.2.2 7)), (g2, oI cI 60 (u.2.2 8)), (p0, .inr (3, [.ref p1, .int (nI (u.1 4))])), (p1, oI cI 60 (u.2.2 9)), (q0, .inr (2, [.ref q1, .int (nI (u.1 5)), .int ((u.2.1 1)), .ref q2, .ref q3, .ref q4])), (q1, oI cI 60 (u.2.2 10)), (q2, oI cI 61 (u.2.2 11)), (q3, oI cI 61 (u.2.2 12)), (q4, oI cI 61 (u.2.2 13))]) (fun E => E = xIA ∧ ¬ 0 ≤ q) := by
  refine Ct.of (lv := [(0, .ref a0), (1, .int q)]) hst (by decide) (by decide +kernel) rfl (Nat.le_of_ble_eq_true rfl) rfl ?_
  intro p e s m args below meth c Q A cx hK hP hD hA hret hthr ls hl
  obtain ⟨hx, hb, hml, hown, hg⟩ := id cx
  have hS : va_S A s.heap s.heap [] := va_S.rf
  refine lv_iload_n hx hb dX5_section_0 rfl (lv_at hl 1 rfl) ?_
  refine lv_if_ge (tgt := 14) hx hb dX5_section_1 (by decide) (fun c1 => ?_) (fun c1 => ?_)
  · skip
    obtain ⟨w9, hw9, rfl⟩ := nI_of (i_nlt.mpr c1)
    refine lv_iload_n hx hb dX5_section_14 rfl (lv_at hl 1 rfl) ?_
    refine lv_aload_n hx hb dX5_section_15 rfl (lv_at hl 0 rfl) ?_
    refine gf_X5_46 hx hb hg hown hK hP 0 rfl rfl dX5_section_16 ?_
    refine gf_X5_56 hx hb hg hown hK hP 17 rfl rfl dX5_section_19 ?_
    refine lv_icmp_ge (tgt := 37) hx hb dX5_section_22 (by decide) (fun c22 => ?_) (fun c22 => ?_)
    · have c22 := (nI_leI (by omega) (by omega)).mp c22
      refine lv_iconst (v := (-1)) hx hb dX5_section_37 (by decide) ?_
      exact hret _ _ 38 _ _ ((ff_N (nn) (tn) (sn) (gn) (pn) (qn), ff_Z (rz) (qc), ff_A14 (NP) (NL) (TP) (TL) (SP) (SL) (RF) (GP) (GS) (PS) (QS) (lc) (fw) (fe))) (⟨nI_pos' hw9, by rw [cl_n hw9]; first | rw [if_pos (by omega)] | rw [if_neg (by omega)], rfl⟩) hP hD hS dX5_section_38
    · have c22 := mt (nI_leI (by omega) (by omega)).mpr c22
      refine lv_aload_n hx hb dX5_section_25 rfl (lv_at hl 0 rfl) ?_
      refine gf_X5_46 hx hb hg hown hK hP 0 rfl rfl dX5_section_26 ?_
      refine gf_X5_187 hx hb hg hown hK hP 17 rfl rfl dX5_section_29 ?_
      refine lv_iload_n hx hb dX5_section_32 rfl (lv_at hl 1 rfl) ?_
      refine ald hx hb hK hP 18 rfl rfl (by omega) dX5_section_33 ?_
      refine lv_goto (tgt := 38) hx hb dX5_section_34 (by decide) ?_
      exact hret _ _ 38 _ _ ((ff_N (nn) (tn) (sn) (gn) (pn) (qn), ff_Z (rz) (qc), ff_A14 (NP) (NL) (TP) (TL) (SP) (SL) (RF) (GP) (GS) (PS) (QS) (lc) (fw) (fe))) (⟨nI_pos' hw9, by rw [cl_n hw9]; first | rw [if_pos (by omega)] | rw [if_neg (by omega)], rfl⟩) hP hD hS dX5_section_38
  · skip
    exact hthr _ _ 4 _ 64 176 68 _ _ ff_E_IA (List.mem_of_getElem? (i := 16) rfl) (⟨rfl, c1⟩) hP hS hl.1 dX5_section_4 dX5_section_7 dX5_section_8 dX5_section_10 dX5_section_13

set_option maxHeartbeats 4000000 in
set_option maxRecDepth 100000 in
theorem t_sections (l : Launch) (hst : l.stackTraces = false) (D : va_G) (cI : ClassId) (a0 n0 n1 n2 t0 t1 t2 s0 s1 s2 r0 r1 g0 g1 g2 p0 p1 q0 q1 q2 q3 q4 : Nat) (nn tn sn gn pn qn : Nat) (rz qc : Int32) (NP NL TP TL SP SL RF GP GS PS QS lc fw fe : Nat → Int32) (hn : nn ≤ 60) (ht : tn ≤ 12) (base bw : Int32) : Ct l yX5_sections cX5_sections 3 6 D (tI cI) [.ref a0, .int base, .int bw] [(a0, .inr (5, [.ref n0, .ref t0, .ref s0, .ref r0, .ref g0, .ref p0, .ref q0])), (n0, .inr (1, [.ref n1, .ref n2, .int (nI nn)])), (n1, oI cI 60 NP), (n2, oI cI 60 NL), (t0, .inr (1, [.ref t1, .ref t2, .int (nI tn)])), (t1, oI cI 60 TP), (t2, oI cI 60 TL), (s0, .inr (1, [.ref s1, .ref s2, .int (nI sn)])), (s1, oI cI 60 SP), (s2, oI cI 60 SL), (r0, .inr (0, [.ref r1, .int rz])), (r1, oI cI 60 RF), (g0, .inr (4, [.ref g1, .ref g2, .int (nI gn)])), (g1, oI cI 2700 GP), (g2, oI cI 60 GS), (p0, .inr (3, [.ref p1, .int (nI pn)])), (p1, oI cI 60 PS), (q0, .inr (2, [.ref q1, .int (nI qn), .int qc, .ref q2, .ref q3, .ref q4])), (q1, oI cI 60 QS), (q2, oI cI 61 lc), (q3, oI cI 61 fw), (q4, oI cI 61 fe)] (S := ff_S) (fun r u => okSe base bw ∧ r = nI (ff_sn NP nn base bw) ∧ ∃ u1 u2 u3 u4 : Nat → Int32, (∀ t, t < ff_sn NP nn base bw → u1 t = nI (ff_ch (ff_D NP nn base bw nn).2.2 t 0)) ∧ u = (ff_N (nn) (tn) (sn) (gn) (pn) (ff_sn NP nn base bw), ff_Z (rz) (((ff_D NP nn base bw nn).1 0)), ff_A14 (NP) (NL) (TP) (TL) (SP) (SL) (RF) (GP) (GS) (PS) (u1) (u2) (u3) (u4))) (fun u => [(a0, .inr (5, [.ref n0, .ref t0, .ref s0, .ref r0, .ref g0, .ref p0, .ref q0])), (n0, .inr (1, [.ref n1, .ref n2, .int (nI (u.1 0))])), (n1, oI cI 60 (u.2.2 0)), (n2, oI cI 60 (u.2.2 1)), (t0, .inr (1, [.ref t1, .ref t2, .int (nI (u.1 1))])), (t1, oI cI 60 (u.2.2 2)), (t2, oI cI 60 (u.2.2 3)), (s0, .inr (1, [.ref s1, .ref s2, .int (nI (u.1 2))])), (s1, oI cI 60 (u.2.2 4)), (s2, oI cI 60 (u.2.2 5)), (r0, .inr (0, [.ref r1, .int ((u.2.1 0))])), (r1, oI cI 60 (u.2.2 6)), (g0, .inr (4, [.ref g1, .ref g2, .int (nI (u.1 3))])), (g1, oI cI 2700 (u.2.2 7)), (g2, oI cI 60 (u.2.2 8)), (p0, .inr (3, [.ref p1, .int (nI (u.1 4))])), (p1, oI cI 60 (u.2.2 9)), (q0, .inr (2, [.ref q1, .int (nI (u.1 5)), .int ((u.2.1 1)), .ref q2, .ref q3, .ref q4])), (q1, oI cI 60 (u.2.2 10)), (q2, oI cI 61 (u.2.2 11)), (q3, oI cI 61 (u.2.2 12)), (q4, oI cI 61 (u.2.2 13))]) (fun E => E = xIA ∧ ¬ okSe base bw) := by
  refine Ct.of (lv := [(0, .ref a0), (1, .int base), (2, .int bw)]) hst (by decide) (by decide +kernel) rfl (Nat.le_of_ble_eq_true rfl) rfl ?_
  intro p e s m args below meth c Q A cx hK hP hD hA hret hthr ls hl
  obtain ⟨hx, hb, hml, hown, hg⟩ := id cx
  have hS : va_S A s.heap s.heap [] := va_S.rf
  refine lv_iload_n hx hb dX5_sections_0 rfl (lv_at hl 1 rfl) ?_
  refine lv_iconst (v := nI 0) hx hb dX5_sections_1 (by decide) ?_
  refine lv_sipush (v := nI 1000) hx hb dX5_sections_2 (by decide) ?_
  refine Cp.callS (As := [.int base, .int (nI 0), .int (nI 1000)]) (rest := []) (cv_X5_60 hg ⟨Nat.le_of_ble_eq_true rfl, Nat.le_of_ble_eq_true rfl⟩) (k_isWithin l D cI [] (base) (nI 0) (nI 1000)) cx hK hP [] rfl hS rfl hl.1 rfl (Nat.le_of_ble_eq_true rfl) dX5_sections_5 ⟨Nat.zero_le _, Nat.zero_le _⟩ (fun H locs hP hS => ?_)
  refine lv_if_eq (tgt := 21) hx hb dX5_sections_8 (by decide) (fun c8 => ?_) (fun c8 => ?_)
  · have c8 := bI_z.mp c8
    exact hthr _ _ 21 _ 64 181 68 _ _ ff_E_IA (List.mem_of_getElem? (i := 17) rfl) (⟨rfl, fun h => by first | exact c8 h.1 | exact c18 h.2⟩) hP hS hl.1 dX5_sections_21 dX5_sections_24 dX5_sections_25 dX5_sections_27 dX5_sections_30
  · have c8 := bI_nz.mp c8
    refine lv_iload_n hx hb dX5_sections_11 rfl (lv_at hl 2 rfl) ?_
    refine lv_iconst (v := nI 0) hx hb dX5_sections_12 (by decide) ?_
    refine lv_bipush (v := nI 100) hx hb dX5_sections_13 (by decide) ?_
    refine Cp.callS (As := [.int bw, .int (nI 0), .int (nI 100)]) (rest := []) (cv_X5_60 hg ⟨Nat.le_of_ble_eq_true rfl, Nat.le_of_ble_eq_true rfl⟩) (k_isWithin l D cI [] (bw) (nI 0) (nI 100)) cx hK hP [] rfl hS rfl hl.1 rfl (Nat.le_of_ble_eq_true rfl) dX5_sections_15 ⟨Nat.zero_le _, Nat.zero_le _⟩ (fun H locs hP hS => ?_)
    refine lv_if_ne (tgt := 31) hx hb dX5_sections_18 (by decide) (fun c18 => ?_) (fun c18 => ?_)
    · have c18 := bI_nz.mp c18
      refine lv_aload_n hx hb dX5_sections_31 rfl (lv_at hl 0 rfl) ?_
      refine gf_X5_46 hx hb hg hown hK hP 0 rfl rfl dX5_sections_32 ?_
      refine lv_aload_n hx hb dX5_sections_35 rfl (lv_at hl 0 rfl) ?_
      refine gf_X5_10 hx hb hg hown hK hP 0 rfl rfl dX5_sections_36 ?_
      refine lv_iload_n hx hb dX5_sections_39 rfl (lv_at hl 1 rfl) ?_
      refine lv_iload_n hx hb dX5_sections_40 rfl (lv_at hl 2 rfl) ?_
      refine Cv.callV (As := [.ref n0, .int base, .int bw]) (rest := []) (wr := [(a0, .inr (5, [.ref n0, .ref t0, .ref s0, .ref r0, .ref g0, .ref p0, .ref q0])), (t0, .inr (1, [.ref t1, .ref t2, .int (nI tn)])), (t1, oI cI 60 TP), (t2, oI cI 60 TL), (s0, .inr (1, [.ref s1, .ref s2, .int (nI sn)])), (s1, oI cI 60 SP), (s2, oI cI 60 SL), (r0, .inr (0, [.ref r1, .int rz])), (r1, oI cI 60 RF), (g0, .inr (4, [.ref g1, .ref g2, .int (nI gn)])), (g1, oI cI 2700 GP), (g2, oI cI 60 GS), (p0, .inr (3, [.ref p1, .int (nI pn)])), (p1, oI cI 60 PS)]) (wn := (fun ul => [(a0, .inr (5, [.ref n0, .ref t0, .ref s0, .ref r0, .ref g0, .ref p0, .ref q0])), (n0, .inr (1, [.ref n1, .ref n2, .int (nI nn)])), (n1, oI cI 60 NP), (n2, oI cI 60 NL), (t0, .inr (1, [.ref t1, .ref t2, .int (nI tn)])), (t1, oI cI 60 TP), (t2, oI cI 60 TL), (s0, .inr (1, [.ref s1, .ref s2, .int (nI sn)])), (s1, oI cI 60 SP), (s2, oI cI 60 SL), (r0, .inr (0, [.ref r1, .int rz])), (r1, oI cI 60 RF), (g0, .inr (4, [.ref g1, .ref g2, .int (nI gn)])), (g1, oI cI 2700 GP), (g2, oI cI 60 GS), (p0, .inr (3, [.ref p1, .int (nI pn)])), (p1, oI cI 60 PS), (q0, .inr (2, [.ref q1, .int (nI (ff_sn NP nn base bw)), .int (((ff_D NP nn base bw nn).1 0)), .ref q2, .ref q3, .ref q4])), (q1, oI cI 60 (ul.1)), (q2, oI cI 61 (ul.2.1)), (q3, oI cI 61 (ul.2.2.1)), (q4, oI cI 61 (ul.2.2.2))])) (cv_X5_183 hg ⟨Nat.le_of_ble_eq_true rfl, Nat.le_of_ble_eq_true rfl⟩) (k_X2_part l D cI q0 q1 q2 q3 q4 (nI qn) qc QS lc fw fe n0 n1 n2 nn NP NL base bw hn) cx hK hP hD hA [17, 18, 19, 20, 21, 1, 2, 3] [0, 4, 5, 6, 7, 8, 9, 10, 11, 12, 13, 14, 15, 16] [0, 19, 20, 21, 1, 2, 3, 4, 5, 6, 7, 8, 9, 10, 11, 12, 13, 14, 15, 16, 17, 18] rfl rfl (by decide) (fun _ => rfl) (rq := 0) rfl rfl rfl hS rfl hl.1 rfl (Nat.le_of_ble_eq_true rfl) dX5_sections_41 ⟨Nat.zero_le _, Nat.zero_le _⟩ (fun H locs ul p41 hP hD hS => ?_)
      refine lv_aload_n hx hb dX5_sections_44 rfl (lv_at hl 0 rfl) ?_
      refine gf_X5_46 hx hb hg hown hK hP 0 rfl rfl dX5_sections_45 ?_
      refine gf_X5_56 hx hb hg hown hK hP 17 rfl rfl dX5_sections_48 ?_
      exact hret _ _ 51 _ _ ((ff_N (nn) (tn) (sn) (gn) (pn) (ff_sn NP nn base bw), ff_Z (rz) (((ff_D NP nn base bw nn).1 0)), ff_A14 (NP) (NL) (TP) (TL) (SP) (SL) (RF) (GP) (GS) (PS) (ul.1) (ul.2.1) (ul.2.2.1) (ul.2.2.2))) (⟨⟨c8, c18⟩, rfl, ul.1, ul.2.1, ul.2.2.1, ul.2.2.2, p41, rfl⟩) hP hD hS dX5_sections_51
    · have c18 := bI_z.mp c18
      exact hthr _ _ 21 _ 64 181 68 _ _ ff_E_IA (List.mem_of_getElem? (i := 17) rfl) (⟨rfl, fun h => by first | exact c8 h.1 | exact c18 h.2⟩) hP hS hl.1 dX5_sections_21 dX5_sections_24 dX5_sections_25 dX5_sections_27 dX5_sections_30

set_option maxHeartbeats 4000000 in
set_option maxRecDepth 100000 in
theorem t_of (l : Launch) (hst : l.stackTraces = false) (D : va_G) (cI : ClassId) (a0 n0 n1 n2 t0 t1 t2 s0 s1 s2 r0 r1 g0 g1 g2 p0 p1 q0 q1 q2 q3 q4 : Nat) (nn tn sn gn pn qn : Nat) (rz qc : Int32) (NP NL TP TL SP SL RF GP GS PS QS lc fw fe : Nat → Int32) (hn : nn ≤ 60) (ht : tn ≤ 12) (w : Int32) : Ct l yX5_of cX5_of 2 6 D (tI cI) [.ref a0, .int w] [(a0, .inr (5, [.ref n0, .ref t0, .ref s0, .ref r0, .ref g0, .ref p0, .ref q0])), (n0, .inr (1, [.ref n1, .ref n2, .int (nI nn)])), (n1, oI cI 60 NP), (n2, oI cI 60 NL), (t0, .inr (1, [.ref t1, .ref t2, .int (nI tn)])), (t1, oI cI 60 TP), (t2, oI cI 60 TL), (s0, .inr (1, [.ref s1, .ref s2, .int (nI sn)])), (s1, oI cI 60 SP), (s2, oI cI 60 SL), (r0, .inr (0, [.ref r1, .int rz])), (r1, oI cI 60 RF), (g0, .inr (4, [.ref g1, .ref g2, .int (nI gn)])), (g1, oI cI 2700 GP), (g2, oI cI 60 GS), (p0, .inr (3, [.ref p1, .int (nI pn)])), (p1, oI cI 60 PS), (q0, .inr (2, [.ref q1, .int (nI qn), .int qc, .ref q2, .ref q3, .ref q4])), (q1, oI cI 60 QS), (q2, oI cI 61 lc), (q3, oI cI 61 fw), (q4, oI cI 61 fe)] (S := ff_S) (fun r u => okOf w ∧ r = (if cl w = 0 then nI nn else if cl w = 1 then nI tn else if cl w = 2 then qc else if cl w = 3 then nI pn else nI gn) ∧ u = (ff_N (nn) (tn) (sn) (gn) (pn) (qn), ff_Z (rz) (qc), ff_A14 (NP) (NL) (TP) (TL) (SP) (SL) (RF) (GP) (GS) (PS) (QS) (lc) (fw) (fe))) (fun u => [(a0, .inr (5, [.ref n0, .ref t0, .ref s0, .ref r0, .ref g0, .ref p0, .ref q0])), (n0, .inr (1, [.ref n1, .ref n2, .int (nI (u.1 0))])), (n1, oI cI 60 (u.2.2 0)), (n2, oI cI 60 (u.2.2 1)), (t0, .inr (1, [.ref t1, .ref t2, .int (nI (u.1 1))])), (t1, oI cI 60 (u.2.2 2)), (t2, oI cI 60 (u.2.2 3)), (s0, .inr (1, [.ref s1, .ref s2, .int (nI (u.1 2))])), (s1, oI cI 60 (u.2.2 4)), (s2, oI cI 60 (u.2.2 5)), (r0, .inr (0, [.ref r1, .int ((u.2.1 0))])), (r1, oI cI 60 (u.2.2 6)), (g0, .inr (4, [.ref g1, .ref g2, .int (nI (u.1 3))])), (g1, oI cI 2700 (u.2.2 7)), (g2, oI cI 60 (u.2.2 8)), (p0, .inr (3, [.ref p1, .int (nI (u.1 4))])), (p1, oI cI 60 (u.2.2 9)), (q0, .inr (2, [.ref q1, .int (nI (u.1 5)), .int ((u.2.1 1)), .ref q2, .ref q3, .ref q4])), (q1, oI cI 60 (u.2.2 10)), (q2, oI cI 61 (u.2.2 11)), (q3, oI cI 61 (u.2.2 12)), (q4, oI cI 61 (u.2.2 13))]) (fun E => E = xIA ∧ ¬ okOf w) := by
  refine Ct.of (lv := [(0, .ref a0), (1, .int w)]) hst (by decide) (by decide +kernel) rfl (Nat.le_of_ble_eq_true rfl) rfl ?_
  intro p e s m args below meth c Q A cx hK hP hD hA hret hthr ls hl
  obtain ⟨hx, hb, hml, hown, hg⟩ := id cx
  have hS : va_S A s.heap s.heap [] := va_S.rf
  refine lv_iload_n hx hb dX5_of_0 rfl (lv_at hl 1 rfl) ?_
  by_cases hw : okOf w
  · obtain ⟨x9, hx9, rfl⟩ := hw
    rcases (show x9 = 0 ∨ x9 = 1 ∨ x9 = 2 ∨ x9 = 3 ∨ x9 = 4 by omega) with rfl | rfl | rfl | rfl | rfl
    · refine lv_tableIn (off := 35) (tgt := 36) hx hb dX5_of_1 (by decide) (by decide) (by decide) (by decide) ?_
      refine lv_aload_n hx hb dX5_of_36 rfl (lv_at hl 0 rfl) ?_
      refine gf_X5_10 hx hb hg hown hK hP 0 rfl rfl dX5_of_37 ?_
      refine gf_X5_50 hx hb hg hown hK hP 1 rfl rfl dX5_of_40 ?_
      exact hret _ _ 43 _ _ ((ff_N (nn) (tn) (sn) (gn) (pn) (qn), ff_Z (rz) (qc), ff_A14 (NP) (NL) (TP) (TL) (SP) (SL) (RF) (GP) (GS) (PS) (QS) (lc) (fw) (fe))) (⟨⟨_, by decide, rfl⟩, by rw [cl_n (by decide)]; rfl, rfl⟩) hP hD hS dX5_of_43
    · refine lv_tableIn (off := 43) (tgt := 44) hx hb dX5_of_1 (by decide) (by decide) (by decide) (by decide) ?_
      refine lv_aload_n hx hb dX5_of_44 rfl (lv_at hl 0 rfl) ?_
      refine gf_X5_16 hx hb hg hown hK hP 0 rfl rfl dX5_of_45 ?_
      refine gf_X5_50 hx hb hg hown hK hP 4 rfl rfl dX5_of_48 ?_
      exact hret _ _ 51 _ _ ((ff_N (nn) (tn) (sn) (gn) (pn) (qn), ff_Z (rz) (qc), ff_A14 (NP) (NL) (TP) (TL) (SP) (SL) (RF) (GP) (GS) (PS) (QS) (lc) (fw) (fe))) (⟨⟨_, by decide, rfl⟩, by rw [cl_n (by decide)]; rfl, rfl⟩) hP hD hS dX5_of_51
    · refine lv_tableIn (off := 51) (tgt := 52) hx hb dX5_of_1 (by decide) (by decide) (by decide) (by decide) ?_
      refine lv_aload_n hx hb dX5_of_52 rfl (lv_at hl 0 rfl) ?_
      refine gf_X5_46 hx hb hg hown hK hP 0 rfl rfl dX5_of_53 ?_
      refine gf_X5_57 hx hb hg hown hK hP 17 rfl rfl dX5_of_56 ?_
      exact hret _ _ 59 _ _ ((ff_N (nn) (tn) (sn) (gn) (pn) (qn), ff_Z (rz) (qc), ff_A14 (NP) (NL) (TP) (TL) (SP) (SL) (RF) (GP) (GS) (PS) (QS) (lc) (fw) (fe))) (⟨⟨_, by decide, rfl⟩, by rw [cl_n (by decide)]; rfl, rfl⟩) hP hD hS dX5_of_59
    · refine lv_tableIn (off := 59) (tgt := 60) hx hb dX5_of_1 (by decide) (by decide) (by decide) (by decide) ?_
      refine lv_aload_n hx hb dX5_of_60 rfl (lv_at hl 0 rfl) ?_
      refine gf_X5_39 hx hb hg hown hK hP 0 rfl rfl dX5_of_61 ?_
      refine gf_X5_55 hx hb hg hown hK hP 15 rfl rfl dX5_of_64 ?_
      exact hret _ _ 67 _ _ ((ff_N (nn) (tn) (sn) (gn) (pn) (qn), ff_Z (rz) (qc), ff_A14 (NP) (NL) (TP) (TL) (SP) (SL) (RF) (GP) (GS) (PS) (QS) (lc) (fw) (fe))) (⟨⟨_, by decide, rfl⟩, by rw [cl_n (by decide)]; rfl, rfl⟩) hP hD hS dX5_of_67
    · refine lv_tableIn (off := 67) (tgt := 68) hx hb dX5_of_1 (by decide) (by decide) (by decide) (by decide) ?_
      refine lv_aload_n hx hb dX5_of_68 rfl (lv_at hl 0 rfl) ?_
      refine gf_X5_32 hx hb hg hown hK hP 0 rfl rfl dX5_of_69 ?_
      refine gf_X5_54 hx hb hg hown hK hP 12 rfl rfl dX5_of_72 ?_
      exact hret _ _ 75 _ _ ((ff_N (nn) (tn) (sn) (gn) (pn) (qn), ff_Z (rz) (qc), ff_A14 (NP) (NL) (TP) (TL) (SP) (SL) (RF) (GP) (GS) (PS) (QS) (lc) (fw) (fe))) (⟨⟨_, by decide, rfl⟩, by rw [cl_n (by decide)]; rfl, rfl⟩) hP hD hS dX5_of_75
  · refine lv_tableOut (tgt := 76) hx hb dX5_of_1 (ff_off hw) (by decide) ?_
    exact hthr _ _ 76 _ 64 188 68 _ _ ff_E_IA (List.mem_of_getElem? (i := 18) rfl) (⟨rfl, hw⟩) hP hS hl.1 dX5_of_76 dX5_of_79 dX5_of_80 dX5_of_82 dX5_of_85

set_option maxHeartbeats 4000000 in
set_option maxRecDepth 100000 in
theorem t_clear (l : Launch) (D : va_G) (cI : ClassId) (a0 n0 n1 n2 t0 t1 t2 s0 s1 s2 r0 r1 g0 g1 g2 p0 p1 q0 q1 q2 q3 q4 : Nat) (nn tn sn gn pn qn : Nat) (rz qc : Int32) (NP NL TP TL SP SL RF GP GS PS QS lc fw fe : Nat → Int32) : Ci l yX5_clear cX5_clear 2 (some .int) 0 0 0 D (tI cI) [.ref a0] [(a0, .inr (5, [.ref n0, .ref t0, .ref s0, .ref r0, .ref g0, .ref p0, .ref q0])), (n0, .inr (1, [.ref n1, .ref n2, .int (nI nn)])), (n1, oI cI 60 NP), (n2, oI cI 60 NL), (t0, .inr (1, [.ref t1, .ref t2, .int (nI tn)])), (t1, oI cI 60 TP), (t2, oI cI 60 TL), (s0, .inr (1, [.ref s1, .ref s2, .int (nI sn)])), (s1, oI cI 60 SP), (s2, oI cI 60 SL), (r0, .inr (0, [.ref r1, .int rz])), (r1, oI cI 60 RF), (g0, .inr (4, [.ref g1, .ref g2, .int (nI gn)])), (g1, oI cI 2700 GP), (g2, oI cI 60 GS), (p0, .inr (3, [.ref p1, .int (nI pn)])), (p1, oI cI 60 PS), (q0, .inr (2, [.ref q1, .int (nI qn), .int qc, .ref q2, .ref q3, .ref q4])), (q1, oI cI 60 QS), (q2, oI cI 61 lc), (q3, oI cI 61 fw), (q4, oI cI 61 fe)] (S := ff_S) (fun r u => r = nI nn ∧ u = (ff_N (0) (0) (sn) (0) (0) (0), ff_Z (rz) ((nI 0)), ff_A14 (NP) (NL) (TP) (TL) (SP) (SL) (RF) (GP) (GS) (PS) (QS) (lc) (fw) (fe))) (fun u => [(a0, .inr (5, [.ref n0, .ref t0, .ref s0, .ref r0, .ref g0, .ref p0, .ref q0])), (n0, .inr (1, [.ref n1, .ref n2, .int (nI (u.1 0))])), (n1, oI cI 60 (u.2.2 0)), (n2, oI cI 60 (u.2.2 1)), (t0, .inr (1, [.ref t1, .ref t2, .int (nI (u.1 1))])), (t1, oI cI 60 (u.2.2 2)), (t2, oI cI 60 (u.2.2 3)), (s0, .inr (1, [.ref s1, .ref s2, .int (nI (u.1 2))])), (s1, oI cI 60 (u.2.2 4)), (s2, oI cI 60 (u.2.2 5)), (r0, .inr (0, [.ref r1, .int ((u.2.1 0))])), (r1, oI cI 60 (u.2.2 6)), (g0, .inr (4, [.ref g1, .ref g2, .int (nI (u.1 3))])), (g1, oI cI 2700 (u.2.2 7)), (g2, oI cI 60 (u.2.2 8)), (p0, .inr (3, [.ref p1, .int (nI (u.1 4))])), (p1, oI cI 60 (u.2.2 9)), (q0, .inr (2, [.ref q1, .int (nI (u.1 5)), .int ((u.2.1 1)), .ref q2, .ref q3, .ref q4])), (q1, oI cI 60 (u.2.2 10)), (q2, oI cI 61 (u.2.2 11)), (q3, oI cI 61 (u.2.2 12)), (q4, oI cI 61 (u.2.2 13))]) := by
  refine Ci.of (own := RX5) (lv := [(0, .ref a0)]) (by decide +kernel) rfl (Nat.le_of_ble_eq_true rfl) rfl (fun x u h => vp_nar_int _) ?_
  intro p e s m args below meth c Q A cx hK hP hD hA hret ls hl
  obtain ⟨hx, hb, hml, hown, hg⟩ := id cx
  have hS : va_S A s.heap s.heap [] := va_S.rf
  refine lv_aload_n hx hb dX5_clear_0 rfl (lv_at hl 0 rfl) ?_
  refine gf_X5_10 hx hb hg hown hK hP 0 rfl rfl dX5_clear_1 ?_
  refine gf_X5_50 hx hb hg hown hK hP 1 rfl rfl dX5_clear_4 ?_
  refine lv_istore_n (lv' := [(1, .int (nI nn)), (0, .ref a0)]) hx hb dX5_clear_7 rfl hl (by decide) rfl (fun ls hl => ?_)
  refine lv_aload_n hx hb dX5_clear_8 rfl (lv_at hl 1 rfl) ?_
  refine gf_X5_10 hx hb hg hown hK hP 0 rfl rfl dX5_clear_9 ?_
  refine lv_iconst (v := nI 0) hx hb dX5_clear_12 (by decide) ?_
  refine pf_X5_50 hx hb hg hown hK hP hD hS 1 rfl (Nat.le_of_ble_eq_true rfl) dX5_clear_13 (fun H locs hP hD hS => ?_)
  have hP : va_P D vwCl [(a0, .inr (5, [.ref n0, .ref t0, .ref s0, .ref r0, .ref g0, .ref p0, .ref q0])), (n0, .inr (1, [.ref n1, .ref n2, .int (nI 0)])), (n1, oI cI 60 NP), (n2, oI cI 60 NL), (t0, .inr (1, [.ref t1, .ref t2, .int (nI tn)])), (t1, oI cI 60 TP), (t2, oI cI 60 TL), (s0, .inr (1, [.ref s1, .ref s2, .int (nI sn)])), (s1, oI cI 60 SP), (s2, oI cI 60 SL), (r0, .inr (0, [.ref r1, .int rz])), (r1, oI cI 60 RF), (g0, .inr (4, [.ref g1, .ref g2, .int (nI gn)])), (g1, oI cI 2700 GP), (g2, oI cI 60 GS), (p0, .inr (3, [.ref p1, .int (nI pn)])), (p1, oI cI 60 PS), (q0, .inr (2, [.ref q1, .int (nI qn), .int qc, .ref q2, .ref q3, .ref q4])), (q1, oI cI 60 QS), (q2, oI cI 61 lc), (q3, oI cI 61 fw), (q4, oI cI 61 fe)] H := hP
  have hD : va_D A [(a0, .inr (5, [.ref n0, .ref t0, .ref s0, .ref r0, .ref g0, .ref p0, .ref q0])), (n0, .inr (1, [.ref n1, .ref n2, .int (nI 0)])), (n1, oI cI 60 NP), (n2, oI cI 60 NL), (t0, .inr (1, [.ref t1, .ref t2, .int (nI tn)])), (t1, oI cI 60 TP), (t2, oI cI 60 TL), (s0, .inr (1, [.ref s1, .ref s2, .int (nI sn)])), (s1, oI cI 60 SP), (s2, oI cI 60 SL), (r0, .inr (0, [.ref r1, .int rz])), (r1, oI cI 60 RF), (g0, .inr (4, [.ref g1, .ref g2, .int (nI gn)])), (g1, oI cI 2700 GP), (g2, oI cI 60 GS), (p0, .inr (3, [.ref p1, .int (nI pn)])), (p1, oI cI 60 PS), (q0, .inr (2, [.ref q1, .int (nI qn), .int qc, .ref q2, .ref q3, .ref q4])), (q1, oI cI 60 QS), (q2, oI cI 61 lc), (q3, oI cI 61 fw), (q4, oI cI 61 fe)] := hD
  refine lv_aload_n hx hb dX5_clear_16 rfl (lv_at hl 1 rfl) ?_
  refine gf_X5_16 hx hb hg hown hK hP 0 rfl rfl dX5_clear_17 ?_
  refine lv_iconst (v := nI 0) hx hb dX5_clear_20 (by decide) ?_
  refine pf_X5_50 hx hb hg hown hK hP hD hS 4 rfl (Nat.le_of_ble_eq_true rfl) dX5_clear_21 (fun H locs hP hD hS => ?_)
  have hP : va_P D vwCl [(a0, .inr (5, [.ref n0, .ref t0, .ref s0, .ref r0, .ref g0, .ref p0, .ref q0])), (n0, .inr (1, [.ref n1, .ref n2, .int (nI 0)])), (n1, oI cI 60 NP), (n2, oI cI 60 NL), (t0, .inr (1, [.ref t1, .ref t2, .int (nI 0)])), (t1, oI cI 60 TP), (t2, oI cI 60 TL), (s0, .inr (1, [.ref s1, .ref s2, .int (nI sn)])), (s1, oI cI 60 SP), (s2, oI cI 60 SL), (r0, .inr (0, [.ref r1, .int rz])), (r1, oI cI 60 RF), (g0, .inr (4, [.ref g1, .ref g2, .int (nI gn)])), (g1, oI cI 2700 GP), (g2, oI cI 60 GS), (p0, .inr (3, [.ref p1, .int (nI pn)])), (p1, oI cI 60 PS), (q0, .inr (2, [.ref q1, .int (nI qn), .int qc, .ref q2, .ref q3, .ref q4])), (q1, oI cI 60 QS), (q2, oI cI 61 lc), (q3, oI cI 61 fw), (q4, oI cI 61 fe)] H := hP
  have hD : va_D A [(a0, .inr (5, [.ref n0, .ref t0, .ref s0, .ref r0, .ref g0, .ref p0, .ref q0])), (n0, .inr (1, [.ref n1, .ref n2, .int (nI 0)])), (n1, oI cI 60 NP), (n2, oI cI 60 NL), (t0, .inr (1, [.ref t1, .ref t2, .int (nI 0)])), (t1, oI cI 60 TP), (t2, oI cI 60 TL), (s0, .inr (1, [.ref s1, .ref s2, .int (nI sn)])), (s1, oI cI 60 SP), (s2, oI cI 60 SL), (r0, .inr (0, [.ref r1, .int rz])), (r1, oI cI 60 RF), (g0, .inr (4, [.ref g1, .ref g2, .int (nI gn)])), (g1, oI cI 2700 GP), (g2, oI cI 60 GS), (p0, .inr (3, [.ref p1, .int (nI pn)])), (p1, oI cI 60 PS), (q0, .inr (2, [.ref q1, .int (nI qn), .int qc, .ref q2, .ref q3, .ref q4])), (q1, oI cI 60 QS), (q2, oI cI 61 lc), (q3, oI cI 61 fw), (q4, oI cI 61 fe)] := hD
  refine lv_aload_n hx hb dX5_clear_24 rfl (lv_at hl 1 rfl) ?_
  refine gf_X5_32 hx hb hg hown hK hP 0 rfl rfl dX5_clear_25 ?_
  refine lv_iconst (v := nI 0) hx hb dX5_clear_28 (by decide) ?_
  refine pf_X5_54 hx hb hg hown hK hP hD hS 12 rfl (Nat.le_of_ble_eq_true rfl) dX5_clear_29 (fun H locs hP hD hS => ?_)
  have hP : va_P D vwCl [(a0, .inr (5, [.ref n0, .ref t0, .ref s0, .ref r0, .ref g0, .ref p0, .ref q0])), (n0, .inr (1, [.ref n1, .ref n2, .int (nI 0)])), (n1, oI cI 60 NP), (n2, oI cI 60 NL), (t0, .inr (1, [.ref t1, .ref t2, .int (nI 0)])), (t1, oI cI 60 TP), (t2, oI cI 60 TL), (s0, .inr (1, [.ref s1, .ref s2, .int (nI sn)])), (s1, oI cI 60 SP), (s2, oI cI 60 SL), (r0, .inr (0, [.ref r1, .int rz])), (r1, oI cI 60 RF), (g0, .inr (4, [.ref g1, .ref g2, .int (nI 0)])), (g1, oI cI 2700 GP), (g2, oI cI 60 GS), (p0, .inr (3, [.ref p1, .int (nI pn)])), (p1, oI cI 60 PS), (q0, .inr (2, [.ref q1, .int (nI qn), .int qc, .ref q2, .ref q3, .ref q4])), (q1, oI cI 60 QS), (q2, oI cI 61 lc), (q3, oI cI 61 fw), (q4, oI cI 61 fe)] H := hP
  have hD : va_D A [(a0, .inr (5, [.ref n0, .ref t0, .ref s0, .ref r0, .ref g0, .ref p0, .ref q0])), (n0, .inr (1, [.ref n1, .ref n2, .int (nI 0)])), (n1, oI cI 60 NP), (n2, oI cI 60 NL), (t0, .inr (1, [.ref t1, .ref t2, .int (nI 0)])), (t1, oI cI 60 TP), (t2, oI cI 60 TL), (s0, .inr (1, [.ref s1, .ref s2, .int (nI sn)])), (s1, oI cI 60 SP), (s2, oI cI 60 SL), (r0, .inr (0, [.ref r1, .int rz])), (r1, oI cI 60 RF), (g0, .inr (4, [.ref g1, .ref g2, .int (nI 0)])), (g1, oI cI 2700 GP), (g2, oI cI 60 GS), (p0, .inr (3, [.ref p1, .int (nI pn)])), (p1, oI cI 60 PS), (q0, .inr (2, [.ref q1, .int (nI qn), .int qc, .ref q2, .ref q3, .ref q4])), (q1, oI cI 60 QS), (q2, oI cI 61 lc), (q3, oI cI 61 fw), (q4, oI cI 61 fe)] := hD
  refine lv_aload_n hx hb dX5_clear_32 rfl (lv_at hl 1 rfl) ?_
  refine gf_X5_39 hx hb hg hown hK hP 0 rfl rfl dX5_clear_33 ?_
  refine lv_iconst (v := nI 0) hx hb dX5_clear_36 (by decide) ?_
  refine pf_X5_55 hx hb hg hown hK hP hD hS 15 rfl (Nat.le_of_ble_eq_true rfl) dX5_clear_37 (fun H locs hP hD hS => ?_)
  have hP : va_P D vwCl [(a0, .inr (5, [.ref n0, .ref t0, .ref s0, .ref r0, .ref g0, .ref p0, .ref q0])), (n0, .inr (1, [.ref n1, .ref n2, .int (nI 0)])), (n1, oI cI 60 NP), (n2, oI cI 60 NL), (t0, .inr (1, [.ref t1, .ref t2, .int (nI 0)])), (t1, oI cI 60 TP), (t2, oI cI 60 TL), (s0, .inr (1, [.ref s1, .ref s2, .int (nI sn)])), (s1, oI cI 60 SP), (s2, oI cI 60 SL), (r0, .inr (0, [.ref r1, .int rz])), (r1, oI cI 60 RF), (g0, .inr (4, [.ref g1, .ref g2, .int (nI 0)])), (g1, oI cI 2700 GP), (g2, oI cI 60 GS), (p0, .inr (3, [.ref p1, .int (nI 0)])), (p1, oI cI 60 PS), (q0, .inr (2, [.ref q1, .int (nI qn), .int qc, .ref q2, .ref q3, .ref q4])), (q1, oI cI 60 QS), (q2, oI cI 61 lc), (q3, oI cI 61 fw), (q4, oI cI 61 fe)] H := hP
  have hD : va_D A [(a0, .inr (5, [.ref n0, .ref t0, .ref s0, .ref r0, .ref g0, .ref p0, .ref q0])), (n0, .inr (1, [.ref n1, .ref n2, .int (nI 0)])), (n1, oI cI 60 NP), (n2, oI cI 60 NL), (t0, .inr (1, [.ref t1, .ref t2, .int (nI 0)])), (t1, oI cI 60 TP), (t2, oI cI 60 TL), (s0, .inr (1, [.ref s1, .ref s2, .int (nI sn)])), (s1, oI cI 60 SP), (s2, oI cI 60 SL), (r0, .inr (0, [.ref r1, .int rz])), (r1, oI cI 60 RF), (g0, .inr (4, [.ref g1, .ref g2, .int (nI 0)])), (g1, oI cI 2700 GP), (g2, oI cI 60 GS), (p0, .inr (3, [.ref p1, .int (nI 0)])), (p1, oI cI 60 PS), (q0, .inr (2, [.ref q1, .int (nI qn), .int qc, .ref q2, .ref q3, .ref q4])), (q1, oI cI 60 QS), (q2, oI cI 61 lc), (q3, oI cI 61 fw), (q4, oI cI 61 fe)] := hD
  refine lv_aload_n hx hb dX5_clear_40 rfl (lv_at hl 1 rfl) ?_
  refine gf_X5_46 hx hb hg hown hK hP 0 rfl rfl dX5_clear_41 ?_
  refine lv_iconst (v := nI 0) hx hb dX5_clear_44 (by decide) ?_
  refine pf_X5_56 hx hb hg hown hK hP hD hS 17 rfl (Nat.le_of_ble_eq_true rfl) dX5_clear_45 (fun H locs hP hD hS => ?_)
  have hP : va_P D vwCl [(a0, .inr (5, [.ref n0, .ref t0, .ref s0, .ref r0, .ref g0, .ref p0, .ref q0])), (n0, .inr (1, [.ref n1, .ref n2, .int (nI 0)])), (n1, oI cI 60 NP), (n2, oI cI 60 NL), (t0, .inr (1, [.ref t1, .ref t2, .int (nI 0)])), (t1, oI cI 60 TP), (t2, oI cI 60 TL), (s0, .inr (1, [.ref s1, .ref s2, .int (nI sn)])), (s1, oI cI 60 SP), (s2, oI cI 60 SL), (r0, .inr (0, [.ref r1, .int rz])), (r1, oI cI 60 RF), (g0, .inr (4, [.ref g1, .ref g2, .int (nI 0)])), (g1, oI cI 2700 GP), (g2, oI cI 60 GS), (p0, .inr (3, [.ref p1, .int (nI 0)])), (p1, oI cI 60 PS), (q0, .inr (2, [.ref q1, .int (nI 0), .int qc, .ref q2, .ref q3, .ref q4])), (q1, oI cI 60 QS), (q2, oI cI 61 lc), (q3, oI cI 61 fw), (q4, oI cI 61 fe)] H := hP
  have hD : va_D A [(a0, .inr (5, [.ref n0, .ref t0, .ref s0, .ref r0, .ref g0, .ref p0, .ref q0])), (n0, .inr (1, [.ref n1, .ref n2, .int (nI 0)])), (n1, oI cI 60 NP), (n2, oI cI 60 NL), (t0, .inr (1, [.ref t1, .ref t2, .int (nI 0)])), (t1, oI cI 60 TP), (t2, oI cI 60 TL), (s0, .inr (1, [.ref s1, .ref s2, .int (nI sn)])), (s1, oI cI 60 SP), (s2, oI cI 60 SL), (r0, .inr (0, [.ref r1, .int rz])), (r1, oI cI 60 RF), (g0, .inr (4, [.ref g1, .ref g2, .int (nI 0)])), (g1, oI cI 2700 GP), (g2, oI cI 60 GS), (p0, .inr (3, [.ref p1, .int (nI 0)])), (p1, oI cI 60 PS), (q0, .inr (2, [.ref q1, .int (nI 0), .int qc, .ref q2, .ref q3, .ref q4])), (q1, oI cI 60 QS), (q2, oI cI 61 lc), (q3, oI cI 61 fw), (q4, oI cI 61 fe)] := hD
  refine lv_aload_n hx hb dX5_clear_48 rfl (lv_at hl 1 rfl) ?_
  refine gf_X5_46 hx hb hg hown hK hP 0 rfl rfl dX5_clear_49 ?_
  refine lv_iconst (v := nI 0) hx hb dX5_clear_52 (by decide) ?_
  refine pf_X5_57 hx hb hg hown hK hP hD hS 17 rfl (Nat.le_of_ble_eq_true rfl) dX5_clear_53 (fun H locs hP hD hS => ?_)
  have hP : va_P D vwCl [(a0, .inr (5, [.ref n0, .ref t0, .ref s0, .ref r0, .ref g0, .ref p0, .ref q0])), (n0, .inr (1, [.ref n1, .ref n2, .int (nI 0)])), (n1, oI cI 60 NP), (n2, oI cI 60 NL), (t0, .inr (1, [.ref t1, .ref t2, .int (nI 0)])), (t1, oI cI 60 TP), (t2, oI cI 60 TL), (s0, .inr (1, [.ref s1, .ref s2, .int (nI sn)])), (s1, oI cI 60 SP), (s2, oI cI 60 SL), (r0, .inr (0, [.ref r1, .int rz])), (r1, oI cI 60 RF), (g0, .inr (4, [.ref g1, .ref g2, .int (nI 0)])), (g1, oI cI 2700 GP), (g2, oI cI 60 GS), (p0, .inr (3, [.ref p1, .int (nI 0)])), (p1, oI cI 60 PS), (q0, .inr (2, [.ref q1, .int (nI 0), .int (nI 0), .ref q2, .ref q3, .ref q4])), (q1, oI cI 60 QS), (q2, oI cI 61 lc), (q3, oI cI 61 fw), (q4, oI cI 61 fe)] H := hP
  have hD : va_D A [(a0, .inr (5, [.ref n0, .ref t0, .ref s0, .ref r0, .ref g0, .ref p0, .ref q0])), (n0, .inr (1, [.ref n1, .ref n2, .int (nI 0)])), (n1, oI cI 60 NP), (n2, oI cI 60 NL), (t0, .inr (1, [.ref t1, .ref t2, .int (nI 0)])), (t1, oI cI 60 TP), (t2, oI cI 60 TL), (s0, .inr (1, [.ref s1, .ref s2, .int (nI sn)])), (s1, oI cI 60 SP), (s2, oI cI 60 SL), (r0, .inr (0, [.ref r1, .int rz])), (r1, oI cI 60 RF), (g0, .inr (4, [.ref g1, .ref g2, .int (nI 0)])), (g1, oI cI 2700 GP), (g2, oI cI 60 GS), (p0, .inr (3, [.ref p1, .int (nI 0)])), (p1, oI cI 60 PS), (q0, .inr (2, [.ref q1, .int (nI 0), .int (nI 0), .ref q2, .ref q3, .ref q4])), (q1, oI cI 60 QS), (q2, oI cI 61 lc), (q3, oI cI 61 fw), (q4, oI cI 61 fe)] := hD
  refine lv_iload_n hx hb dX5_clear_56 rfl (lv_at hl 0 rfl) ?_
  exact hret _ _ 57 _ _ ((ff_N (0) (0) (sn) (0) (0) (0), ff_Z (rz) (nI 0), ff_A14 (NP) (NL) (TP) (TL) (SP) (SL) (RF) (GP) (GS) (PS) (QS) (lc) (fw) (fe))) (⟨rfl, rfl⟩) hP hD hS dX5_clear_57
