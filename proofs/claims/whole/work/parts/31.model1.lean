set_option maxHeartbeats 4000000 in
set_option maxRecDepth 100000 in
theorem k_go1 (l : Launch) (D : va_G) (cI : ClassId) (m0 : Nat) (f1 f2 f3 f4 f5 f6 f7 f8 f9 f10 f11 f12 f13 f14 f15 f16 f17 : Value) (cd : Int32) : Ci l yX6_goesOn cX6_goesOn 3 (some .boolean) 0 0 0 D (tI cI) [.ref m0, .int (nI 1), .int cd] [(m0, .inr (6, [.int (nI 0), f1, f2, f3, f4, f5, f6, f7, f8, f9, f10, f11, f12, f13, f14, f15, f16, f17]))] (S := Unit) (fun r _ => r = nI 1) (fun u => [(m0, .inr (6, [.int (nI 0), f1, f2, f3, f4, f5, f6, f7, f8, f9, f10, f11, f12, f13, f14, f15, f16, f17]))]) := by
  refine Ci.of (own := RX6) (lv := [(0, .ref m0), (1, .int (nI 1)), (2, .int cd)]) (by decide +kernel) rfl (Nat.le_of_ble_eq_true rfl) rfl (fun x u h => by rw [h]; rfl) ?_
  intro p e s m args below meth c Q A cx hK hP hD hA hret ls hl
  obtain ⟨hx, hb, hml, hown, hg⟩ := id cx
  have hS : va_S A s.heap s.heap [] := va_S.rf
  refine lv_aload_n hx hb dX6_goesOn_0 rfl (lv_at hl 0 rfl) ?_
  refine gf_X6_46 hx hb hg hown hK hP 0 rfl rfl dX6_goesOn_1 ?_
  refine lv_if_ne (tgt := 16) hx hb dX6_goesOn_4 (by decide) (fun h9 => absurd (by decide) h9) (fun _ => ?_)
  refine lv_iload_n hx hb dX6_goesOn_7 rfl (lv_at hl 1 rfl) ?_
  refine lv_if_ne (tgt := 16) hx hb dX6_goesOn_8 (by decide) (fun _ => ?_) (fun h9 => absurd h9 (by decide))
  refine lv_aload_n hx hb dX6_goesOn_16 rfl (lv_at hl 0 rfl) ?_
  refine gf_X6_46 hx hb hg hown hK hP 0 rfl rfl dX6_goesOn_17 ?_
  refine lv_if_ne (tgt := 27) hx hb dX6_goesOn_20 (by decide) (fun h9 => absurd (by decide) h9) (fun _ => ?_)
  refine lv_iconst (v := nI 1) hx hb dX6_goesOn_23 (by decide) ?_
  refine lv_goto (tgt := 28) hx hb dX6_goesOn_24 (by decide) ?_
  exact hret _ _ 28 _ _ (()) (rfl) hP hD hS dX6_goesOn_28

set_option maxHeartbeats 4000000 in
set_option maxRecDepth 100000 in
theorem k_go0 (l : Launch) (D : va_G) (cI : ClassId) (m0 : Nat) (f1 f2 f3 f4 f5 f6 f7 f8 f9 f10 f11 f12 f13 f14 f15 f16 f17 : Value) (cd : Nat) (h1 : 1 ≤ cd) (h2 : cd ≤ 2) : Ci l yX6_goesOn cX6_goesOn 3 (some .boolean) 0 0 0 D (tI cI) [.ref m0, .int (nI 0), .int (nI cd)] [(m0, .inr (6, [.int (nI 0), f1, f2, f3, f4, f5, f6, f7, f8, f9, f10, f11, f12, f13, f14, f15, f16, f17]))] (S := Unit) (fun r _ => r = nI 0) (fun u => [(m0, .inr (6, [.int (nI cd), f1, f2, f3, f4, f5, f6, f7, f8, f9, f10, f11, f12, f13, f14, f15, f16, f17]))]) := by
  refine Ci.of (own := RX6) (lv := [(0, .ref m0), (1, .int (nI 0)), (2, .int (nI cd))]) (by decide +kernel) rfl (Nat.le_of_ble_eq_true rfl) rfl (fun x u h => by rw [h]; rfl) ?_
  intro p e s m args below meth c Q A cx hK hP hD hA hret ls hl
  obtain ⟨hx, hb, hml, hown, hg⟩ := id cx
  have hS : va_S A s.heap s.heap [] := va_S.rf
  refine lv_aload_n hx hb dX6_goesOn_0 rfl (lv_at hl 0 rfl) ?_
  refine gf_X6_46 hx hb hg hown hK hP 0 rfl rfl dX6_goesOn_1 ?_
  refine lv_if_ne (tgt := 16) hx hb dX6_goesOn_4 (by decide) (fun h9 => absurd (by decide) h9) (fun _ => ?_)
  refine lv_iload_n hx hb dX6_goesOn_7 rfl (lv_at hl 1 rfl) ?_
  refine lv_if_ne (tgt := 16) hx hb dX6_goesOn_8 (by decide) (fun h9 => absurd (by decide) h9) (fun _ => ?_)
  refine lv_aload_n hx hb dX6_goesOn_11 rfl (lv_at hl 0 rfl) ?_
  refine lv_iload_n hx hb dX6_goesOn_12 rfl (lv_at hl 2 rfl) ?_
  refine pf_X6_46 hx hb hg hown hK hP hD hS 0 rfl (Nat.le_of_ble_eq_true rfl) dX6_goesOn_13 (fun H locs hP hD hS => ?_)
  have hP : va_P D vwCl [(m0, .inr (6, [.int (nI cd), f1, f2, f3, f4, f5, f6, f7, f8, f9, f10, f11, f12, f13, f14, f15, f16, f17]))] H := hP
  have hD : va_D A [(m0, .inr (6, [.int (nI cd), f1, f2, f3, f4, f5, f6, f7, f8, f9, f10, f11, f12, f13, f14, f15, f16, f17]))] := hD
  refine lv_aload_n hx hb dX6_goesOn_16 rfl (lv_at hl 0 rfl) ?_
  refine gf_X6_46 hx hb hg hown hK hP 0 rfl rfl dX6_goesOn_17 ?_
  refine lv_if_ne (tgt := 27) hx hb dX6_goesOn_20 (by decide) (fun c20 => ?_) (fun c20 => ?_)
  · have c20 := mt (nz_eq (by omega)).mpr c20
    refine lv_iconst (v := nI 0) hx hb dX6_goesOn_27 (by decide) ?_
    exact hret _ _ 28 _ _ (()) (rfl) hP hD hS dX6_goesOn_28
  · have c20 := (nz_eq (by omega)).mp c20
    exfalso; omega

set_option maxHeartbeats 4000000 in
set_option maxRecDepth 100000 in
theorem k_begin (l : Launch) (D : va_G) (cI : ClassId) (m0 m1 m2 m3 m4 m5 m6 m7 m8 m9 m10 m11 : Nat) (th co : Int32) (n rn mn pn sn : Nat) : Cv l yX6_begin cX6_begin 1 0 0 0 D (tI cI) [.ref m0] [(m0, .inr (6, [.int th, .int (nI n), .ref m1, .ref m2, .int (nI rn), .ref m3, .int (nI mn), .ref m4, .ref m5, .int (nI pn), .ref m6, .int (nI sn), .int co, .ref m7, .ref m8, .ref m9, .ref m10, .ref m11]))] (S := Unit) (fun _ => True) (fun u => [(m0, .inr (6, [.int th, .int (nI 0), .ref m1, .ref m2, .int (nI 0), .ref m3, .int (nI 0), .ref m4, .ref m5, .int (nI 0), .ref m6, .int (nI 0), .int ((nI 0)), .ref m7, .ref m8, .ref m9, .ref m10, .ref m11]))]) := by
  refine Cv.of (own := RX6) (lv := [(0, .ref m0)]) (by decide +kernel) rfl (Nat.le_of_ble_eq_true rfl) rfl ?_
  intro p e s m args below meth c Q A cx hin hK hP hD hA hret ls hl
  obtain ⟨hx, hb, hml, hown, hg⟩ := id cx
  have hS : va_S A s.heap s.heap [] := va_S.rf
  refine lv_aload_n hx hb dX6_begin_0 rfl (lv_at hl 0 rfl) ?_
  refine lv_iconst (v := nI 0) hx hb dX6_begin_1 (by decide) ?_
  refine pf_X6_50 hx hb hg hown hK hP hD hS 0 rfl (Nat.le_of_ble_eq_true rfl) dX6_begin_2 (fun H locs hP hD hS => ?_)
  have hP : va_P D vwCl [(m0, .inr (6, [.int th, .int (nI 0), .ref m1, .ref m2, .int (nI rn), .ref m3, .int (nI mn), .ref m4, .ref m5, .int (nI pn), .ref m6, .int (nI sn), .int co, .ref m7, .ref m8, .ref m9, .ref m10, .ref m11]))] H := hP
  have hD : va_D A [(m0, .inr (6, [.int th, .int (nI 0), .ref m1, .ref m2, .int (nI rn), .ref m3, .int (nI mn), .ref m4, .ref m5, .int (nI pn), .ref m6, .int (nI sn), .int co, .ref m7, .ref m8, .ref m9, .ref m10, .ref m11]))] := hD
  refine lv_aload_n hx hb dX6_begin_5 rfl (lv_at hl 0 rfl) ?_
  refine lv_iconst (v := nI 0) hx hb dX6_begin_6 (by decide) ?_
  refine pf_X6_53 hx hb hg hown hK hP hD hS 0 rfl (Nat.le_of_ble_eq_true rfl) dX6_begin_7 (fun H locs hP hD hS => ?_)
  have hP : va_P D vwCl [(m0, .inr (6, [.int th, .int (nI 0), .ref m1, .ref m2, .int (nI 0), .ref m3, .int (nI mn), .ref m4, .ref m5, .int (nI pn), .ref m6, .int (nI sn), .int co, .ref m7, .ref m8, .ref m9, .ref m10, .ref m11]))] H := hP
  have hD : va_D A [(m0, .inr (6, [.int th, .int (nI 0), .ref m1, .ref m2, .int (nI 0), .ref m3, .int (nI mn), .ref m4, .ref m5, .int (nI pn), .ref m6, .int (nI sn), .int co, .ref m7, .ref m8, .ref m9, .ref m10, .ref m11]))] := hD
  refine lv_aload_n hx hb dX6_begin_10 rfl (lv_at hl 0 rfl) ?_
  refine lv_iconst (v := nI 0) hx hb dX6_begin_11 (by decide) ?_
  refine pf_X6_56 hx hb hg hown hK hP hD hS 0 rfl (Nat.le_of_ble_eq_true rfl) dX6_begin_12 (fun H locs hP hD hS => ?_)
  have hP : va_P D vwCl [(m0, .inr (6, [.int th, .int (nI 0), .ref m1, .ref m2, .int (nI 0), .ref m3, .int (nI 0), .ref m4, .ref m5, .int (nI pn), .ref m6, .int (nI sn), .int co, .ref m7, .ref m8, .ref m9, .ref m10, .ref m11]))] H := hP
  have hD : va_D A [(m0, .inr (6, [.int th, .int (nI 0), .ref m1, .ref m2, .int (nI 0), .ref m3, .int (nI 0), .ref m4, .ref m5, .int (nI pn), .ref m6, .int (nI sn), .int co, .ref m7, .ref m8, .ref m9, .ref m10, .ref m11]))] := hD
  refine lv_aload_n hx hb dX6_begin_15 rfl (lv_at hl 0 rfl) ?_
  refine lv_iconst (v := nI 0) hx hb dX6_begin_16 (by decide) ?_
  refine pf_X6_59 hx hb hg hown hK hP hD hS 0 rfl (Nat.le_of_ble_eq_true rfl) dX6_begin_17 (fun H locs hP hD hS => ?_)
  have hP : va_P D vwCl [(m0, .inr (6, [.int th, .int (nI 0), .ref m1, .ref m2, .int (nI 0), .ref m3, .int (nI 0), .ref m4, .ref m5, .int (nI 0), .ref m6, .int (nI sn), .int co, .ref m7, .ref m8, .ref m9, .ref m10, .ref m11]))] H := hP
  have hD : va_D A [(m0, .inr (6, [.int th, .int (nI 0), .ref m1, .ref m2, .int (nI 0), .ref m3, .int (nI 0), .ref m4, .ref m5, .int (nI 0), .ref m6, .int (nI sn), .int co, .ref m7, .ref m8, .ref m9, .ref m10, .ref m11]))] := hD
  refine lv_aload_n hx hb dX6_begin_20 rfl (lv_at hl 0 rfl) ?_
  refine lv_iconst (v := nI 0) hx hb dX6_begin_21 (by decide) ?_
  refine pf_X6_62 hx hb hg hown hK hP hD hS 0 rfl (Nat.le_of_ble_eq_true rfl) dX6_begin_22 (fun H locs hP hD hS => ?_)
  have hP : va_P D vwCl [(m0, .inr (6, [.int th, .int (nI 0), .ref m1, .ref m2, .int (nI 0), .ref m3, .int (nI 0), .ref m4, .ref m5, .int (nI 0), .ref m6, .int (nI 0), .int co, .ref m7, .ref m8, .ref m9, .ref m10, .ref m11]))] H := hP
  have hD : va_D A [(m0, .inr (6, [.int th, .int (nI 0), .ref m1, .ref m2, .int (nI 0), .ref m3, .int (nI 0), .ref m4, .ref m5, .int (nI 0), .ref m6, .int (nI 0), .int co, .ref m7, .ref m8, .ref m9, .ref m10, .ref m11]))] := hD
  refine lv_aload_n hx hb dX6_begin_25 rfl (lv_at hl 0 rfl) ?_
  refine lv_iconst (v := nI 0) hx hb dX6_begin_26 (by decide) ?_
  refine pf_X6_65 hx hb hg hown hK hP hD hS 0 rfl (Nat.le_of_ble_eq_true rfl) dX6_begin_27 (fun H locs hP hD hS => ?_)
  have hP : va_P D vwCl [(m0, .inr (6, [.int th, .int (nI 0), .ref m1, .ref m2, .int (nI 0), .ref m3, .int (nI 0), .ref m4, .ref m5, .int (nI 0), .ref m6, .int (nI 0), .int (nI 0), .ref m7, .ref m8, .ref m9, .ref m10, .ref m11]))] H := hP
  have hD : va_D A [(m0, .inr (6, [.int th, .int (nI 0), .ref m1, .ref m2, .int (nI 0), .ref m3, .int (nI 0), .ref m4, .ref m5, .int (nI 0), .ref m6, .int (nI 0), .int (nI 0), .ref m7, .ref m8, .ref m9, .ref m10, .ref m11]))] := hD
  exact hret _ _ 30 _ (()) (trivial) hP hD hS dX6_begin_30

set_option maxHeartbeats 4000000 in
set_option maxRecDepth 100000 in
theorem k_thrown (l : Launch) (D : va_G) (cI : ClassId) (m0 m1 m2 m3 m4 m5 m6 m7 m8 m9 m10 m11 : Nat) (th co : Int32) (n rn mn pn sn : Nat) : Cp l yX6_thrown cX6_thrown 1 (some .int) 0 D (tI cI) [.ref m0] [(m0, .inr (6, [.int th, .int (nI n), .ref m1, .ref m2, .int (nI rn), .ref m3, .int (nI mn), .ref m4, .ref m5, .int (nI pn), .ref m6, .int (nI sn), .int co, .ref m7, .ref m8, .ref m9, .ref m10, .ref m11]))] (th) := by
  refine Cp.of (own := RX6) (lv := [(0, .ref m0)]) (by decide +kernel) rfl (Nat.le_of_ble_eq_true rfl) rfl (vp_nar_int _) ?_
  intro p e s m args below meth c Q cx hK hP hret ls hl
  obtain ⟨hx, hb, hml, hown, hg⟩ := id cx
  have hS : va_S (fun _ => False) s.heap s.heap [] := va_S.rf
  refine lv_aload_n hx hb dX6_thrown_0 rfl (lv_at hl 0 rfl) ?_
  refine gf_X6_46 hx hb hg hown hK hP 0 rfl rfl dX6_thrown_1 ?_
  exact hret _ _ 4 _ _ hS dX6_thrown_4 (rfl)

set_option maxHeartbeats 4000000 in
set_option maxRecDepth 100000 in
theorem k_isIn (l : Launch) (D : va_G) (cI : ClassId) (W0 : va_W) (x lo hi : Int64) : Cp l yX6_isIn cX6_isIn 6 (some .boolean) 0 D (tI cI) [.long (x), .long (lo), .long (hi)] W0 (bI (lo ≤ x ∧ x ≤ hi)) := by
  refine Cp.of (own := RX6) (lv := [(0, .long (x)), (2, .long (lo)), (4, .long (hi))]) (by decide +kernel) rfl (Nat.le_of_ble_eq_true rfl) rfl (bI_nar _) ?_
  intro p e s m args below meth c Q cx hK hP hret ls hl
  obtain ⟨hx, hb, hml, hown, hg⟩ := id cx
  have hS : va_S (fun _ => False) s.heap s.heap [] := va_S.rf
  refine lv_lload_n hx hb dX6_isIn_0 rfl (lv_at hl 0 rfl) ?_
  refine lv_lload_n hx hb dX6_isIn_1 rfl (lv_at hl 1 rfl) ?_
  refine W.lcmp hx hb dX6_isIn_2 ?_
  refine lv_if_lt (tgt := 17) hx hb dX6_isIn_3 (by decide) (fun c3 => ?_) (fun c3 => ?_)
  · have c3 := lc_lt.mp c3
    refine lv_iconst (v := nI 0) hx hb dX6_isIn_17 (by decide) ?_
    exact hret _ _ 18 _ _ hS dX6_isIn_18 (by first | exact bI_1 ⟨l_nlt.mp c3, l_nlt.mp c10⟩ | exact bI_0 (fun h => l_nlt.mpr h.1 c3) | exact bI_0 (fun h => l_nlt.mpr h.2 c10))
  · have c3 := mt lc_lt.mpr c3
    refine lv_lload_n hx hb dX6_isIn_6 rfl (lv_at hl 0 rfl) ?_
    refine lv_lload hx hb dX6_isIn_7 (lv_at hl 2 rfl) ?_
    refine W.lcmp hx hb dX6_isIn_9 ?_
    refine lv_if_gt (tgt := 17) hx hb dX6_isIn_10 (by decide) (fun c10 => ?_) (fun c10 => ?_)
    · have c10 := lc_gt.mp c10
      refine lv_iconst (v := nI 0) hx hb dX6_isIn_17 (by decide) ?_
      exact hret _ _ 18 _ _ hS dX6_isIn_18 (by first | exact bI_1 ⟨l_nlt.mp c3, l_nlt.mp c10⟩ | exact bI_0 (fun h => l_nlt.mpr h.1 c3) | exact bI_0 (fun h => l_nlt.mpr h.2 c10))
    · have c10 := mt lc_gt.mpr c10
      refine lv_iconst (v := nI 1) hx hb dX6_isIn_13 (by decide) ?_
      refine lv_goto (tgt := 18) hx hb dX6_isIn_14 (by decide) ?_
      exact hret _ _ 18 _ _ hS dX6_isIn_18 (by first | exact bI_1 ⟨l_nlt.mp c3, l_nlt.mp c10⟩ | exact bI_0 (fun h => l_nlt.mpr h.1 c3) | exact bI_0 (fun h => l_nlt.mpr h.2 c10))

theorem k_isIn32 (l : Launch) (D : va_G) (cI : ClassId) (W0 : va_W) (x lo hi : Int32) (lo' hi' : Int64) (h1 : lo' = lo.toInt64) (h2 : hi' = hi.toInt64) : Cp l yX6_isIn cX6_isIn 6 (some .boolean) 0 D (tI cI) [.long (Int32.toInt64 x), .long lo', .long hi'] W0 (bI (lo ≤ x ∧ x ≤ hi)) := by
  have h := k_isIn l D cI W0 x.toInt64 lo' hi'
  rw [h1, h2] at h ⊢
  rw [bI_if (Q := lo ≤ x ∧ x ≤ hi) (by rw [l_of, l_of])] at h
  exact h

set_option maxHeartbeats 4000000 in
set_option maxRecDepth 100000 in
theorem k_MisView (l : Launch) (D : va_G) (cI : ClassId) (W0 : va_W) (x : Int32) : Cp l yX6_isView cX6_isView 1 (some .boolean) 1 D (tI cI) [.int x] W0 (bI (nI 0 ≤ x ∧ x ≤ nI 4)) := by
  refine Cp.of (own := RX6) (lv := [(0, .int x)]) (by decide +kernel) rfl (Nat.le_of_ble_eq_true rfl) rfl (bI_nar _) ?_
  intro p e s m args below meth c Q cx hK hP hret ls hl
  obtain ⟨hx, hb, hml, hown, hg⟩ := id cx
  have hS : va_S (fun _ => False) s.heap s.heap [] := va_S.rf
  refine lv_iload_n hx hb dX6_isView_0 rfl (lv_at hl 0 rfl) ?_
  refine lv_i2l hx hb dX6_isView_1 rfl ?_
  refine lv_lconst (v := 0) hx hb dX6_isView_2 (by decide) ?_
  refine lv_ldc2 (v := 4) hx hb hown (hg _ wd_cl_X6_80) dX6_isView_3 ?_
  refine Cp.callS (As := [.long ((Int32.toInt64 (x))), .long ((0 : Int64)), .long ((4 : Int64))]) (rest := []) (cv_X6_70 hg ⟨Nat.le_of_ble_eq_true rfl, Nat.le_of_ble_eq_true rfl⟩) (k_isIn32 l D cI [] (x) (nI 0) (nI 4) _ _ (by decide) (by decide)) cx hK hP [] rfl hS rfl hl.1 rfl (Nat.le_of_ble_eq_true rfl) dX6_isView_6 ⟨Nat.zero_le _, Nat.zero_le _⟩ (fun H locs hP hS => ?_)
  exact hret _ _ 9 _ _ hS dX6_isView_9 (rfl)

set_option maxHeartbeats 4000000 in
set_option maxRecDepth 100000 in
theorem k_many (l : Launch) (D : va_G) (cI : ClassId) (m0 m1 m2 m3 m4 m5 m6 m7 m8 m9 m10 m11 : Nat) (th co : Int32) (n rn mn pn sn : Nat) (v : Nat) (hv : v ≤ 4) (hn : n ≤ 60) : Cp l yX6_many cX6_many 2 (some .int) 0 D (tI cI) [.ref m0, .int (nI v)] [(m0, .inr (6, [.int th, .int (nI n), .ref m1, .ref m2, .int (nI rn), .ref m3, .int (nI mn), .ref m4, .ref m5, .int (nI pn), .ref m6, .int (nI sn), .int co, .ref m7, .ref m8, .ref m9, .ref m10, .ref m11]))] (nI (ff_cnt v n)) := by
  refine Cp.of (own := RX6) (lv := [(0, .ref m0), (1, .int (nI v))]) (by decide +kernel) rfl (Nat.le_of_ble_eq_true rfl) rfl (vp_nar_int _) ?_
  intro p e s m args below meth c Q cx hK hP hret ls hl
  obtain ⟨hx, hb, hml, hown, hg⟩ := id cx
  have hS : va_S (fun _ => False) s.heap s.heap [] := va_S.rf
  refine lv_iload_n hx hb dX6_many_0 rfl (lv_at hl 1 rfl) ?_
  refine lv_iconst (v := nI 1) hx hb dX6_many_1 (by decide) ?_
  refine lv_icmp_eq (tgt := 10) hx hb dX6_many_2 (by decide) (fun c2 => ?_) (fun c2 => ?_)
  · have c2 := (nI_eq (by omega) (by omega)).mp c2
    refine lv_aload_n hx hb dX6_many_10 rfl (lv_at hl 0 rfl) ?_
    refine gf_X6_50 hx hb hg hown hK hP 0 rfl rfl dX6_many_11 ?_
    refine lv_if_le (tgt := 26) hx hb dX6_many_14 (by decide) (fun c14 => ?_) (fun c14 => ?_)
    · have c14 := (nz_le (by omega)).mp c14
      refine lv_iconst (v := nI 0) hx hb dX6_many_26 (by decide) ?_
      refine lv_goto (tgt := 34) hx hb dX6_many_27 (by decide) ?_
      exact hret _ _ 34 _ _ hS dX6_many_34 (by unfold ff_cnt; split <;> congr 1 <;> omega)
    · have c14 := mt (nz_le (by omega)).mpr c14
      refine lv_aload_n hx hb dX6_many_17 rfl (lv_at hl 0 rfl) ?_
      refine gf_X6_50 hx hb hg hown hK hP 0 rfl rfl dX6_many_18 ?_
      refine lv_iconst (v := nI 1) hx hb dX6_many_21 (by decide) ?_
      refine lv_isub hx hb dX6_many_22 ?_
      refine lv_asi (pk_sub (by omega)) ?_
      refine lv_goto (tgt := 34) hx hb dX6_many_23 (by decide) ?_
      exact hret _ _ 34 _ _ hS dX6_many_34 (by unfold ff_cnt; split <;> congr 1 <;> omega)
  · have c2 := mt (nI_eq (by omega) (by omega)).mpr c2
    refine lv_iload_n hx hb dX6_many_5 rfl (lv_at hl 1 rfl) ?_
    refine lv_iconst (v := nI 2) hx hb dX6_many_6 (by decide) ?_
    refine lv_icmp_ne (tgt := 30) hx hb dX6_many_7 (by decide) (fun c7 => ?_) (fun c7 => ?_)
    · have c7 := mt (nI_eq (by omega) (by omega)).mpr c7
      refine lv_aload_n hx hb dX6_many_30 rfl (lv_at hl 0 rfl) ?_
      refine gf_X6_50 hx hb hg hown hK hP 0 rfl rfl dX6_many_31 ?_
      exact hret _ _ 34 _ _ hS dX6_many_34 (by unfold ff_cnt; split <;> congr 1 <;> omega)
    · have c7 := (nI_eq (by omega) (by omega)).mp c7
      refine lv_aload_n hx hb dX6_many_10 rfl (lv_at hl 0 rfl) ?_
      refine gf_X6_50 hx hb hg hown hK hP 0 rfl rfl dX6_many_11 ?_
      refine lv_if_le (tgt := 26) hx hb dX6_many_14 (by decide) (fun c14 => ?_) (fun c14 => ?_)
      · have c14 := (nz_le (by omega)).mp c14
        refine lv_iconst (v := nI 0) hx hb dX6_many_26 (by decide) ?_
        refine lv_goto (tgt := 34) hx hb dX6_many_27 (by decide) ?_
        exact hret _ _ 34 _ _ hS dX6_many_34 (by unfold ff_cnt; split <;> congr 1 <;> omega)
      · have c14 := mt (nz_le (by omega)).mpr c14
        refine lv_aload_n hx hb dX6_many_17 rfl (lv_at hl 0 rfl) ?_
        refine gf_X6_50 hx hb hg hown hK hP 0 rfl rfl dX6_many_18 ?_
        refine lv_iconst (v := nI 1) hx hb dX6_many_21 (by decide) ?_
        refine lv_isub hx hb dX6_many_22 ?_
        refine lv_asi (pk_sub (by omega)) ?_
        refine lv_goto (tgt := 34) hx hb dX6_many_23 (by decide) ?_
        exact hret _ _ 34 _ _ hS dX6_many_34 (by unfold ff_cnt; split <;> congr 1 <;> omega)

set_option maxHeartbeats 4000000 in
set_option maxRecDepth 100000 in
theorem k_itemOf (l : Launch) (D : va_G) (cI : ClassId) (m0 m1 m2 m3 m4 m5 m6 m7 m8 m9 m10 m11 : Nat) (th co : Int32) (n rn mn pn sn : Nat) (KP KL : Nat → Int32) (v i : Nat) (hv : v ≤ 4) (hn : n ≤ 60) (hi : i < ff_cnt v n) (hR : ∀ t, t < n → 0 ≤ (KP t).toInt ∧ (KP t).toInt ≤ 127) : Cp l yX6_itemOf cX6_itemOf 3 (some .int) 0 D (tI cI) [.ref m0, .int (nI v), .int (nI i)] [(m0, .inr (6, [.int th, .int (nI n), .ref m1, .ref m2, .int (nI rn), .ref m3, .int (nI mn), .ref m4, .ref m5, .int (nI pn), .ref m6, .int (nI sn), .int co, .ref m7, .ref m8, .ref m9, .ref m10, .ref m11])), (m1, oI cI 60 KP), (m2, oI cI 60 KL)] (ff_it KP KL v i) := by
  refine Cp.of (own := RX6) (lv := [(0, .ref m0), (1, .int (nI v)), (2, .int (nI i))]) (by decide +kernel) rfl (Nat.le_of_ble_eq_true rfl) rfl (vp_nar_int _) ?_
  intro p e s m args below meth c Q cx hK hP hret ls hl
  obtain ⟨hx, hb, hml, hown, hg⟩ := id cx
  have hS : va_S (fun _ => False) s.heap s.heap [] := va_S.rf
  have hi2 := ff_cnt_ix hi hn
  have hi3 : i < n := Nat.lt_of_lt_of_le hi (ff_cnt_le v n)
  have hi4 : v = 1 ∨ v = 2 → i + 1 < n := fun h => by unfold ff_cnt at hi; rw [if_pos h] at hi; omega
  refine lv_iload_n hx hb dX6_itemOf_0 rfl (lv_at hl 1 rfl) ?_
  rcases (show v = 0 ∨ v = 1 ∨ v = 2 ∨ v = 3 ∨ v = 4 by omega) with rfl | rfl | rfl | rfl | rfl
  · refine lv_tableIn (off := 31) (tgt := 32) hx hb dX6_itemOf_1 (by decide) (by decide) (by decide) (by decide) ?_
    refine lv_aload_n hx hb dX6_itemOf_32 rfl (lv_at hl 0 rfl) ?_
    refine gf_X6_7 hx hb hg hown hK hP 0 rfl rfl dX6_itemOf_33 ?_
    refine lv_iload_n hx hb dX6_itemOf_36 rfl (lv_at hl 2 rfl) ?_
    refine ald hx hb hK hP 1 rfl rfl (by omega) dX6_itemOf_37 ?_
    exact hret _ _ 38 _ _ hS dX6_itemOf_38 (rfl)
  · refine lv_tableIn (off := 38) (tgt := 39) hx hb dX6_itemOf_1 (by decide) (by decide) (by decide) (by decide) ?_
    refine lv_aload_n hx hb dX6_itemOf_39 rfl (lv_at hl 0 rfl) ?_
    refine gf_X6_7 hx hb hg hown hK hP 0 rfl rfl dX6_itemOf_40 ?_
    refine lv_iload_n hx hb dX6_itemOf_43 rfl (lv_at hl 2 rfl) ?_
    refine lv_iconst (v := nI 1) hx hb dX6_itemOf_44 (by decide) ?_
    refine lv_iadd hx hb dX6_itemOf_45 ?_
    refine lv_asi (nI_add _ _) ?_
    refine ald hx hb hK hP 1 rfl rfl (by omega) dX6_itemOf_46 ?_
    refine lv_aload_n hx hb dX6_itemOf_47 rfl (lv_at hl 0 rfl) ?_
    refine gf_X6_7 hx hb hg hown hK hP 0 rfl rfl dX6_itemOf_48 ?_
    refine lv_iload_n hx hb dX6_itemOf_51 rfl (lv_at hl 2 rfl) ?_
    refine ald hx hb hK hP 1 rfl rfl (by omega) dX6_itemOf_52 ?_
    refine lv_isub hx hb dX6_itemOf_53 ?_
    exact hret _ _ 54 _ _ hS dX6_itemOf_54 (rfl)
  · refine lv_tableIn (off := 54) (tgt := 55) hx hb dX6_itemOf_1 (by decide) (by decide) (by decide) (by decide) ?_
    refine lv_aload_n hx hb dX6_itemOf_55 rfl (lv_at hl 0 rfl) ?_
    refine gf_X6_7 hx hb hg hown hK hP 0 rfl rfl dX6_itemOf_56 ?_
    refine lv_iload_n hx hb dX6_itemOf_59 rfl (lv_at hl 2 rfl) ?_
    refine lv_iconst (v := nI 1) hx hb dX6_itemOf_60 (by decide) ?_
    refine lv_iadd hx hb dX6_itemOf_61 ?_
    refine lv_asi (nI_add _ _) ?_
    refine ald hx hb hK hP 1 rfl rfl (by omega) dX6_itemOf_62 ?_
    refine lv_aload_n hx hb dX6_itemOf_63 rfl (lv_at hl 0 rfl) ?_
    refine gf_X6_7 hx hb hg hown hK hP 0 rfl rfl dX6_itemOf_64 ?_
    refine lv_iload_n hx hb dX6_itemOf_67 rfl (lv_at hl 2 rfl) ?_
    refine ald hx hb hK hP 1 rfl rfl (by omega) dX6_itemOf_68 ?_
    refine lv_icmp_le (tgt := 76) hx hb dX6_itemOf_69 (by decide) (fun c69 => ?_) (fun c69 => ?_)
    · skip
      refine lv_aload_n hx hb dX6_itemOf_76 rfl (lv_at hl 0 rfl) ?_
      refine gf_X6_7 hx hb hg hown hK hP 0 rfl rfl dX6_itemOf_77 ?_
      refine lv_iload_n hx hb dX6_itemOf_80 rfl (lv_at hl 2 rfl) ?_
      refine lv_iconst (v := nI 1) hx hb dX6_itemOf_81 (by decide) ?_
      refine lv_iadd hx hb dX6_itemOf_82 ?_
      refine lv_asi (nI_add _ _) ?_
      refine ald hx hb hK hP 1 rfl rfl (by omega) dX6_itemOf_83 ?_
      refine lv_aload_n hx hb dX6_itemOf_84 rfl (lv_at hl 0 rfl) ?_
      refine gf_X6_7 hx hb hg hown hK hP 0 rfl rfl dX6_itemOf_85 ?_
      refine lv_iload_n hx hb dX6_itemOf_88 rfl (lv_at hl 2 rfl) ?_
      refine ald hx hb hK hP 1 rfl rfl (by omega) dX6_itemOf_89 ?_
      refine lv_icmp_ge (tgt := 97) hx hb dX6_itemOf_90 (by decide) (fun c90 => ?_) (fun c90 => ?_)
      · skip
        refine lv_iconst (v := nI 0) hx hb dX6_itemOf_97 (by decide) ?_
        exact hret _ _ 98 _ _ hS dX6_itemOf_98 (by rw [show ff_it KP KL 2 i = ff_sg (KP (i + 1) - KP i) from rfl, ff_sg_cmp (hR _ (by omega)) (hR _ (by omega))]; first | rw [if_pos (i_nle.mp c69)]; rfl | (rw [if_neg (i_nlt.mpr c69), if_pos (i_nle.mp c90)]) | (rw [if_neg (i_nlt.mpr c69), if_neg (i_nlt.mpr c90)]; rfl))
      · skip
        refine lv_iconst (v := (-1)) hx hb dX6_itemOf_93 (by decide) ?_
        refine lv_goto (tgt := 98) hx hb dX6_itemOf_94 (by decide) ?_
        exact hret _ _ 98 _ _ hS dX6_itemOf_98 (by rw [show ff_it KP KL 2 i = ff_sg (KP (i + 1) - KP i) from rfl, ff_sg_cmp (hR _ (by omega)) (hR _ (by omega))]; first | rw [if_pos (i_nle.mp c69)]; rfl | (rw [if_neg (i_nlt.mpr c69), if_pos (i_nle.mp c90)]) | (rw [if_neg (i_nlt.mpr c69), if_neg (i_nlt.mpr c90)]; rfl))
    · skip
      refine lv_iconst (v := nI 1) hx hb dX6_itemOf_72 (by decide) ?_
      refine lv_goto (tgt := 98) hx hb dX6_itemOf_73 (by decide) ?_
      exact hret _ _ 98 _ _ hS dX6_itemOf_98 (by rw [show ff_it KP KL 2 i = ff_sg (KP (i + 1) - KP i) from rfl, ff_sg_cmp (hR _ (by omega)) (hR _ (by omega))]; first | rw [if_pos (i_nle.mp c69)]; rfl | (rw [if_neg (i_nlt.mpr c69), if_pos (i_nle.mp c90)]) | (rw [if_neg (i_nlt.mpr c69), if_neg (i_nlt.mpr c90)]; rfl))
  · refine lv_tableIn (off := 98) (tgt := 99) hx hb dX6_itemOf_1 (by decide) (by decide) (by decide) (by decide) ?_
    refine lv_aload_n hx hb dX6_itemOf_99 rfl (lv_at hl 0 rfl) ?_
    refine gf_X6_13 hx hb hg hown hK hP 0 rfl rfl dX6_itemOf_100 ?_
    refine lv_iload_n hx hb dX6_itemOf_103 rfl (lv_at hl 2 rfl) ?_
    refine ald hx hb hK hP 2 rfl rfl (by omega) dX6_itemOf_104 ?_
    exact hret _ _ 105 _ _ hS dX6_itemOf_105 (rfl)
  · refine lv_tableOut (tgt := 106) hx hb dX6_itemOf_1 (Or.inr (by decide)) (by decide) ?_
    refine lv_sipush (v := 1000) hx hb dX6_itemOf_106 (by decide) ?_
    refine lv_aload_n hx hb dX6_itemOf_109 rfl (lv_at hl 0 rfl) ?_
    refine gf_X6_7 hx hb hg hown hK hP 0 rfl rfl dX6_itemOf_110 ?_
    refine lv_iload_n hx hb dX6_itemOf_113 rfl (lv_at hl 2 rfl) ?_
    refine ald hx hb hK hP 1 rfl rfl (by omega) dX6_itemOf_114 ?_
    refine lv_imul hx hb dX6_itemOf_115 ?_
    refine lv_aload_n hx hb dX6_itemOf_116 rfl (lv_at hl 0 rfl) ?_
    refine gf_X6_13 hx hb hg hown hK hP 0 rfl rfl dX6_itemOf_117 ?_
    refine lv_iload_n hx hb dX6_itemOf_120 rfl (lv_at hl 2 rfl) ?_
    refine ald hx hb hK hP 2 rfl rfl (by omega) dX6_itemOf_121 ?_
    refine lv_iadd hx hb dX6_itemOf_122 ?_
    exact hret _ _ 123 _ _ hS dX6_itemOf_123 (by rw [Int32.mul_comm]; rfl)

set_option maxHeartbeats 4000000 in
set_option maxRecDepth 100000 in
theorem k_common (l : Launch) (D : va_G) (cI : ClassId) (m0 m1 m2 m3 m4 m5 m6 m7 m8 m9 m10 m11 : Nat) (th co : Int32) (n rn mn pn sn : Nat) (KP KL : Nat → Int32) (v i j : Nat) (hv : v ≤ 4) (hn : n ≤ 60) (hij : i < j) (hj : j ≤ ff_cnt v n) (hR : ∀ t, t < n → 0 ≤ (KP t).toInt ∧ (KP t).toInt ≤ 127) : Cp l yX6_common cX6_common 5 (some .int) 1 D (tI cI) [.ref m0, .int (nI v), .int (nI i), .int (nI j)] [(m0, .inr (6, [.int th, .int (nI n), .ref m1, .ref m2, .int (nI rn), .ref m3, .int (nI mn), .ref m4, .ref m5, .int (nI pn), .ref m6, .int (nI sn), .int co, .ref m7, .ref m8, .ref m9, .ref m10, .ref m11])), (m1, oI cI 60 KP), (m2, oI cI 60 KL)] (nI (ff_run (ff_it KP KL v) i j (ff_cnt v n - j))) := by
  refine Cp.of (own := RX6) (lv := [(0, .ref m0), (1, .int (nI v)), (2, .int (nI i)), (3, .int (nI j))]) (by decide +kernel) rfl (Nat.le_of_ble_eq_true rfl) rfl (vp_nar_int _) ?_
  intro p e s m args below meth c Q cx hK hP hret ls hl
  obtain ⟨hx, hb, hml, hown, hg⟩ := id cx
  have hS : va_S (fun _ => False) s.heap s.heap [] := va_S.rf
  have hcn := ff_cnt_le v n
  refine lv_iconst (v := nI 0) hx hb dX6_common_0 (by decide) ?_
  refine lv_istore (lv' := [(4, .int (nI 0)), (0, .ref m0), (1, .int (nI v)), (2, .int (nI i)), (3, .int (nI j))]) hx hb dX6_common_1 hl (by decide) rfl (fun ls hl => ?_)
  have lp_3 : ∀ (k : Nat) (r : Nat) (H : Heap) (locs : List Loc) (ls : Array Slot), (r ≤ ff_cnt v n - j) → (∀ t, t < r → (ff_it KP KL v) (i + t) = (ff_it KP KL v) (j + t)) → (ff_cnt v n - j - r < k) → va_P D vwCl [(m0, .inr (6, [.int th, .int (nI n), .ref m1, .ref m2, .int (nI rn), .ref m3, .int (nI mn), .ref m4, .ref m5, .int (nI pn), .ref m6, .int (nI sn), .int co, .ref m7, .ref m8, .ref m9, .ref m10, .ref m11])), (m1, oI cI 60 KP), (m2, oI cI 60 KL)] H → va_S (fun _ => False) s.heap H locs → lv_has ls 5 [(0, .ref m0), (1, .int (nI v)), (2, .int (nI i)), (3, .int (nI j)), (4, .int (nI r))] → W p l e (rr 1 0 0) s m args below meth c H locs 0 0 Q (F0 m 3 ls []) := by
    intro k
    induction k with
    | zero =>
      intro r H locs ls hr he hk
      exact absurd hk (Nat.not_lt_zero _)
    | succ k ih_3 =>
      intro r H locs ls hr he hk hP hS hl
      refine lv_iload_n hx hb dX6_common_3 rfl (lv_at hl 3 rfl) ?_
      refine lv_iload hx hb dX6_common_4 (lv_at hl 4 rfl) ?_
      refine lv_iadd hx hb dX6_common_6 ?_
      refine lv_asi (nI_add _ _) ?_
      refine lv_aload_n hx hb dX6_common_7 rfl (lv_at hl 0 rfl) ?_
      refine lv_iload_n hx hb dX6_common_8 rfl (lv_at hl 1 rfl) ?_
      refine Cp.callV (As := [.int (nI v)]) (rest := [.int (nI (j + r))]) (cv_X6_86 hg ⟨Nat.le_of_ble_eq_true rfl, Nat.le_of_ble_eq_true rfl⟩) (k_many l D cI m0 m1 m2 m3 m4 m5 m6 m7 m8 m9 m10 m11 (th) (co) (n) (rn) (mn) (pn) (sn) v hv hn) cx hK hP [0] rfl (rq := 0) rfl rfl rfl hS rfl hl.1 rfl (Nat.le_of_ble_eq_true rfl) dX6_common_9 ⟨Nat.zero_le _, Nat.zero_le _⟩ (fun H locs hP hS => ?_)
      refine lv_icmp_ge (tgt := 42) hx hb dX6_common_12 (by decide) (fun c12 => ?_) (fun c12 => ?_)
      · have c12 := (nI_leI (by omega) (by omega)).mp c12
        refine lv_iload hx hb dX6_common_42 (lv_at hl 4 rfl) ?_
        exact hret _ _ 44 _ _ hS dX6_common_44 (by rw [ff_run_eq (ff_it KP KL v) r (ff_cnt v n - j) i j hr he (by first | exact Or.inl (by omega) | exact Or.inr c33)])
      · have c12 := mt (nI_leI (by omega) (by omega)).mpr c12
        refine lv_aload_n hx hb dX6_common_15 rfl (lv_at hl 0 rfl) ?_
        refine lv_iload_n hx hb dX6_common_16 rfl (lv_at hl 1 rfl) ?_
        refine lv_iload_n hx hb dX6_common_17 rfl (lv_at hl 2 rfl) ?_
        refine lv_iload hx hb dX6_common_18 (lv_at hl 4 rfl) ?_
        refine lv_iadd hx hb dX6_common_20 ?_
        refine lv_asi (nI_add _ _) ?_
        refine Cp.callV (As := [.int (nI v), .int (nI (i + r))]) (rest := []) (cv_X6_90 hg ⟨Nat.le_of_ble_eq_true rfl, Nat.le_of_ble_eq_true rfl⟩) (k_itemOf l D cI m0 m1 m2 m3 m4 m5 m6 m7 m8 m9 m10 m11 (th) (co) (n) (rn) (mn) (pn) (sn) (KP) (KL) v (i + r) hv hn (by omega) hR) cx hK hP [0, 1, 2] rfl (rq := 0) rfl rfl rfl hS rfl hl.1 rfl (Nat.le_of_ble_eq_true rfl) dX6_common_21 ⟨Nat.zero_le _, Nat.zero_le _⟩ (fun H locs hP hS => ?_)
        refine lv_aload_n hx hb dX6_common_24 rfl (lv_at hl 0 rfl) ?_
        refine lv_iload_n hx hb dX6_common_25 rfl (lv_at hl 1 rfl) ?_
        refine lv_iload_n hx hb dX6_common_26 rfl (lv_at hl 3 rfl) ?_
        refine lv_iload hx hb dX6_common_27 (lv_at hl 4 rfl) ?_
        refine lv_iadd hx hb dX6_common_29 ?_
        refine lv_asi (nI_add _ _) ?_
        refine Cp.callV (As := [.int (nI v), .int (nI (j + r))]) (rest := [.int ((ff_it (KP) (KL) v (i + r)))]) (cv_X6_90 hg ⟨Nat.le_of_ble_eq_true rfl, Nat.le_of_ble_eq_true rfl⟩) (k_itemOf l D cI m0 m1 m2 m3 m4 m5 m6 m7 m8 m9 m10 m11 (th) (co) (n) (rn) (mn) (pn) (sn) (KP) (KL) v (j + r) hv hn (by omega) hR) cx hK hP [0, 1, 2] rfl (rq := 0) rfl rfl rfl hS rfl hl.1 rfl (Nat.le_of_ble_eq_true rfl) dX6_common_30 ⟨Nat.zero_le _, Nat.zero_le _⟩ (fun H locs hP hS => ?_)
        refine lv_icmp_ne (tgt := 42) hx hb dX6_common_33 (by decide) (fun c33 => ?_) (fun c33 => ?_)
        · skip
          refine lv_iload hx hb dX6_common_42 (lv_at hl 4 rfl) ?_
          exact hret _ _ 44 _ _ hS dX6_common_44 (by rw [ff_run_eq (ff_it KP KL v) r (ff_cnt v n - j) i j hr he (by first | exact Or.inl (by omega) | exact Or.inr c33)])
        · skip
          refine lv_iinc (v := nI (r + 1)) (lv' := [(4, .int (nI (r + 1))), (0, .ref m0), (1, .int (nI v)), (2, .int (nI i)), (3, .int (nI j))]) hx hb dX6_common_36 hl (k := 4) rfl (nI_1 _) (by decide) rfl (fun ls hl => ?_)
          refine lv_goto (tgt := 3) hx hb dX6_common_39 (by decide) ?_
          exact ih_3 (r + 1) _ _ _ (by omega) (fun t ht => by rcases Nat.lt_succ_iff_lt_or_eq.mp ht with h | h <;> first | exact he t h | (subst h; exact c33)) (by omega) hP hS (lv_sub hl [1, 2, 3, 4, 0] rfl)
  exact lp_3 (_ + 1) (0) _ _ _ (Nat.zero_le _) (fun t h => absurd h (Nat.not_lt_zero _)) (Nat.lt_succ_self _) hP hS (lv_sub hl [1, 2, 3, 4, 0] rfl)

set_option maxHeartbeats 4000000 in
set_option maxRecDepth 100000 in
theorem k_source (l : Launch) (D : va_G) (cI : ClassId) (m0 m1 m2 m3 m4 m5 m6 m7 m8 m9 m10 m11 : Nat) (th co : Int32) (n rn mn pn sn : Nat) (fo i : Nat) (hf : fo ≤ 3) (hi : i < mn) (hm : mn ≤ 12) : Cp l yX6_source cX6_source 3 (some .int) 0 D (tI cI) [.ref m0, .int (nI fo), .int (nI i)] [(m0, .inr (6, [.int th, .int (nI n), .ref m1, .ref m2, .int (nI rn), .ref m3, .int (nI mn), .ref m4, .ref m5, .int (nI pn), .ref m6, .int (nI sn), .int co, .ref m7, .ref m8, .ref m9, .ref m10, .ref m11]))] (nI (ff_src fo mn i)) := by
  refine Cp.of (own := RX6) (lv := [(0, .ref m0), (1, .int (nI fo)), (2, .int (nI i))]) (by decide +kernel) rfl (Nat.le_of_ble_eq_true rfl) rfl (vp_nar_int _) ?_
  intro p e s m args below meth c Q cx hK hP hret ls hl
  obtain ⟨hx, hb, hml, hown, hg⟩ := id cx
  have hS : va_S (fun _ => False) s.heap s.heap [] := va_S.rf
  refine lv_iload_n hx hb dX6_source_0 rfl (lv_at hl 1 rfl) ?_
  refine lv_iconst (v := nI 2) hx hb dX6_source_1 (by decide) ?_
  refine lv_icmp_ge (tgt := 9) hx hb dX6_source_2 (by decide) (fun c2 => ?_) (fun c2 => ?_)
  · have c2 := (nI_leI (by omega) (by omega)).mp c2
    refine lv_aload_n hx hb dX6_source_9 rfl (lv_at hl 0 rfl) ?_
    refine gf_X6_56 hx hb hg hown hK hP 0 rfl rfl dX6_source_10 ?_
    refine lv_iconst (v := nI 1) hx hb dX6_source_13 (by decide) ?_
    refine lv_isub hx hb dX6_source_14 ?_
    refine lv_asi (pk_sub (by omega)) ?_
    refine lv_iload_n hx hb dX6_source_15 rfl (lv_at hl 2 rfl) ?_
    refine lv_isub hx hb dX6_source_16 ?_
    refine lv_asi (pk_sub (by omega)) ?_
    exact hret _ _ 17 _ _ hS dX6_source_17 (by unfold ff_src; split <;> congr 1 <;> omega)
  · have c2 := mt (nI_leI (by omega) (by omega)).mpr c2
    refine lv_iload_n hx hb dX6_source_5 rfl (lv_at hl 2 rfl) ?_
    refine lv_goto (tgt := 17) hx hb dX6_source_6 (by decide) ?_
    exact hret _ _ 17 _ _ hS dX6_source_17 (by unfold ff_src; split <;> congr 1 <;> omega)

set_option maxHeartbeats 4000000 in
set_option maxRecDepth 100000 in
theorem k_MformPitch (l : Launch) (D : va_G) (cI : ClassId) (m0 m1 m2 m3 m4 m5 m6 m7 m8 m9 m10 m11 : Nat) (th co : Int32) (n rn mn pn sn : Nat) (KM : Nat → Int32) (fo i : Nat) (hf : fo ≤ 3) (hi : i < mn) (hm : mn ≤ 12) : Cp l yX6_formPitch cX6_formPitch 4 (some .int) 1 D (tI cI) [.ref m0, .int (nI fo), .int (nI i)] [(m0, .inr (6, [.int th, .int (nI n), .ref m1, .ref m2, .int (nI rn), .ref m3, .int (nI mn), .ref m4, .ref m5, .int (nI pn), .ref m6, .int (nI sn), .int co, .ref m7, .ref m8, .ref m9, .ref m10, .ref m11])), (m4, oI cI 12 KM)] (ff_fp KM fo mn i) := by
  refine Cp.of (own := RX6) (lv := [(0, .ref m0), (1, .int (nI fo)), (2, .int (nI i))]) (by decide +kernel) rfl (Nat.le_of_ble_eq_true rfl) rfl (vp_nar_int _) ?_
  intro p e s m args below meth c Q cx hK hP hret ls hl
  obtain ⟨hx, hb, hml, hown, hg⟩ := id cx
  have hS : va_S (fun _ => False) s.heap s.heap [] := va_S.rf
  have hs1 := ff_src_lt (fo := fo) (tn := mn) (i := i) (by omega)
  have hs2 := ff_src_lt (fo := fo) (tn := mn) (i := 0) (by omega)
  refine lv_aload_n hx hb dX6_formPitch_0 rfl (lv_at hl 0 rfl) ?_
  refine gf_X6_19 hx hb hg hown hK hP 0 rfl rfl dX6_formPitch_1 ?_
  refine lv_aload_n hx hb dX6_formPitch_4 rfl (lv_at hl 0 rfl) ?_
  refine lv_iload_n hx hb dX6_formPitch_5 rfl (lv_at hl 1 rfl) ?_
  refine lv_iload_n hx hb dX6_formPitch_6 rfl (lv_at hl 2 rfl) ?_
  refine Cp.callV (As := [.int (nI fo), .int (nI i)]) (rest := [.ref m4]) (cv_X6_104 hg ⟨Nat.le_of_ble_eq_true rfl, Nat.le_of_ble_eq_true rfl⟩) (k_source l D cI m0 m1 m2 m3 m4 m5 m6 m7 m8 m9 m10 m11 (th) (co) (n) (rn) (mn) (pn) (sn) fo i hf (by omega) hm) cx hK hP [0] rfl (rq := 0) rfl rfl rfl hS rfl hl.1 rfl (Nat.le_of_ble_eq_true rfl) dX6_formPitch_7 ⟨Nat.zero_le _, Nat.zero_le _⟩ (fun H locs hP hS => ?_)
  refine ald hx hb hK hP 1 rfl rfl (by omega) dX6_formPitch_10 ?_
  refine lv_istore_n (lv' := [(3, .int ((KM (ff_src fo mn i)))), (0, .ref m0), (1, .int (nI fo)), (2, .int (nI i))]) hx hb dX6_formPitch_11 rfl hl (by decide) rfl (fun ls hl => ?_)
  refine lv_iload_n hx hb dX6_formPitch_12 rfl (lv_at hl 2 rfl) ?_
  refine lv_iconst (v := nI 1) hx hb dX6_formPitch_13 (by decide) ?_
  refine lv_icmp_eq (tgt := 22) hx hb dX6_formPitch_14 (by decide) (fun c14 => ?_) (fun c14 => ?_)
  · have c14 := (nI_eq (by omega) (by omega)).mp c14
    refine lv_iconst (v := nI 2) hx hb dX6_formPitch_22 (by decide) ?_
    refine lv_aload_n hx hb dX6_formPitch_23 rfl (lv_at hl 1 rfl) ?_
    refine gf_X6_19 hx hb hg hown hK hP 0 rfl rfl dX6_formPitch_24 ?_
    refine lv_aload_n hx hb dX6_formPitch_27 rfl (lv_at hl 1 rfl) ?_
    refine lv_iload_n hx hb dX6_formPitch_28 rfl (lv_at hl 2 rfl) ?_
    refine lv_iconst (v := nI 0) hx hb dX6_formPitch_29 (by decide) ?_
    refine Cp.callV (As := [.int (nI fo), .int (nI 0)]) (rest := [.ref m4, .int (nI 2)]) (cv_X6_104 hg ⟨Nat.le_of_ble_eq_true rfl, Nat.le_of_ble_eq_true rfl⟩) (k_source l D cI m0 m1 m2 m3 m4 m5 m6 m7 m8 m9 m10 m11 (th) (co) (n) (rn) (mn) (pn) (sn) fo 0 hf (by omega) hm) cx hK hP [0] rfl (rq := 0) rfl rfl rfl hS rfl hl.1 rfl (Nat.le_of_ble_eq_true rfl) dX6_formPitch_30 ⟨Nat.zero_le _, Nat.zero_le _⟩ (fun H locs hP hS => ?_)
    refine ald hx hb hK hP 1 rfl rfl (by omega) dX6_formPitch_33 ?_
    refine lv_imul hx hb dX6_formPitch_34 ?_
    refine lv_iload_n hx hb dX6_formPitch_35 rfl (lv_at hl 0 rfl) ?_
    refine lv_isub hx hb dX6_formPitch_36 ?_
    refine lv_goto (tgt := 41) hx hb dX6_formPitch_37 (by decide) ?_
    exact hret _ _ 41 _ _ hS dX6_formPitch_41 (by unfold ff_fp; split <;> first | rfl | (exfalso; omega))
  · have c14 := mt (nI_eq (by omega) (by omega)).mpr c14
    refine lv_iload_n hx hb dX6_formPitch_17 rfl (lv_at hl 2 rfl) ?_
    refine lv_iconst (v := nI 3) hx hb dX6_formPitch_18 (by decide) ?_
    refine lv_icmp_ne (tgt := 40) hx hb dX6_formPitch_19 (by decide) (fun c19 => ?_) (fun c19 => ?_)
    · have c19 := mt (nI_eq (by omega) (by omega)).mpr c19
      refine lv_iload_n hx hb dX6_formPitch_40 rfl (lv_at hl 0 rfl) ?_
      exact hret _ _ 41 _ _ hS dX6_formPitch_41 (by unfold ff_fp; split <;> first | rfl | (exfalso; omega))
    · have c19 := (nI_eq (by omega) (by omega)).mp c19
      refine lv_iconst (v := nI 2) hx hb dX6_formPitch_22 (by decide) ?_
      refine lv_aload_n hx hb dX6_formPitch_23 rfl (lv_at hl 1 rfl) ?_
      refine gf_X6_19 hx hb hg hown hK hP 0 rfl rfl dX6_formPitch_24 ?_
      refine lv_aload_n hx hb dX6_formPitch_27 rfl (lv_at hl 1 rfl) ?_
      refine lv_iload_n hx hb dX6_formPitch_28 rfl (lv_at hl 2 rfl) ?_
      refine lv_iconst (v := nI 0) hx hb dX6_formPitch_29 (by decide) ?_
      refine Cp.callV (As := [.int (nI fo), .int (nI 0)]) (rest := [.ref m4, .int (nI 2)]) (cv_X6_104 hg ⟨Nat.le_of_ble_eq_true rfl, Nat.le_of_ble_eq_true rfl⟩) (k_source l D cI m0 m1 m2 m3 m4 m5 m6 m7 m8 m9 m10 m11 (th) (co) (n) (rn) (mn) (pn) (sn) fo 0 hf (by omega) hm) cx hK hP [0] rfl (rq := 0) rfl rfl rfl hS rfl hl.1 rfl (Nat.le_of_ble_eq_true rfl) dX6_formPitch_30 ⟨Nat.zero_le _, Nat.zero_le _⟩ (fun H locs hP hS => ?_)
      refine ald hx hb hK hP 1 rfl rfl (by omega) dX6_formPitch_33 ?_
      refine lv_imul hx hb dX6_formPitch_34 ?_
      refine lv_iload_n hx hb dX6_formPitch_35 rfl (lv_at hl 0 rfl) ?_
      refine lv_isub hx hb dX6_formPitch_36 ?_
      refine lv_goto (tgt := 41) hx hb dX6_formPitch_37 (by decide) ?_
      exact hret _ _ 41 _ _ hS dX6_formPitch_41 (by unfold ff_fp; split <;> first | rfl | (exfalso; omega))

set_option maxHeartbeats 4000000 in
set_option maxRecDepth 100000 in
theorem k_ManswerPitch (l : Launch) (D : va_G) (cI : ClassId) (m0 m1 m2 m3 m4 m5 m6 m7 m8 m9 m10 m11 : Nat) (th co : Int32) (n rn mn pn sn : Nat) (KM : Nat → Int32) (ky hd i : Nat) (hk9 : ky ≤ 11) (hh : hd ≤ 12) (hi : i < mn) (hm : mn ≤ 12) (hp1 : 0 ≤ (KM i).toInt) (hp2 : (KM i).toInt ≤ 127) : Cp l yX6_answerPitch cX6_answerPitch 6 (some .int) 0 D (tI cI) [.ref m0, .int (nI ky), .int (nI hd), .int (nI i)] [(m0, .inr (6, [.int th, .int (nI n), .ref m1, .ref m2, .int (nI rn), .ref m3, .int (nI mn), .ref m4, .ref m5, .int (nI pn), .ref m6, .int (nI sn), .int co, .ref m7, .ref m8, .ref m9, .ref m10, .ref m11])), (m4, oI cI 12 KM)] (ff_ap KM ky hd i) := by
  refine Cp.of (own := RX6) (lv := [(0, .ref m0), (1, .int (nI ky)), (2, .int (nI hd)), (3, .int (nI i))]) (by decide +kernel) rfl (Nat.le_of_ble_eq_true rfl) rfl (vp_nar_int _) ?_
  intro p e s m args below meth c Q cx hK hP hret ls hl
  obtain ⟨hx, hb, hml, hown, hg⟩ := id cx
  have hS : va_S (fun _ => False) s.heap s.heap [] := va_S.rf
  refine lv_aload_n hx hb dX6_answerPitch_0 rfl (lv_at hl 0 rfl) ?_
  refine gf_X6_19 hx hb hg hown hK hP 0 rfl rfl dX6_answerPitch_1 ?_
  refine lv_iload_n hx hb dX6_answerPitch_4 rfl (lv_at hl 3 rfl) ?_
  refine ald hx hb hK hP 1 rfl rfl (by omega) dX6_answerPitch_5 ?_
  refine lv_istore (lv' := [(4, .int ((KM i))), (0, .ref m0), (1, .int (nI ky)), (2, .int (nI hd)), (3, .int (nI i))]) hx hb dX6_answerPitch_6 hl (by decide) rfl (fun ls hl => ?_)
  refine lv_iload hx hb dX6_answerPitch_8 (lv_at hl 0 rfl) ?_
  refine lv_bipush (v := nI 120) hx hb dX6_answerPitch_10 (by decide) ?_
  refine lv_iadd hx hb dX6_answerPitch_12 ?_
  refine lv_iload_n hx hb dX6_answerPitch_13 rfl (lv_at hl 2 rfl) ?_
  refine lv_isub hx hb dX6_answerPitch_14 ?_
  refine lv_bipush (v := nI 7) hx hb dX6_answerPitch_15 (by decide) ?_
  refine lv_isub hx hb dX6_answerPitch_17 ?_
  refine lv_bipush (v := nI 12) hx hb dX6_answerPitch_18 (by decide) ?_
  refine lv_irem hx hb dX6_answerPitch_20 (by decide) ?_
  refine lv_if_ne (tgt := 28) hx hb dX6_answerPitch_21 (by decide) (fun c21 => ?_) (fun c21 => ?_)
  · skip
    have c21 := mt (ff_rem12 hp1 hp2 hk9).mpr c21
    refine lv_iconst (v := nI 0) hx hb dX6_answerPitch_28 (by decide) ?_
    refine lv_istore (lv' := [(5, .int (nI 0)), (4, .int ((KM i))), (0, .ref m0), (1, .int (nI ky)), (2, .int (nI hd)), (3, .int (nI i))]) hx hb dX6_answerPitch_29 hl (by decide) rfl (fun ls hl => ?_)
    refine lv_iload hx hb dX6_answerPitch_31 (lv_at hl 1 rfl) ?_
    refine lv_iload_n hx hb dX6_answerPitch_33 rfl (lv_at hl 5 rfl) ?_
    refine lv_iload_n hx hb dX6_answerPitch_34 rfl (lv_at hl 4 rfl) ?_
    refine lv_icmp_ge (tgt := 47) hx hb dX6_answerPitch_35 (by decide) (fun c35 => ?_) (fun c35 => ?_)
    · have c35 := (nI_leI (by omega) (by omega)).mp c35
      refine lv_bipush (v := nI 7) hx hb dX6_answerPitch_47 (by decide) ?_
      refine lv_iadd hx hb dX6_answerPitch_49 ?_
      exact hret _ _ 50 _ _ hS dX6_answerPitch_50 (by unfold ff_ap; split <;> first | rfl | (exfalso; omega))
    · have c35 := mt (nI_leI (by omega) (by omega)).mpr c35
      refine lv_iload hx hb dX6_answerPitch_38 (lv_at hl 0 rfl) ?_
      refine lv_if_eq (tgt := 47) hx hb dX6_answerPitch_40 (by decide) (fun _ => ?_) (fun h9 => absurd (by decide) h9)
      refine lv_bipush (v := nI 7) hx hb dX6_answerPitch_47 (by decide) ?_
      refine lv_iadd hx hb dX6_answerPitch_49 ?_
      exact hret _ _ 50 _ _ hS dX6_answerPitch_50 (by unfold ff_ap; split <;> first | rfl | (exfalso; omega))
  · skip
    have c21 := (ff_rem12 hp1 hp2 hk9).mp c21
    refine lv_iconst (v := nI 1) hx hb dX6_answerPitch_24 (by decide) ?_
    refine lv_goto (tgt := 29) hx hb dX6_answerPitch_25 (by decide) ?_
    refine lv_istore (lv' := [(5, .int (nI 1)), (4, .int ((KM i))), (0, .ref m0), (1, .int (nI ky)), (2, .int (nI hd)), (3, .int (nI i))]) hx hb dX6_answerPitch_29 hl (by decide) rfl (fun ls hl => ?_)
    refine lv_iload hx hb dX6_answerPitch_31 (lv_at hl 1 rfl) ?_
    refine lv_iload_n hx hb dX6_answerPitch_33 rfl (lv_at hl 5 rfl) ?_
    refine lv_iload_n hx hb dX6_answerPitch_34 rfl (lv_at hl 4 rfl) ?_
    refine lv_icmp_ge (tgt := 47) hx hb dX6_answerPitch_35 (by decide) (fun c35 => ?_) (fun c35 => ?_)
    · have c35 := (nI_leI (by omega) (by omega)).mp c35
      refine lv_bipush (v := nI 7) hx hb dX6_answerPitch_47 (by decide) ?_
      refine lv_iadd hx hb dX6_answerPitch_49 ?_
      exact hret _ _ 50 _ _ hS dX6_answerPitch_50 (by unfold ff_ap; split <;> first | rfl | (exfalso; omega))
    · have c35 := mt (nI_leI (by omega) (by omega)).mpr c35
      refine lv_iload hx hb dX6_answerPitch_38 (lv_at hl 0 rfl) ?_
      refine lv_if_eq (tgt := 47) hx hb dX6_answerPitch_40 (by decide) (fun h9 => absurd h9 (by decide)) (fun _ => ?_)
      refine lv_iconst (v := nI 5) hx hb dX6_answerPitch_43 (by decide) ?_
      refine lv_goto (tgt := 49) hx hb dX6_answerPitch_44 (by decide) ?_
      refine lv_iadd hx hb dX6_answerPitch_49 ?_
      exact hret _ _ 50 _ _ hS dX6_answerPitch_50 (by unfold ff_ap; split <;> first | rfl | (exfalso; omega))

set_option maxHeartbeats 4000000 in
set_option maxRecDepth 100000 in
theorem k_goes (l : Launch) (D : va_G) (cI : ClassId) (m0 m1 m2 m3 m4 m5 m6 m7 m8 m9 m10 m11 : Nat) (th co : Int32) (n rn mn pn sn : Nat) (KP KT : Nat → Int32) (z : Nat) (hz : z < n) (hn : n ≤ 60) (hm1 : 1 ≤ mn) (hm : mn ≤ 12) : Cp l yX6_goes cX6_goes 4 (some .boolean) 0 D (tI cI) [.ref m0, .int (nI z)] [(m0, .inr (6, [.int th, .int (nI n), .ref m1, .ref m2, .int (nI rn), .ref m3, .int (nI mn), .ref m4, .ref m5, .int (nI pn), .ref m6, .int (nI sn), .int co, .ref m7, .ref m8, .ref m9, .ref m10, .ref m11])), (m1, oI cI 60 KP), (m8, oI cI 12 KT)] (bI (ff_go n KP KT mn z = true)) := by
  refine Cp.of (own := RX6) (lv := [(0, .ref m0), (1, .int (nI z))]) (by decide +kernel) rfl (Nat.le_of_ble_eq_true rfl) rfl (bI_nar _) ?_
  intro p e s m args below meth c Q cx hK hP hret ls hl
  obtain ⟨hx, hb, hml, hown, hg⟩ := id cx
  have hS : va_S (fun _ => False) s.heap s.heap [] := va_S.rf
  refine lv_iload_n hx hb dX6_goes_0 rfl (lv_at hl 1 rfl) ?_
  refine lv_aload_n hx hb dX6_goes_1 rfl (lv_at hl 0 rfl) ?_
  refine gf_X6_56 hx hb hg hown hK hP 0 rfl rfl dX6_goes_2 ?_
  refine lv_iadd hx hb dX6_goes_5 ?_
  refine lv_asi (nI_add _ _) ?_
  refine lv_aload_n hx hb dX6_goes_6 rfl (lv_at hl 0 rfl) ?_
  refine gf_X6_50 hx hb hg hown hK hP 0 rfl rfl dX6_goes_7 ?_
  refine lv_icmp_gt (tgt := 17) hx hb dX6_goes_10 (by decide) (fun c10 => ?_) (fun c10 => ?_)
  · have c10 := (nI_ltI (by omega) (by omega)).mp c10
    refine lv_iconst (v := nI 0) hx hb dX6_goes_17 (by decide) ?_
    refine lv_asi (y := bI (z + mn ≤ n ∧ ff_all (fun t => decide (t = 0) || decide (KP (z + t) - KP (z + t - 1) = KT t - KT (t - 1))) (1 + 0) = true)) (by first | exact bI_1 ⟨by omega, rfl⟩ | exact bI_0 (fun h => by have := h.1; omega)) ?_
    refine lv_istore_n (lv' := [(2, .int (bI (z + mn ≤ n ∧ ff_all (fun t => decide (t = 0) || decide (KP (z + t) - KP (z + t - 1) = KT t - KT (t - 1))) (1 + 0) = true))), (0, .ref m0), (1, .int (nI z))]) hx hb dX6_goes_18 rfl hl (by decide) rfl (fun ls hl => ?_)
    refine lv_iconst (v := nI 1) hx hb dX6_goes_19 (by decide) ?_
    refine lv_istore_n (lv' := [(3, .int (nI 1)), (2, .int (bI (z + mn ≤ n ∧ ff_all (fun t => decide (t = 0) || decide (KP (z + t) - KP (z + t - 1) = KT t - KT (t - 1))) (1 + 0) = true))), (0, .ref m0), (1, .int (nI z))]) hx hb dX6_goes_20 rfl hl (by decide) rfl (fun ls hl => ?_)
    have lp_21 : ∀ (k : Nat) (r : Nat) (H : Heap) (locs : List Loc) (ls : Array Slot), (1 + r ≤ mn) → (mn - r < k) → va_P D vwCl [(m0, .inr (6, [.int th, .int (nI n), .ref m1, .ref m2, .int (nI rn), .ref m3, .int (nI mn), .ref m4, .ref m5, .int (nI pn), .ref m6, .int (nI sn), .int co, .ref m7, .ref m8, .ref m9, .ref m10, .ref m11])), (m1, oI cI 60 KP), (m8, oI cI 12 KT)] H → va_S (fun _ => False) s.heap H locs → lv_has ls 4 [(0, .ref m0), (1, .int (nI z)), (2, .int (bI (z + mn ≤ n ∧ ff_all (fun t => decide (t = 0) || decide (KP (z + t) - KP (z + t - 1) = KT t - KT (t - 1))) (1 + r) = true))), (3, .int (nI (1 + r)))] → W p l e (rr 0 0 0) s m args below meth c H locs 0 0 Q (F0 m 21 ls []) := by
      intro k
      induction k with
      | zero =>
        intro r H locs ls hr hk
        exact absurd hk (Nat.not_lt_zero _)
      | succ k ih_21 =>
        intro r H locs ls hr hk hP hS hl
        refine lv_iload_n hx hb dX6_goes_21 rfl (lv_at hl 3 rfl) ?_
        refine lv_aload_n hx hb dX6_goes_22 rfl (lv_at hl 0 rfl) ?_
        refine gf_X6_56 hx hb hg hown hK hP 0 rfl rfl dX6_goes_23 ?_
        refine lv_icmp_ge (tgt := 82) hx hb dX6_goes_26 (by decide) (fun c26 => ?_) (fun c26 => ?_)
        · have c26 := (nI_leI (by omega) (by omega)).mp c26
          refine lv_iload_n hx hb dX6_goes_82 rfl (lv_at hl 2 rfl) ?_
          exact hret _ _ 83 _ _ hS dX6_goes_83 (by unfold ff_go; first | exact bI_if (ff_go_e (by omega)) | exact bI_if (ff_go_n hr c30))
        · have c26 := mt (nI_leI (by omega) (by omega)).mpr c26
          refine lv_iload_n hx hb dX6_goes_29 rfl (lv_at hl 2 rfl) ?_
          refine lv_if_eq (tgt := 82) hx hb dX6_goes_30 (by decide) (fun c30 => ?_) (fun c30 => ?_)
          · have c30 := bI_z.mp c30
            refine lv_iload_n hx hb dX6_goes_82 rfl (lv_at hl 2 rfl) ?_
            exact hret _ _ 83 _ _ hS dX6_goes_83 (by unfold ff_go; first | exact bI_if (ff_go_e (by omega)) | exact bI_if (ff_go_n hr c30))
          · have c30 := bI_nz.mp c30
            refine lv_aload_n hx hb dX6_goes_33 rfl (lv_at hl 0 rfl) ?_
            refine gf_X6_7 hx hb hg hown hK hP 0 rfl rfl dX6_goes_34 ?_
            refine lv_iload_n hx hb dX6_goes_37 rfl (lv_at hl 1 rfl) ?_
            refine lv_iload_n hx hb dX6_goes_38 rfl (lv_at hl 3 rfl) ?_
            refine lv_iadd hx hb dX6_goes_39 ?_
            refine lv_asi (nI_add _ _) ?_
            refine ald hx hb hK hP 1 rfl rfl (by omega) dX6_goes_40 ?_
            refine lv_aload_n hx hb dX6_goes_41 rfl (lv_at hl 0 rfl) ?_
            refine gf_X6_7 hx hb hg hown hK hP 0 rfl rfl dX6_goes_42 ?_
            refine lv_iload_n hx hb dX6_goes_45 rfl (lv_at hl 1 rfl) ?_
            refine lv_iload_n hx hb dX6_goes_46 rfl (lv_at hl 3 rfl) ?_
            refine lv_iadd hx hb dX6_goes_47 ?_
            refine lv_asi (nI_add _ _) ?_
            refine lv_iconst (v := nI 1) hx hb dX6_goes_48 (by decide) ?_
            refine lv_isub hx hb dX6_goes_49 ?_
            refine lv_asi (pk_sub (by omega)) ?_
            refine ald hx hb hK hP 1 rfl rfl (by omega) dX6_goes_50 ?_
            refine lv_isub hx hb dX6_goes_51 ?_
            refine lv_aload_n hx hb dX6_goes_52 rfl (lv_at hl 0 rfl) ?_
            refine gf_X6_31 hx hb hg hown hK hP 0 rfl rfl dX6_goes_53 ?_
            refine lv_iload_n hx hb dX6_goes_56 rfl (lv_at hl 3 rfl) ?_
            refine ald hx hb hK hP 2 rfl rfl (by omega) dX6_goes_57 ?_
            refine lv_aload_n hx hb dX6_goes_58 rfl (lv_at hl 0 rfl) ?_
            refine gf_X6_31 hx hb hg hown hK hP 0 rfl rfl dX6_goes_59 ?_
            refine lv_iload_n hx hb dX6_goes_62 rfl (lv_at hl 3 rfl) ?_
            refine lv_iconst (v := nI 1) hx hb dX6_goes_63 (by decide) ?_
            refine lv_isub hx hb dX6_goes_64 ?_
            refine lv_asi (pk_sub (by omega)) ?_
            refine ald hx hb hK hP 2 rfl rfl (by omega) dX6_goes_65 ?_
            refine lv_isub hx hb dX6_goes_66 ?_
            refine lv_icmp_ne (tgt := 74) hx hb dX6_goes_67 (by decide) (fun c67 => ?_) (fun c67 => ?_)
            · skip
              refine lv_iconst (v := nI 0) hx hb dX6_goes_74 (by decide) ?_
              refine lv_asi (y := bI (z + mn ≤ n ∧ ff_all (fun t => decide (t = 0) || decide (KP (z + t) - KP (z + t - 1) = KT t - KT (t - 1))) (1 + (r + 1)) = true)) (by first | exact bI_1 (ff_go_t c30 c67) | exact bI_0 (ff_go_f (by omega) c67)) ?_
              refine lv_istore_n (lv' := [(2, .int (bI (z + mn ≤ n ∧ ff_all (fun t => decide (t = 0) || decide (KP (z + t) - KP (z + t - 1) = KT t - KT (t - 1))) (1 + (r + 1)) = true))), (0, .ref m0), (1, .int (nI z)), (3, .int (nI (1 + r)))]) hx hb dX6_goes_75 rfl hl (by decide) rfl (fun ls hl => ?_)
              refine lv_iinc (v := nI (1 + r + 1)) (lv' := [(3, .int (nI (1 + r + 1))), (2, .int (bI (z + mn ≤ n ∧ ff_all (fun t => decide (t = 0) || decide (KP (z + t) - KP (z + t - 1) = KT t - KT (t - 1))) (1 + (r + 1)) = true))), (0, .ref m0), (1, .int (nI z))]) hx hb dX6_goes_76 hl (k := 3) rfl (nI_1 _) (by decide) rfl (fun ls hl => ?_)
              refine lv_goto (tgt := 21) hx hb dX6_goes_79 (by decide) ?_
              rw [show 1 + r + 1 = 1 + (r + 1) by omega] at hl
              exact ih_21 (r + 1) _ _ _ (by omega) (by omega) hP hS (lv_sub hl [2, 3, 1, 0] rfl)
            · skip
              refine lv_iconst (v := nI 1) hx hb dX6_goes_70 (by decide) ?_
              refine lv_goto (tgt := 75) hx hb dX6_goes_71 (by decide) ?_
              refine lv_asi (y := bI (z + mn ≤ n ∧ ff_all (fun t => decide (t = 0) || decide (KP (z + t) - KP (z + t - 1) = KT t - KT (t - 1))) (1 + (r + 1)) = true)) (by first | exact bI_1 (ff_go_t c30 c67) | exact bI_0 (ff_go_f (by omega) c67)) ?_
              refine lv_istore_n (lv' := [(2, .int (bI (z + mn ≤ n ∧ ff_all (fun t => decide (t = 0) || decide (KP (z + t) - KP (z + t - 1) = KT t - KT (t - 1))) (1 + (r + 1)) = true))), (0, .ref m0), (1, .int (nI z)), (3, .int (nI (1 + r)))]) hx hb dX6_goes_75 rfl hl (by decide) rfl (fun ls hl => ?_)
              refine lv_iinc (v := nI (1 + r + 1)) (lv' := [(3, .int (nI (1 + r + 1))), (2, .int (bI (z + mn ≤ n ∧ ff_all (fun t => decide (t = 0) || decide (KP (z + t) - KP (z + t - 1) = KT t - KT (t - 1))) (1 + (r + 1)) = true))), (0, .ref m0), (1, .int (nI z))]) hx hb dX6_goes_76 hl (k := 3) rfl (nI_1 _) (by decide) rfl (fun ls hl => ?_)
              refine lv_goto (tgt := 21) hx hb dX6_goes_79 (by decide) ?_
              rw [show 1 + r + 1 = 1 + (r + 1) by omega] at hl
              exact ih_21 (r + 1) _ _ _ (by omega) (by omega) hP hS (lv_sub hl [2, 3, 1, 0] rfl)
    exact lp_21 (_ + 1) (0) _ _ _ (hm1) (Nat.lt_succ_self _) hP hS (lv_sub hl [2, 3, 1, 0] rfl)
  · have c10 := mt (nI_ltI (by omega) (by omega)).mpr c10
    refine lv_iconst (v := nI 1) hx hb dX6_goes_13 (by decide) ?_
    refine lv_goto (tgt := 18) hx hb dX6_goes_14 (by decide) ?_
    refine lv_asi (y := bI (z + mn ≤ n ∧ ff_all (fun t => decide (t = 0) || decide (KP (z + t) - KP (z + t - 1) = KT t - KT (t - 1))) (1 + 0) = true)) (by first | exact bI_1 ⟨by omega, rfl⟩ | exact bI_0 (fun h => by have := h.1; omega)) ?_
    refine lv_istore_n (lv' := [(2, .int (bI (z + mn ≤ n ∧ ff_all (fun t => decide (t = 0) || decide (KP (z + t) - KP (z + t - 1) = KT t - KT (t - 1))) (1 + 0) = true))), (0, .ref m0), (1, .int (nI z))]) hx hb dX6_goes_18 rfl hl (by decide) rfl (fun ls hl => ?_)
    refine lv_iconst (v := nI 1) hx hb dX6_goes_19 (by decide) ?_
    refine lv_istore_n (lv' := [(3, .int (nI 1)), (2, .int (bI (z + mn ≤ n ∧ ff_all (fun t => decide (t = 0) || decide (KP (z + t) - KP (z + t - 1) = KT t - KT (t - 1))) (1 + 0) = true))), (0, .ref m0), (1, .int (nI z))]) hx hb dX6_goes_20 rfl hl (by decide) rfl (fun ls hl => ?_)
    have lp_21 : ∀ (k : Nat) (r : Nat) (H : Heap) (locs : List Loc) (ls : Array Slot), (1 + r ≤ mn) → (mn - r < k) → va_P D vwCl [(m0, .inr (6, [.int th, .int (nI n), .ref m1, .ref m2, .int (nI rn), .ref m3, .int (nI mn), .ref m4, .ref m5, .int (nI pn), .ref m6, .int (nI sn), .int co, .ref m7, .ref m8, .ref m9, .ref m10, .ref m11])), (m1, oI cI 60 KP), (m8, oI cI 12 KT)] H → va_S (fun _ => False) s.heap H locs → lv_has ls 4 [(0, .ref m0), (1, .int (nI z)), (2, .int (bI (z + mn ≤ n ∧ ff_all (fun t => decide (t = 0) || decide (KP (z + t) - KP (z + t - 1) = KT t - KT (t - 1))) (1 + r) = true))), (3, .int (nI (1 + r)))] → W p l e (rr 0 0 0) s m args below meth c H locs 0 0 Q (F0 m 21 ls []) := by
      intro k
      induction k with
      | zero =>
        intro r H locs ls hr hk
        exact absurd hk (Nat.not_lt_zero _)
      | succ k ih_21 =>
        intro r H locs ls hr hk hP hS hl
        refine lv_iload_n hx hb dX6_goes_21 rfl (lv_at hl 3 rfl) ?_
        refine lv_aload_n hx hb dX6_goes_22 rfl (lv_at hl 0 rfl) ?_
        refine gf_X6_56 hx hb hg hown hK hP 0 rfl rfl dX6_goes_23 ?_
        refine lv_icmp_ge (tgt := 82) hx hb dX6_goes_26 (by decide) (fun c26 => ?_) (fun c26 => ?_)
        · have c26 := (nI_leI (by omega) (by omega)).mp c26
          refine lv_iload_n hx hb dX6_goes_82 rfl (lv_at hl 2 rfl) ?_
          exact hret _ _ 83 _ _ hS dX6_goes_83 (by unfold ff_go; first | exact bI_if (ff_go_e (by omega)) | exact bI_if (ff_go_n hr c30))
        · have c26 := mt (nI_leI (by omega) (by omega)).mpr c26
          refine lv_iload_n hx hb dX6_goes_29 rfl (lv_at hl 2 rfl) ?_
          refine lv_if_eq (tgt := 82) hx hb dX6_goes_30 (by decide) (fun c30 => ?_) (fun c30 => ?_)
          · have c30 := bI_z.mp c30
            refine lv_iload_n hx hb dX6_goes_82 rfl (lv_at hl 2 rfl) ?_
            exact hret _ _ 83 _ _ hS dX6_goes_83 (by unfold ff_go; first | exact bI_if (ff_go_e (by omega)) | exact bI_if (ff_go_n hr c30))
          · have c30 := bI_nz.mp c30
            refine lv_aload_n hx hb dX6_goes_33 rfl (lv_at hl 0 rfl) ?_
            refine gf_X6_7 hx hb hg hown hK hP 0 rfl rfl dX6_goes_34 ?_
            refine lv_iload_n hx hb dX6_goes_37 rfl (lv_at hl 1 rfl) ?_
            refine lv_iload_n hx hb dX6_goes_38 rfl (lv_at hl 3 rfl) ?_
            refine lv_iadd hx hb dX6_goes_39 ?_
            refine lv_asi (nI_add _ _) ?_
            refine ald hx hb hK hP 1 rfl rfl (by omega) dX6_goes_40 ?_
            refine lv_aload_n hx hb dX6_goes_41 rfl (lv_at hl 0 rfl) ?_
            refine gf_X6_7 hx hb hg hown hK hP 0 rfl rfl dX6_goes_42 ?_
            refine lv_iload_n hx hb dX6_goes_45 rfl (lv_at hl 1 rfl) ?_
            refine lv_iload_n hx hb dX6_goes_46 rfl (lv_at hl 3 rfl) ?_
            refine lv_iadd hx hb dX6_goes_47 ?_
            refine lv_asi (nI_add _ _) ?_
            refine lv_iconst (v := nI 1) hx hb dX6_goes_48 (by decide) ?_
            refine lv_isub hx hb dX6_goes_49 ?_
            refine lv_asi (pk_sub (by omega)) ?_
            refine ald hx hb hK hP 1 rfl rfl (by omega) dX6_goes_50 ?_
            refine lv_isub hx hb dX6_goes_51 ?_
            refine lv_aload_n hx hb dX6_goes_52 rfl (lv_at hl 0 rfl) ?_
            refine gf_X6_31 hx hb hg hown hK hP 0 rfl rfl dX6_goes_53 ?_
            refine lv_iload_n hx hb dX6_goes_56 rfl (lv_at hl 3 rfl) ?_
            refine ald hx hb hK hP 2 rfl rfl (by omega) dX6_goes_57 ?_
            refine lv_aload_n hx hb dX6_goes_58 rfl (lv_at hl 0 rfl) ?_
            refine gf_X6_31 hx hb hg hown hK hP 0 rfl rfl dX6_goes_59 ?_
            refine lv_iload_n hx hb dX6_goes_62 rfl (lv_at hl 3 rfl) ?_
            refine lv_iconst (v := nI 1) hx hb dX6_goes_63 (by decide) ?_
            refine lv_isub hx hb dX6_goes_64 ?_
            refine lv_asi (pk_sub (by omega)) ?_
            refine ald hx hb hK hP 2 rfl rfl (by omega) dX6_goes_65 ?_
            refine lv_isub hx hb dX6_goes_66 ?_
            refine lv_icmp_ne (tgt := 74) hx hb dX6_goes_67 (by decide) (fun c67 => ?_) (fun c67 => ?_)
            · skip
              refine lv_iconst (v := nI 0) hx hb dX6_goes_74 (by decide) ?_
              refine lv_asi (y := bI (z + mn ≤ n ∧ ff_all (fun t => decide (t = 0) || decide (KP (z + t) - KP (z + t - 1) = KT t - KT (t - 1))) (1 + (r + 1)) = true)) (by first | exact bI_1 (ff_go_t c30 c67) | exact bI_0 (ff_go_f (by omega) c67)) ?_
              refine lv_istore_n (lv' := [(2, .int (bI (z + mn ≤ n ∧ ff_all (fun t => decide (t = 0) || decide (KP (z + t) - KP (z + t - 1) = KT t - KT (t - 1))) (1 + (r + 1)) = true))), (0, .ref m0), (1, .int (nI z)), (3, .int (nI (1 + r)))]) hx hb dX6_goes_75 rfl hl (by decide) rfl (fun ls hl => ?_)
              refine lv_iinc (v := nI (1 + r + 1)) (lv' := [(3, .int (nI (1 + r + 1))), (2, .int (bI (z + mn ≤ n ∧ ff_all (fun t => decide (t = 0) || decide (KP (z + t) - KP (z + t - 1) = KT t - KT (t - 1))) (1 + (r + 1)) = true))), (0, .ref m0), (1, .int (nI z))]) hx hb dX6_goes_76 hl (k := 3) rfl (nI_1 _) (by decide) rfl (fun ls hl => ?_)
              refine lv_goto (tgt := 21) hx hb dX6_goes_79 (by decide) ?_
              rw [show 1 + r + 1 = 1 + (r + 1) by omega] at hl
              exact ih_21 (r + 1) _ _ _ (by omega) (by omega) hP hS (lv_sub hl [2, 3, 1, 0] rfl)
            · skip
              refine lv_iconst (v := nI 1) hx hb dX6_goes_70 (by decide) ?_
              refine lv_goto (tgt := 75) hx hb dX6_goes_71 (by decide) ?_
              refine lv_asi (y := bI (z + mn ≤ n ∧ ff_all (fun t => decide (t = 0) || decide (KP (z + t) - KP (z + t - 1) = KT t - KT (t - 1))) (1 + (r + 1)) = true)) (by first | exact bI_1 (ff_go_t c30 c67) | exact bI_0 (ff_go_f (by omega) c67)) ?_
              refine lv_istore_n (lv' := [(2, .int (bI (z + mn ≤ n ∧ ff_all (fun t => decide (t = 0) || decide (KP (z + t) - KP (z + t - 1) = KT t - KT (t - 1))) (1 + (r + 1)) = true))), (0, .ref m0), (1, .int (nI z)), (3, .int (nI (1 + r)))]) hx hb dX6_goes_75 rfl hl (by decide) rfl (fun ls hl => ?_)
              refine lv_iinc (v := nI (1 + r + 1)) (lv' := [(3, .int (nI (1 + r + 1))), (2, .int (bI (z + mn ≤ n ∧ ff_all (fun t => decide (t = 0) || decide (KP (z + t) - KP (z + t - 1) = KT t - KT (t - 1))) (1 + (r + 1)) = true))), (0, .ref m0), (1, .int (nI z))]) hx hb dX6_goes_76 hl (k := 3) rfl (nI_1 _) (by decide) rfl (fun ls hl => ?_)
              refine lv_goto (tgt := 21) hx hb dX6_goes_79 (by decide) ?_
              rw [show 1 + r + 1 = 1 + (r + 1) by omega] at hl
              exact ih_21 (r + 1) _ _ _ (by omega) (by omega) hP hS (lv_sub hl [2, 3, 1, 0] rfl)
    exact lp_21 (_ + 1) (0) _ _ _ (hm1) (Nat.lt_succ_self _) hP hS (lv_sub hl [2, 3, 1, 0] rfl)
