set_option maxHeartbeats 4000000 in
set_option maxRecDepth 100000 in
/-- NoteRow.append -/
theorem k_X1_append (l : Launch) (D : va_G) (cI : ClassId) (a0 a1 a2 n : Nat) (P L : Nat → Int32) (x y : Int32) (hn : n < 60) : Cv l yX1_append cX1_append 3 0 0 0 D (tI cI) [.ref a0, .int x, .int y] [(a0, .inr (1, [.ref a1, .ref a2, .int (nI n)])), (a1, oI cI 60 P), (a2, oI cI 60 L)] (S := Unit) (fun _ => True) (fun u => [(a0, .inr (1, [.ref a1, .ref a2, .int (nI (n + 1))])), (a1, oI cI 60 (upd P n x)), (a2, oI cI 60 (upd L n y))]) := by
  refine Cv.of (own := RX1) (lv := [(0, .ref a0), (1, .int x), (2, .int y)]) (by decide +kernel) rfl (Nat.le_of_ble_eq_true rfl) rfl ?_
  intro p e s m args below meth c Q A cx hin hK hP hD hA hret ls hl
  obtain ⟨hx, hb, hml, hown, hg⟩ := id cx
  have hS : va_S A s.heap s.heap [] := va_S.rf
  refine lv_aload_n hx hb dX1_append_0 rfl (lv_at hl 0 rfl) ?_
  refine gf_X1_18 hx hb hg hown hK hP 0 rfl rfl dX1_append_1 ?_
  refine lv_bipush (v := nI 60) hx hb dX1_append_4 (by decide) ?_
  refine lv_icmp_ge (tgt := 39) hx hb dX1_append_6 (by decide) (fun c6 => ?_) (fun c6 => ?_)
  · have c6 := (nI_leI (by omega) (by omega)).mp c6
    exfalso; omega
  · have c6 := mt (nI_leI (by omega) (by omega)).mpr c6
    refine lv_aload_n hx hb dX1_append_9 rfl (lv_at hl 0 rfl) ?_
    refine gf_X1_9 hx hb hg hown hK hP 0 rfl rfl dX1_append_10 ?_
    refine lv_aload_n hx hb dX1_append_13 rfl (lv_at hl 0 rfl) ?_
    refine gf_X1_18 hx hb hg hown hK hP 0 rfl rfl dX1_append_14 ?_
    refine lv_iload_n hx hb dX1_append_17 rfl (lv_at hl 1 rfl) ?_
    refine ast hx hb hK hP hD hS 1 rfl rfl (by omega) dX1_append_18 (fun H locs hP hD hS => ?_)
    have hP : va_P D vwCl [(a0, .inr (1, [.ref a1, .ref a2, .int (nI n)])), (a1, oI cI 60 (upd P n (x))), (a2, oI cI 60 L)] H := hP
    have hD : va_D A [(a0, .inr (1, [.ref a1, .ref a2, .int (nI n)])), (a1, oI cI 60 (upd P n (x))), (a2, oI cI 60 L)] := hD
    refine lv_aload_n hx hb dX1_append_19 rfl (lv_at hl 0 rfl) ?_
    refine gf_X1_15 hx hb hg hown hK hP 0 rfl rfl dX1_append_20 ?_
    refine lv_aload_n hx hb dX1_append_23 rfl (lv_at hl 0 rfl) ?_
    refine gf_X1_18 hx hb hg hown hK hP 0 rfl rfl dX1_append_24 ?_
    refine lv_iload_n hx hb dX1_append_27 rfl (lv_at hl 2 rfl) ?_
    refine ast hx hb hK hP hD hS 2 rfl rfl (by omega) dX1_append_28 (fun H locs hP hD hS => ?_)
    have hP : va_P D vwCl [(a0, .inr (1, [.ref a1, .ref a2, .int (nI n)])), (a1, oI cI 60 (upd P n (x))), (a2, oI cI 60 (upd L n (y)))] H := hP
    have hD : va_D A [(a0, .inr (1, [.ref a1, .ref a2, .int (nI n)])), (a1, oI cI 60 (upd P n (x))), (a2, oI cI 60 (upd L n (y)))] := hD
    refine lv_aload_n hx hb dX1_append_29 rfl (lv_at hl 0 rfl) ?_
    refine lv_dup hx hb dX1_append_30 rfl ?_
    refine gf_X1_18 hx hb hg hown hK hP 0 rfl rfl dX1_append_31 ?_
    refine lv_iconst (v := nI 1) hx hb dX1_append_34 (by decide) ?_
    refine lv_iadd hx hb dX1_append_35 ?_
    refine lv_asi (nI_add _ _) ?_
    refine pf_X1_18 hx hb hg hown hK hP hD hS 0 rfl (Nat.le_of_ble_eq_true rfl) dX1_append_36 (fun H locs hP hD hS => ?_)
    have hP : va_P D vwCl [(a0, .inr (1, [.ref a1, .ref a2, .int (nI (n + 1))])), (a1, oI cI 60 (upd P n (x))), (a2, oI cI 60 (upd L n (y)))] H := hP
    have hD : va_D A [(a0, .inr (1, [.ref a1, .ref a2, .int (nI (n + 1))])), (a1, oI cI 60 (upd P n (x))), (a2, oI cI 60 (upd L n (y)))] := hD
    exact hret _ _ 39 _ (()) (trivial) hP hD hS dX1_append_39

set_option maxHeartbeats 4000000 in
set_option maxRecDepth 100000 in
/-- PlaceList.append -/
theorem k_X3_append (l : Launch) (D : va_G) (cI : ClassId) (a0 a1 n : Nat) (f : Nat → Int32) (x : Int32) (hn : n < 60) : Cv l yX3_append cX3_append 2 0 0 0 D (tI cI) [.ref a0, .int x] [(a0, .inr (3, [.ref a1, .int (nI n)])), (a1, oI cI 60 f)] (S := Unit) (fun _ => True) (fun u => [(a0, .inr (3, [.ref a1, .int (nI (n + 1))])), (a1, oI cI 60 (upd f n x))]) := by
  refine Cv.of (own := RX3) (lv := [(0, .ref a0), (1, .int x)]) (by decide +kernel) rfl (Nat.le_of_ble_eq_true rfl) rfl ?_
  intro p e s m args below meth c Q A cx hin hK hP hD hA hret ls hl
  obtain ⟨hx, hb, hml, hown, hg⟩ := id cx
  have hS : va_S A s.heap s.heap [] := va_S.rf
  refine lv_aload_n hx hb dX3_append_0 rfl (lv_at hl 0 rfl) ?_
  refine gf_X3_15 hx hb hg hown hK hP 0 rfl rfl dX3_append_1 ?_
  refine lv_bipush (v := nI 60) hx hb dX3_append_4 (by decide) ?_
  refine lv_icmp_ge (tgt := 29) hx hb dX3_append_6 (by decide) (fun c6 => ?_) (fun c6 => ?_)
  · have c6 := (nI_leI (by omega) (by omega)).mp c6
    exfalso; omega
  · have c6 := mt (nI_leI (by omega) (by omega)).mpr c6
    refine lv_aload_n hx hb dX3_append_9 rfl (lv_at hl 0 rfl) ?_
    refine gf_X3_9 hx hb hg hown hK hP 0 rfl rfl dX3_append_10 ?_
    refine lv_aload_n hx hb dX3_append_13 rfl (lv_at hl 0 rfl) ?_
    refine gf_X3_15 hx hb hg hown hK hP 0 rfl rfl dX3_append_14 ?_
    refine lv_iload_n hx hb dX3_append_17 rfl (lv_at hl 1 rfl) ?_
    refine ast hx hb hK hP hD hS 1 rfl rfl (by omega) dX3_append_18 (fun H locs hP hD hS => ?_)
    have hP : va_P D vwCl [(a0, .inr (3, [.ref a1, .int (nI n)])), (a1, oI cI 60 (upd f n (x)))] H := hP
    have hD : va_D A [(a0, .inr (3, [.ref a1, .int (nI n)])), (a1, oI cI 60 (upd f n (x)))] := hD
    refine lv_aload_n hx hb dX3_append_19 rfl (lv_at hl 0 rfl) ?_
    refine lv_dup hx hb dX3_append_20 rfl ?_
    refine gf_X3_15 hx hb hg hown hK hP 0 rfl rfl dX3_append_21 ?_
    refine lv_iconst (v := nI 1) hx hb dX3_append_24 (by decide) ?_
    refine lv_iadd hx hb dX3_append_25 ?_
    refine lv_asi (nI_add _ _) ?_
    refine pf_X3_15 hx hb hg hown hK hP hD hS 0 rfl (Nat.le_of_ble_eq_true rfl) dX3_append_26 (fun H locs hP hD hS => ?_)
    have hP : va_P D vwCl [(a0, .inr (3, [.ref a1, .int (nI (n + 1))])), (a1, oI cI 60 (upd f n (x)))] H := hP
    have hD : va_D A [(a0, .inr (3, [.ref a1, .int (nI (n + 1))])), (a1, oI cI 60 (upd f n (x)))] := hD
    exact hret _ _ 29 _ (()) (trivial) hP hD hS dX3_append_29

set_option maxHeartbeats 4000000 in
set_option maxRecDepth 100000 in
/-- ItemRow.read -/
theorem k_X0_read (l : Launch) (D : va_G) (cI : ClassId) (a0 a1 : Nat) (z : Int32) (f : Nat → Int32) (b0 b1 b2 n : Nat) (P L : Nat → Int32) (v : Nat) (hv : v ≤ 4) (hn : n ≤ 60) : Cv l yX0_read cX0_read 4 2 0 0 D (tI cI) [.ref a0, .ref b0, .int (nI v)] [(a0, .inr (0, [.ref a1, .int z])), (a1, oI cI 60 f), (b0, .inr (1, [.ref b1, .ref b2, .int (nI n)])), (b1, oI cI 60 P), (b2, oI cI 60 L)] (S := Unit) (fun _ => True) (fun u => [(a0, .inr (0, [.ref a1, .int (nI (ff_cnt v n))])), (a1, oI cI 60 (ff_fill (ff_it P L v) f (ff_cnt v n))), (b0, .inr (1, [.ref b1, .ref b2, .int (nI n)])), (b1, oI cI 60 P), (b2, oI cI 60 L)]) := by
  refine Cv.of (own := RX0) (lv := [(0, .ref a0), (1, .ref b0), (2, .int (nI v))]) (by decide +kernel) rfl (Nat.le_of_ble_eq_true rfl) rfl ?_
  intro p e s m args below meth c Q A cx hin hK hP hD hA hret ls hl
  obtain ⟨hx, hb, hml, hown, hg⟩ := id cx
  have hS : va_S A s.heap s.heap [] := va_S.rf
  refine lv_aload_n hx hb dX0_read_0 rfl (lv_at hl 0 rfl) ?_
  refine lv_aload_n hx hb dX0_read_1 rfl (lv_at hl 1 rfl) ?_
  refine lv_iload_n hx hb dX0_read_2 rfl (lv_at hl 2 rfl) ?_
  refine Cp.callS (As := [.ref b0, .int (nI v)]) (rest := [.ref a0]) (cv_X0_36 hg ⟨Nat.le_of_ble_eq_true rfl, Nat.le_of_ble_eq_true rfl⟩) (k_X0_countIn l D cI b0 b1 b2 n P L v hv hn) cx hK hP [2, 3, 4] rfl hS rfl hl.1 rfl (Nat.le_of_ble_eq_true rfl) dX0_read_3 ⟨Nat.zero_le _, Nat.zero_le _⟩ (fun H locs hP hS => ?_)
  refine pf_X0_40 hx hb hg hown hK hP hD hS 0 rfl (Nat.le_of_ble_eq_true rfl) dX0_read_6 (fun H locs hP hD hS => ?_)
  have hP : va_P D vwCl [(a0, .inr (0, [.ref a1, .int (nI (ff_cnt v n))])), (a1, oI cI 60 f), (b0, .inr (1, [.ref b1, .ref b2, .int (nI n)])), (b1, oI cI 60 P), (b2, oI cI 60 L)] H := hP
  have hD : va_D A [(a0, .inr (0, [.ref a1, .int (nI (ff_cnt v n))])), (a1, oI cI 60 f), (b0, .inr (1, [.ref b1, .ref b2, .int (nI n)])), (b1, oI cI 60 P), (b2, oI cI 60 L)] := hD
  refine lv_iconst (v := nI 0) hx hb dX0_read_9 (by decide) ?_
  refine lv_istore_n (lv' := [(3, .int (nI 0)), (0, .ref a0), (1, .ref b0), (2, .int (nI v))]) hx hb dX0_read_10 rfl hl (by decide) rfl (fun ls hl => ?_)
  have hcn := ff_cnt_le v n
  rw [← ff_fill_0 (ff_it P L v) f] at hP hD
  have lp_11 : ∀ (k : Nat) (i : Nat) (H : Heap) (locs : List Loc) (ls : Array Slot), (i ≤ ff_cnt v n) → (ff_cnt v n - i < k) → va_P D vwCl [(a0, .inr (0, [.ref a1, .int (nI (ff_cnt v n))])), (a1, oI cI 60 (ff_fill (ff_it P L v) f i)), (b0, .inr (1, [.ref b1, .ref b2, .int (nI n)])), (b1, oI cI 60 P), (b2, oI cI 60 L)] H → va_D A [(a0, .inr (0, [.ref a1, .int (nI (ff_cnt v n))])), (a1, oI cI 60 (ff_fill (ff_it P L v) f i)), (b0, .inr (1, [.ref b1, .ref b2, .int (nI n)])), (b1, oI cI 60 P), (b2, oI cI 60 L)] → va_S A s.heap H locs → lv_has ls 4 [(0, .ref a0), (1, .ref b0), (2, .int (nI v)), (3, .int (nI i))] → W p l e (rr 2 0 0) s m args below meth c H locs 0 0 Q (F0 m 11 ls []) := by
    intro k
    induction k with
    | zero =>
      intro i H locs ls hi hk
      exact absurd hk (Nat.not_lt_zero _)
    | succ k ih_11 =>
      intro i H locs ls hi hk hP hD hS hl
      refine lv_iload_n hx hb dX0_read_11 rfl (lv_at hl 3 rfl) ?_
      refine lv_aload_n hx hb dX0_read_12 rfl (lv_at hl 0 rfl) ?_
      refine gf_X0_40 hx hb hg hown hK hP 0 rfl rfl dX0_read_13 ?_
      refine lv_icmp_ge (tgt := 37) hx hb dX0_read_16 (by decide) (fun c16 => ?_) (fun c16 => ?_)
      · have c16 := (nI_leI (by omega) (by omega)).mp c16
        obtain rfl : i = ff_cnt v n := by omega
        exact hret _ _ 37 _ (()) (trivial) hP hD hS dX0_read_37
      · have c16 := mt (nI_leI (by omega) (by omega)).mpr c16
        refine lv_aload_n hx hb dX0_read_19 rfl (lv_at hl 0 rfl) ?_
        refine gf_X0_9 hx hb hg hown hK hP 0 rfl rfl dX0_read_20 ?_
        refine lv_iload_n hx hb dX0_read_23 rfl (lv_at hl 3 rfl) ?_
        refine lv_aload_n hx hb dX0_read_24 rfl (lv_at hl 1 rfl) ?_
        refine lv_iload_n hx hb dX0_read_25 rfl (lv_at hl 2 rfl) ?_
        refine lv_iload_n hx hb dX0_read_26 rfl (lv_at hl 3 rfl) ?_
        refine Cp.callS (As := [.ref b0, .int (nI v), .int (nI i)]) (rest := [.int (nI i), .ref a1]) (cv_X0_41 hg ⟨Nat.le_of_ble_eq_true rfl, Nat.le_of_ble_eq_true rfl⟩) (k_X0_valueIn l D cI b0 b1 b2 n P L v i hv (ff_cnt_ix (by omega) hn)) cx hK hP [2, 3, 4] rfl hS rfl hl.1 rfl (Nat.le_of_ble_eq_true rfl) dX0_read_27 ⟨Nat.zero_le _, Nat.zero_le _⟩ (fun H locs hP hS => ?_)
        refine ast hx hb hK hP hD hS 1 rfl rfl (by omega) dX0_read_30 (fun H locs hP hD hS => ?_)
        have hP : va_P D vwCl [(a0, .inr (0, [.ref a1, .int (nI (ff_cnt v n))])), (a1, oI cI 60 (upd (ff_fill (ff_it P L v) f i) i ((ff_it P L v i)))), (b0, .inr (1, [.ref b1, .ref b2, .int (nI n)])), (b1, oI cI 60 P), (b2, oI cI 60 L)] H := hP
        have hD : va_D A [(a0, .inr (0, [.ref a1, .int (nI (ff_cnt v n))])), (a1, oI cI 60 (upd (ff_fill (ff_it P L v) f i) i ((ff_it P L v i)))), (b0, .inr (1, [.ref b1, .ref b2, .int (nI n)])), (b1, oI cI 60 P), (b2, oI cI 60 L)] := hD
        have e9 : upd (ff_fill (ff_it P L v) f i) i ((ff_it P L v i)) = ff_fill (ff_it P L v) f (i + 1) := ff_fill_s _ _ _
        rw [e9] at hP hD
        refine lv_iinc (v := nI (i + 1)) (lv' := [(3, .int (nI (i + 1))), (0, .ref a0), (1, .ref b0), (2, .int (nI v))]) hx hb dX0_read_31 hl (k := 3) rfl (nI_1 _) (by decide) rfl (fun ls hl => ?_)
        refine lv_goto (tgt := 11) hx hb dX0_read_34 (by decide) ?_
        exact ih_11 (i + 1) _ _ _ (by omega) (by omega) hP hD hS (lv_sub hl [1, 2, 3, 0] rfl)
  exact lp_11 (_ + 1) (0) _ _ _ (Nat.zero_le _) (Nat.lt_succ_self _) hP hD hS (lv_sub hl [1, 2, 3, 0] rfl)

set_option maxHeartbeats 4000000 in
set_option maxRecDepth 100000 in
/-- RepeatList.partOf -/
theorem k_X4_partOf (l : Launch) (D : va_G) (cI : ClassId) (a0 a1 a2 : Nat) (z : Int32) (g sl : Nat → Int32) (q w : Nat) (h : 3 * q + w < 2700) : Cp l yX4_partOf cX4_partOf 3 (some .int) 0 D (tI cI) [.ref a0, .int (nI q), .int (nI w)] [(a0, .inr (4, [.ref a1, .ref a2, .int z])), (a1, oI cI 2700 g), (a2, oI cI 60 sl)] (g (3 * q + w)) := by
  refine Cp.of (own := RX4) (lv := [(0, .ref a0), (1, .int (nI q)), (2, .int (nI w))]) (by decide +kernel) rfl (Nat.le_of_ble_eq_true rfl) rfl (vp_nar_int _) ?_
  intro p e s m args below meth c Q cx hK hP hret ls hl
  obtain ⟨hx, hb, hml, hown, hg⟩ := id cx
  have hS : va_S (fun _ => False) s.heap s.heap [] := va_S.rf
  refine lv_aload_n hx hb dX4_partOf_0 rfl (lv_at hl 0 rfl) ?_
  refine gf_X4_11 hx hb hg hown hK hP 0 rfl rfl dX4_partOf_1 ?_
  refine lv_iconst (v := nI 3) hx hb dX4_partOf_4 (by decide) ?_
  refine lv_iload_n hx hb dX4_partOf_5 rfl (lv_at hl 1 rfl) ?_
  refine lv_imul hx hb dX4_partOf_6 ?_
  refine lv_asi (pk_mul _ _) ?_
  refine lv_iload_n hx hb dX4_partOf_7 rfl (lv_at hl 2 rfl) ?_
  refine lv_iadd hx hb dX4_partOf_8 ?_
  refine lv_asi (nI_add _ _) ?_
  refine ald hx hb hK hP 1 rfl rfl (by omega) dX4_partOf_9 ?_
  exact hret _ _ 10 _ _ hS dX4_partOf_10 (rfl)

set_option maxHeartbeats 4000000 in
set_option maxRecDepth 100000 in
/-- RepeatList.put -/
theorem k_X4_put (l : Launch) (D : va_G) (cI : ClassId) (a0 a1 a2 : Nat) (z : Int32) (g sl : Nat → Int32) (q : Nat) (i j w : Int32) (hq : q < 900) : Cv l yX4_put cX4_put 5 0 0 0 D (tI cI) [.ref a0, .int (nI q), .int i, .int j, .int w] [(a0, .inr (4, [.ref a1, .ref a2, .int z])), (a1, oI cI 2700 g), (a2, oI cI 60 sl)] (S := Unit) (fun _ => True) (fun u => [(a0, .inr (4, [.ref a1, .ref a2, .int z])), (a1, oI cI 2700 (upd (upd (upd g (3 * q) i) (3 * q + 1) j) (3 * q + 2) w)), (a2, oI cI 60 sl)]) := by
  refine Cv.of (own := RX4) (lv := [(0, .ref a0), (1, .int (nI q)), (2, .int i), (3, .int j), (4, .int w)]) (by decide +kernel) rfl (Nat.le_of_ble_eq_true rfl) rfl ?_
  intro p e s m args below meth c Q A cx hin hK hP hD hA hret ls hl
  obtain ⟨hx, hb, hml, hown, hg⟩ := id cx
  have hS : va_S A s.heap s.heap [] := va_S.rf
  refine lv_iload_n hx hb dX4_put_0 rfl (lv_at hl 1 rfl) ?_
  refine lv_sipush (v := nI 900) hx hb dX4_put_1 (by decide) ?_
  refine lv_icmp_ge (tgt := 39) hx hb dX4_put_4 (by decide) (fun c4 => ?_) (fun c4 => ?_)
  · have c4 := (nI_leI (by omega) (by omega)).mp c4
    exfalso; omega
  · have c4 := mt (nI_leI (by omega) (by omega)).mpr c4
    refine lv_aload_n hx hb dX4_put_7 rfl (lv_at hl 0 rfl) ?_
    refine gf_X4_11 hx hb hg hown hK hP 0 rfl rfl dX4_put_8 ?_
    refine lv_iconst (v := nI 3) hx hb dX4_put_11 (by decide) ?_
    refine lv_iload_n hx hb dX4_put_12 rfl (lv_at hl 1 rfl) ?_
    refine lv_imul hx hb dX4_put_13 ?_
    refine lv_asi (pk_mul _ _) ?_
    refine lv_iload_n hx hb dX4_put_14 rfl (lv_at hl 2 rfl) ?_
    refine ast hx hb hK hP hD hS 1 rfl rfl (by omega) dX4_put_15 (fun H locs hP hD hS => ?_)
    have hP : va_P D vwCl [(a0, .inr (4, [.ref a1, .ref a2, .int z])), (a1, oI cI 2700 (upd g (3 * q) (i))), (a2, oI cI 60 sl)] H := hP
    have hD : va_D A [(a0, .inr (4, [.ref a1, .ref a2, .int z])), (a1, oI cI 2700 (upd g (3 * q) (i))), (a2, oI cI 60 sl)] := hD
    refine lv_aload_n hx hb dX4_put_16 rfl (lv_at hl 0 rfl) ?_
    refine gf_X4_11 hx hb hg hown hK hP 0 rfl rfl dX4_put_17 ?_
    refine lv_iconst (v := nI 3) hx hb dX4_put_20 (by decide) ?_
    refine lv_iload_n hx hb dX4_put_21 rfl (lv_at hl 1 rfl) ?_
    refine lv_imul hx hb dX4_put_22 ?_
    refine lv_asi (pk_mul _ _) ?_
    refine lv_iconst (v := nI 1) hx hb dX4_put_23 (by decide) ?_
    refine lv_iadd hx hb dX4_put_24 ?_
    refine lv_asi (nI_add _ _) ?_
    refine lv_iload_n hx hb dX4_put_25 rfl (lv_at hl 3 rfl) ?_
    refine ast hx hb hK hP hD hS 1 rfl rfl (by omega) dX4_put_26 (fun H locs hP hD hS => ?_)
    have hP : va_P D vwCl [(a0, .inr (4, [.ref a1, .ref a2, .int z])), (a1, oI cI 2700 (upd (upd g (3 * q) (i)) (3 * q + 1) (j))), (a2, oI cI 60 sl)] H := hP
    have hD : va_D A [(a0, .inr (4, [.ref a1, .ref a2, .int z])), (a1, oI cI 2700 (upd (upd g (3 * q) (i)) (3 * q + 1) (j))), (a2, oI cI 60 sl)] := hD
    refine lv_aload_n hx hb dX4_put_27 rfl (lv_at hl 0 rfl) ?_
    refine gf_X4_11 hx hb hg hown hK hP 0 rfl rfl dX4_put_28 ?_
    refine lv_iconst (v := nI 3) hx hb dX4_put_31 (by decide) ?_
    refine lv_iload_n hx hb dX4_put_32 rfl (lv_at hl 1 rfl) ?_
    refine lv_imul hx hb dX4_put_33 ?_
    refine lv_asi (pk_mul _ _) ?_
    refine lv_iconst (v := nI 2) hx hb dX4_put_34 (by decide) ?_
    refine lv_iadd hx hb dX4_put_35 ?_
    refine lv_asi (nI_add _ _) ?_
    refine lv_iload hx hb dX4_put_36 (lv_at hl 4 rfl) ?_
    refine ast hx hb hK hP hD hS 1 rfl rfl (by omega) dX4_put_38 (fun H locs hP hD hS => ?_)
    have hP : va_P D vwCl [(a0, .inr (4, [.ref a1, .ref a2, .int z])), (a1, oI cI 2700 (upd (upd (upd g (3 * q) (i)) (3 * q + 1) (j)) (3 * q + 2) (w))), (a2, oI cI 60 sl)] H := hP
    have hD : va_D A [(a0, .inr (4, [.ref a1, .ref a2, .int z])), (a1, oI cI 2700 (upd (upd (upd g (3 * q) (i)) (3 * q + 1) (j)) (3 * q + 2) (w))), (a2, oI cI 60 sl)] := hD
    exact hret _ _ 39 _ (()) (trivial) hP hD hS dX4_put_39

set_option maxHeartbeats 4000000 in
set_option maxRecDepth 100000 in
theorem k_isWithin (l : Launch) (D : va_G) (cI : ClassId) (W0 : va_W) (x lo hi : Int32) : Cp l yX5_isWithin cX5_isWithin 3 (some .boolean) 0 D (tI cI) [.int x, .int lo, .int hi] W0 (bI (lo ≤ x ∧ x ≤ hi)) := by
  refine Cp.of (own := RX5) (lv := [(0, .int x), (1, .int lo), (2, .int hi)]) (by decide +kernel) rfl (Nat.le_of_ble_eq_true rfl) rfl (bI_nar _) ?_
  intro p e s m args below meth c Q cx hK hP hret ls hl
  obtain ⟨hx, hb, hml, hown, hg⟩ := id cx
  have hS : va_S (fun _ => False) s.heap s.heap [] := va_S.rf
  refine lv_iload_n hx hb dX5_isWithin_0 rfl (lv_at hl 0 rfl) ?_
  refine lv_iload_n hx hb dX5_isWithin_1 rfl (lv_at hl 1 rfl) ?_
  refine lv_icmp_lt (tgt := 14) hx hb dX5_isWithin_2 (by decide) (fun c2 => ?_) (fun c2 => ?_)
  · skip
    refine lv_iconst (v := nI 0) hx hb dX5_isWithin_14 (by decide) ?_
    exact hret _ _ 15 _ _ hS dX5_isWithin_15 (by first | exact bI_1 ⟨i_nlt.mp c2, i_nlt.mp c7⟩ | exact bI_0 (fun h => i_nlt.mpr h.1 c2) | exact bI_0 (fun h => i_nlt.mpr h.2 c7))
  · skip
    refine lv_iload_n hx hb dX5_isWithin_5 rfl (lv_at hl 0 rfl) ?_
    refine lv_iload_n hx hb dX5_isWithin_6 rfl (lv_at hl 2 rfl) ?_
    refine lv_icmp_gt (tgt := 14) hx hb dX5_isWithin_7 (by decide) (fun c7 => ?_) (fun c7 => ?_)
    · skip
      refine lv_iconst (v := nI 0) hx hb dX5_isWithin_14 (by decide) ?_
      exact hret _ _ 15 _ _ hS dX5_isWithin_15 (by first | exact bI_1 ⟨i_nlt.mp c2, i_nlt.mp c7⟩ | exact bI_0 (fun h => i_nlt.mpr h.1 c2) | exact bI_0 (fun h => i_nlt.mpr h.2 c7))
    · skip
      refine lv_iconst (v := nI 1) hx hb dX5_isWithin_10 (by decide) ?_
      refine lv_goto (tgt := 15) hx hb dX5_isWithin_11 (by decide) ?_
      exact hret _ _ 15 _ _ hS dX5_isWithin_15 (by first | exact bI_1 ⟨i_nlt.mp c2, i_nlt.mp c7⟩ | exact bI_0 (fun h => i_nlt.mpr h.1 c2) | exact bI_0 (fun h => i_nlt.mpr h.2 c7))

set_option maxHeartbeats 4000000 in
set_option maxRecDepth 100000 in
theorem k_isView (l : Launch) (D : va_G) (cI : ClassId) (W0 : va_W) (x : Int32) : Cp l yX5_isView cX5_isView 1 (some .boolean) 1 D (tI cI) [.int x] W0 (bI (nI 0 ≤ x ∧ x ≤ nI 4)) := by
  refine Cp.of (own := RX5) (lv := [(0, .int x)]) (by decide +kernel) rfl (Nat.le_of_ble_eq_true rfl) rfl (bI_nar _) ?_
  intro p e s m args below meth c Q cx hK hP hret ls hl
  obtain ⟨hx, hb, hml, hown, hg⟩ := id cx
  have hS : va_S (fun _ => False) s.heap s.heap [] := va_S.rf
  refine lv_iload_n hx hb dX5_isView_0 rfl (lv_at hl 0 rfl) ?_
  refine lv_iconst (v := nI 0) hx hb dX5_isView_1 (by decide) ?_
  refine lv_iconst (v := nI 4) hx hb dX5_isView_2 (by decide) ?_
  refine Cp.callS (As := [.int x, .int (nI 0), .int (nI 4)]) (rest := []) (cv_X5_60 hg ⟨Nat.le_of_ble_eq_true rfl, Nat.le_of_ble_eq_true rfl⟩) (k_isWithin l D cI [] (x) (nI 0) (nI 4)) cx hK hP [] rfl hS rfl hl.1 rfl (Nat.le_of_ble_eq_true rfl) dX5_isView_3 ⟨Nat.zero_le _, Nat.zero_le _⟩ (fun H locs hP hS => ?_)
  exact hret _ _ 6 _ _ hS dX5_isView_6 (rfl)

set_option maxHeartbeats 4000000 in
set_option maxRecDepth 100000 in
theorem k_isForm (l : Launch) (D : va_G) (cI : ClassId) (W0 : va_W) (x : Int32) : Cp l yX5_isForm cX5_isForm 1 (some .boolean) 1 D (tI cI) [.int x] W0 (bI (nI 0 ≤ x ∧ x ≤ nI 3)) := by
  refine Cp.of (own := RX5) (lv := [(0, .int x)]) (by decide +kernel) rfl (Nat.le_of_ble_eq_true rfl) rfl (bI_nar _) ?_
  intro p e s m args below meth c Q cx hK hP hret ls hl
  obtain ⟨hx, hb, hml, hown, hg⟩ := id cx
  have hS : va_S (fun _ => False) s.heap s.heap [] := va_S.rf
  refine lv_iload_n hx hb dX5_isForm_0 rfl (lv_at hl 0 rfl) ?_
  refine lv_iconst (v := nI 0) hx hb dX5_isForm_1 (by decide) ?_
  refine lv_iconst (v := nI 3) hx hb dX5_isForm_2 (by decide) ?_
  refine Cp.callS (As := [.int x, .int (nI 0), .int (nI 3)]) (rest := []) (cv_X5_60 hg ⟨Nat.le_of_ble_eq_true rfl, Nat.le_of_ble_eq_true rfl⟩) (k_isWithin l D cI [] (x) (nI 0) (nI 3)) cx hK hP [] rfl hS rfl hl.1 rfl (Nat.le_of_ble_eq_true rfl) dX5_isForm_3 ⟨Nat.zero_le _, Nat.zero_le _⟩ (fun H locs hP hS => ?_)
  exact hret _ _ 6 _ _ hS dX5_isForm_6 (rfl)

set_option maxHeartbeats 4000000 in
set_option maxRecDepth 100000 in
theorem k_isScale (l : Launch) (D : va_G) (cI : ClassId) (W0 : va_W) (x y : Int32) : Cp l yX5_isScale cX5_isScale 3 (some .boolean) 1 D (tI cI) [.int x, .int y] W0 (bI ((x = 0 ∧ y = 0) ∨ ((nI 1 ≤ x ∧ x ≤ nI 9) ∧ (nI 1 ≤ y ∧ y ≤ nI 9)))) := by
  refine Cp.of (own := RX5) (lv := [(0, .int x), (1, .int y)]) (by decide +kernel) rfl (Nat.le_of_ble_eq_true rfl) rfl (bI_nar _) ?_
  intro p e s m args below meth c Q cx hK hP hret ls hl
  obtain ⟨hx, hb, hml, hown, hg⟩ := id cx
  have hS : va_S (fun _ => False) s.heap s.heap [] := va_S.rf
  refine lv_iload_n hx hb dX5_isScale_0 rfl (lv_at hl 0 rfl) ?_
  refine lv_if_ne (tgt := 12) hx hb dX5_isScale_1 (by decide) (fun c1 => ?_) (fun c1 => ?_)
  · skip
    refine lv_iconst (v := nI 0) hx hb dX5_isScale_12 (by decide) ?_
    refine lv_istore_n (lv' := [(2, .int (nI 0)), (0, .int x), (1, .int y)]) hx hb dX5_isScale_13 rfl hl (by decide) rfl (fun ls hl => ?_)
    refine lv_iload_n hx hb dX5_isScale_14 rfl (lv_at hl 0 rfl) ?_
    refine lv_if_ne (tgt := 38) hx hb dX5_isScale_15 (by decide) (fun h9 => absurd (by decide) h9) (fun _ => ?_)
    refine lv_iload_n hx hb dX5_isScale_18 rfl (lv_at hl 1 rfl) ?_
    refine lv_iconst (v := nI 1) hx hb dX5_isScale_19 (by decide) ?_
    refine lv_bipush (v := nI 9) hx hb dX5_isScale_20 (by decide) ?_
    refine Cp.callS (As := [.int x, .int (nI 1), .int (nI 9)]) (rest := []) (cv_X5_60 hg ⟨Nat.le_of_ble_eq_true rfl, Nat.le_of_ble_eq_true rfl⟩) (k_isWithin l D cI [] (x) (nI 1) (nI 9)) cx hK hP [] rfl hS rfl hl.1 rfl (Nat.le_of_ble_eq_true rfl) dX5_isScale_22 ⟨Nat.zero_le _, Nat.zero_le _⟩ (fun H locs hP hS => ?_)
    refine lv_if_eq (tgt := 42) hx hb dX5_isScale_25 (by decide) (fun c25 => ?_) (fun c25 => ?_)
    · have c25 := bI_z.mp c25
      refine lv_iconst (v := nI 0) hx hb dX5_isScale_42 (by decide) ?_
      exact hret _ _ 43 _ _ hS dX5_isScale_43 (by first | exact bI_1 (Or.inl ⟨c1, c5⟩) | exact bI_1 (Or.inr ⟨c25, c35⟩) | exact bI_0 (fun h => h.elim (fun h => by first | exact c1 h.1 | exact c5 h.2) (fun h => by first | exact c25 h.1 | exact c35 h.2)))
    · have c25 := bI_nz.mp c25
      refine lv_iload_n hx hb dX5_isScale_28 rfl (lv_at hl 2 rfl) ?_
      refine lv_iconst (v := nI 1) hx hb dX5_isScale_29 (by decide) ?_
      refine lv_bipush (v := nI 9) hx hb dX5_isScale_30 (by decide) ?_
      refine Cp.callS (As := [.int y, .int (nI 1), .int (nI 9)]) (rest := []) (cv_X5_60 hg ⟨Nat.le_of_ble_eq_true rfl, Nat.le_of_ble_eq_true rfl⟩) (k_isWithin l D cI [] (y) (nI 1) (nI 9)) cx hK hP [] rfl hS rfl hl.1 rfl (Nat.le_of_ble_eq_true rfl) dX5_isScale_32 ⟨Nat.zero_le _, Nat.zero_le _⟩ (fun H locs hP hS => ?_)
      refine lv_if_eq (tgt := 42) hx hb dX5_isScale_35 (by decide) (fun c35 => ?_) (fun c35 => ?_)
      · have c35 := bI_z.mp c35
        refine lv_iconst (v := nI 0) hx hb dX5_isScale_42 (by decide) ?_
        exact hret _ _ 43 _ _ hS dX5_isScale_43 (by first | exact bI_1 (Or.inl ⟨c1, c5⟩) | exact bI_1 (Or.inr ⟨c25, c35⟩) | exact bI_0 (fun h => h.elim (fun h => by first | exact c1 h.1 | exact c5 h.2) (fun h => by first | exact c25 h.1 | exact c35 h.2)))
      · have c35 := bI_nz.mp c35
        refine lv_iconst (v := nI 1) hx hb dX5_isScale_38 (by decide) ?_
        refine lv_goto (tgt := 43) hx hb dX5_isScale_39 (by decide) ?_
        exact hret _ _ 43 _ _ hS dX5_isScale_43 (by first | exact bI_1 (Or.inl ⟨c1, c5⟩) | exact bI_1 (Or.inr ⟨c25, c35⟩) | exact bI_0 (fun h => h.elim (fun h => by first | exact c1 h.1 | exact c5 h.2) (fun h => by first | exact c25 h.1 | exact c35 h.2)))
  · skip
    refine lv_iload_n hx hb dX5_isScale_4 rfl (lv_at hl 1 rfl) ?_
    refine lv_if_ne (tgt := 12) hx hb dX5_isScale_5 (by decide) (fun c5 => ?_) (fun c5 => ?_)
    · skip
      refine lv_iconst (v := nI 0) hx hb dX5_isScale_12 (by decide) ?_
      refine lv_istore_n (lv' := [(2, .int (nI 0)), (0, .int x), (1, .int y)]) hx hb dX5_isScale_13 rfl hl (by decide) rfl (fun ls hl => ?_)
      refine lv_iload_n hx hb dX5_isScale_14 rfl (lv_at hl 0 rfl) ?_
      refine lv_if_ne (tgt := 38) hx hb dX5_isScale_15 (by decide) (fun h9 => absurd (by decide) h9) (fun _ => ?_)
      refine lv_iload_n hx hb dX5_isScale_18 rfl (lv_at hl 1 rfl) ?_
      refine lv_iconst (v := nI 1) hx hb dX5_isScale_19 (by decide) ?_
      refine lv_bipush (v := nI 9) hx hb dX5_isScale_20 (by decide) ?_
      refine Cp.callS (As := [.int x, .int (nI 1), .int (nI 9)]) (rest := []) (cv_X5_60 hg ⟨Nat.le_of_ble_eq_true rfl, Nat.le_of_ble_eq_true rfl⟩) (k_isWithin l D cI [] (x) (nI 1) (nI 9)) cx hK hP [] rfl hS rfl hl.1 rfl (Nat.le_of_ble_eq_true rfl) dX5_isScale_22 ⟨Nat.zero_le _, Nat.zero_le _⟩ (fun H locs hP hS => ?_)
      refine lv_if_eq (tgt := 42) hx hb dX5_isScale_25 (by decide) (fun c25 => ?_) (fun c25 => ?_)
      · have c25 := bI_z.mp c25
        refine lv_iconst (v := nI 0) hx hb dX5_isScale_42 (by decide) ?_
        exact hret _ _ 43 _ _ hS dX5_isScale_43 (by first | exact bI_1 (Or.inl ⟨c1, c5⟩) | exact bI_1 (Or.inr ⟨c25, c35⟩) | exact bI_0 (fun h => h.elim (fun h => by first | exact c1 h.1 | exact c5 h.2) (fun h => by first | exact c25 h.1 | exact c35 h.2)))
      · have c25 := bI_nz.mp c25
        refine lv_iload_n hx hb dX5_isScale_28 rfl (lv_at hl 2 rfl) ?_
        refine lv_iconst (v := nI 1) hx hb dX5_isScale_29 (by decide) ?_
        refine lv_bipush (v := nI 9) hx hb dX5_isScale_30 (by decide) ?_
        refine Cp.callS (As := [.int y, .int (nI 1), .int (nI 9)]) (rest := []) (cv_X5_60 hg ⟨Nat.le_of_ble_eq_true rfl, Nat.le_of_ble_eq_true rfl⟩) (k_isWithin l D cI [] (y) (nI 1) (nI 9)) cx hK hP [] rfl hS rfl hl.1 rfl (Nat.le_of_ble_eq_true rfl) dX5_isScale_32 ⟨Nat.zero_le _, Nat.zero_le _⟩ (fun H locs hP hS => ?_)
        refine lv_if_eq (tgt := 42) hx hb dX5_isScale_35 (by decide) (fun c35 => ?_) (fun c35 => ?_)
        · have c35 := bI_z.mp c35
          refine lv_iconst (v := nI 0) hx hb dX5_isScale_42 (by decide) ?_
          exact hret _ _ 43 _ _ hS dX5_isScale_43 (by first | exact bI_1 (Or.inl ⟨c1, c5⟩) | exact bI_1 (Or.inr ⟨c25, c35⟩) | exact bI_0 (fun h => h.elim (fun h => by first | exact c1 h.1 | exact c5 h.2) (fun h => by first | exact c25 h.1 | exact c35 h.2)))
        · have c35 := bI_nz.mp c35
          refine lv_iconst (v := nI 1) hx hb dX5_isScale_38 (by decide) ?_
          refine lv_goto (tgt := 43) hx hb dX5_isScale_39 (by decide) ?_
          exact hret _ _ 43 _ _ hS dX5_isScale_43 (by first | exact bI_1 (Or.inl ⟨c1, c5⟩) | exact bI_1 (Or.inr ⟨c25, c35⟩) | exact bI_0 (fun h => h.elim (fun h => by first | exact c1 h.1 | exact c5 h.2) (fun h => by first | exact c25 h.1 | exact c35 h.2)))
    · skip
      refine lv_iconst (v := nI 1) hx hb dX5_isScale_8 (by decide) ?_
      refine lv_goto (tgt := 13) hx hb dX5_isScale_9 (by decide) ?_
      refine lv_istore_n (lv' := [(2, .int (nI 1)), (0, .int x), (1, .int y)]) hx hb dX5_isScale_13 rfl hl (by decide) rfl (fun ls hl => ?_)
      refine lv_iload_n hx hb dX5_isScale_14 rfl (lv_at hl 0 rfl) ?_
      refine lv_if_ne (tgt := 38) hx hb dX5_isScale_15 (by decide) (fun _ => ?_) (fun h9 => absurd h9 (by decide))
      refine lv_iconst (v := nI 1) hx hb dX5_isScale_38 (by decide) ?_
      refine lv_goto (tgt := 43) hx hb dX5_isScale_39 (by decide) ?_
      exact hret _ _ 43 _ _ hS dX5_isScale_43 (by first | exact bI_1 (Or.inl ⟨c1, c5⟩) | exact bI_1 (Or.inr ⟨c25, c35⟩) | exact bI_0 (fun h => h.elim (fun h => by first | exact c1 h.1 | exact c5 h.2) (fun h => by first | exact c25 h.1 | exact c35 h.2)))

set_option maxHeartbeats 4000000 in
set_option maxRecDepth 100000 in
theorem k_isKeyAndHead (l : Launch) (D : va_G) (cI : ClassId) (W0 : va_W) (x y : Int32) : Cp l yX5_isKeyAndHead cX5_isKeyAndHead 2 (some .boolean) 1 D (tI cI) [.int x, .int y] W0 (bI ((nI 0 ≤ x ∧ x ≤ nI 11) ∧ (nI 0 ≤ y ∧ y ≤ nI 12))) := by
  refine Cp.of (own := RX5) (lv := [(0, .int x), (1, .int y)]) (by decide +kernel) rfl (Nat.le_of_ble_eq_true rfl) rfl (bI_nar _) ?_
  intro p e s m args below meth c Q cx hK hP hret ls hl
  obtain ⟨hx, hb, hml, hown, hg⟩ := id cx
  have hS : va_S (fun _ => False) s.heap s.heap [] := va_S.rf
  refine lv_iload_n hx hb dX5_isKeyAndHead_0 rfl (lv_at hl 0 rfl) ?_
  refine lv_iconst (v := nI 0) hx hb dX5_isKeyAndHead_1 (by decide) ?_
  refine lv_bipush (v := nI 11) hx hb dX5_isKeyAndHead_2 (by decide) ?_
  refine Cp.callS (As := [.int x, .int (nI 0), .int (nI 11)]) (rest := []) (cv_X5_60 hg ⟨Nat.le_of_ble_eq_true rfl, Nat.le_of_ble_eq_true rfl⟩) (k_isWithin l D cI [] (x) (nI 0) (nI 11)) cx hK hP [] rfl hS rfl hl.1 rfl (Nat.le_of_ble_eq_true rfl) dX5_isKeyAndHead_4 ⟨Nat.zero_le _, Nat.zero_le _⟩ (fun H locs hP hS => ?_)
  refine lv_if_eq (tgt := 24) hx hb dX5_isKeyAndHead_7 (by decide) (fun c7 => ?_) (fun c7 => ?_)
  · have c7 := bI_z.mp c7
    refine lv_iconst (v := nI 0) hx hb dX5_isKeyAndHead_24 (by decide) ?_
    exact hret _ _ 25 _ _ hS dX5_isKeyAndHead_25 (by first | exact bI_1 ⟨c7, c17⟩ | exact bI_0 (fun h => by first | exact c7 h.1 | exact c17 h.2))
  · have c7 := bI_nz.mp c7
    refine lv_iload_n hx hb dX5_isKeyAndHead_10 rfl (lv_at hl 1 rfl) ?_
    refine lv_iconst (v := nI 0) hx hb dX5_isKeyAndHead_11 (by decide) ?_
    refine lv_bipush (v := nI 12) hx hb dX5_isKeyAndHead_12 (by decide) ?_
    refine Cp.callS (As := [.int y, .int (nI 0), .int (nI 12)]) (rest := []) (cv_X5_60 hg ⟨Nat.le_of_ble_eq_true rfl, Nat.le_of_ble_eq_true rfl⟩) (k_isWithin l D cI [] (y) (nI 0) (nI 12)) cx hK hP [] rfl hS rfl hl.1 rfl (Nat.le_of_ble_eq_true rfl) dX5_isKeyAndHead_14 ⟨Nat.zero_le _, Nat.zero_le _⟩ (fun H locs hP hS => ?_)
    refine lv_if_eq (tgt := 24) hx hb dX5_isKeyAndHead_17 (by decide) (fun c17 => ?_) (fun c17 => ?_)
    · have c17 := bI_z.mp c17
      refine lv_iconst (v := nI 0) hx hb dX5_isKeyAndHead_24 (by decide) ?_
      exact hret _ _ 25 _ _ hS dX5_isKeyAndHead_25 (by first | exact bI_1 ⟨c7, c17⟩ | exact bI_0 (fun h => by first | exact c7 h.1 | exact c17 h.2))
    · have c17 := bI_nz.mp c17
      refine lv_iconst (v := nI 1) hx hb dX5_isKeyAndHead_20 (by decide) ?_
      refine lv_goto (tgt := 25) hx hb dX5_isKeyAndHead_21 (by decide) ?_
      exact hret _ _ 25 _ _ hS dX5_isKeyAndHead_25 (by first | exact bI_1 ⟨c7, c17⟩ | exact bI_0 (fun h => by first | exact c7 h.1 | exact c17 h.2))

set_option maxHeartbeats 4000000 in
set_option maxRecDepth 100000 in
theorem k_placeInTheme (l : Launch) (D : va_G) (cI : ClassId) (a0 n0 t0 s0 r0 g0 p0 q0 : Nat) (t1 t2 tn : Nat) (TP TL : Nat → Int32) (fo i : Nat) (hf : fo ≤ 3) (hi : i < tn) (ht : tn ≤ 12) : Cp l yX5_placeInTheme cX5_placeInTheme 4 (some .int) 0 D (tI cI) [.ref a0, .int (nI fo), .int (nI i)] [(a0, .inr (5, [.ref n0, .ref t0, .ref s0, .ref r0, .ref g0, .ref p0, .ref q0])), (t0, .inr (1, [.ref t1, .ref t2, .int (nI tn)]))] (nI (ff_src fo tn i)) := by
  refine Cp.of (own := RX5) (lv := [(0, .ref a0), (1, .int (nI fo)), (2, .int (nI i))]) (by decide +kernel) rfl (Nat.le_of_ble_eq_true rfl) rfl (vp_nar_int _) ?_
  intro p e s m args below meth c Q cx hK hP hret ls hl
  obtain ⟨hx, hb, hml, hown, hg⟩ := id cx
  have hS : va_S (fun _ => False) s.heap s.heap [] := va_S.rf
  refine lv_iload_n hx hb dX5_placeInTheme_0 rfl (lv_at hl 1 rfl) ?_
  refine lv_iconst (v := nI 2) hx hb dX5_placeInTheme_1 (by decide) ?_
  refine lv_icmp_eq (tgt := 10) hx hb dX5_placeInTheme_2 (by decide) (fun c2 => ?_) (fun c2 => ?_)
  · have c2 := (nI_eq (by omega) (by omega)).mp c2
    refine lv_iconst (v := nI 1) hx hb dX5_placeInTheme_10 (by decide) ?_
    refine lv_goto (tgt := 15) hx hb dX5_placeInTheme_11 (by decide) ?_
    refine lv_istore_n (lv' := [(3, .int (nI 1)), (0, .ref a0), (1, .int (nI fo)), (2, .int (nI i))]) hx hb dX5_placeInTheme_15 rfl hl (by decide) rfl (fun ls hl => ?_)
    refine lv_iload_n hx hb dX5_placeInTheme_16 rfl (lv_at hl 0 rfl) ?_
    refine lv_if_eq (tgt := 34) hx hb dX5_placeInTheme_17 (by decide) (fun h9 => absurd h9 (by decide)) (fun _ => ?_)
    refine lv_aload_n hx hb dX5_placeInTheme_20 rfl (lv_at hl 1 rfl) ?_
    refine gf_X5_16 hx hb hg hown hK hP 0 rfl rfl dX5_placeInTheme_21 ?_
    refine gf_X5_50 hx hb hg hown hK hP 1 rfl rfl dX5_placeInTheme_24 ?_
    refine lv_iconst (v := nI 1) hx hb dX5_placeInTheme_27 (by decide) ?_
    refine lv_isub hx hb dX5_placeInTheme_28 ?_
    refine lv_asi (pk_sub (by omega)) ?_
    refine lv_iload_n hx hb dX5_placeInTheme_29 rfl (lv_at hl 3 rfl) ?_
    refine lv_isub hx hb dX5_placeInTheme_30 ?_
    refine lv_asi (pk_sub (by omega)) ?_
    refine lv_goto (tgt := 35) hx hb dX5_placeInTheme_31 (by decide) ?_
    exact hret _ _ 35 _ _ hS dX5_placeInTheme_35 (by unfold ff_src; split <;> congr 1 <;> omega)
  · have c2 := mt (nI_eq (by omega) (by omega)).mpr c2
    refine lv_iload_n hx hb dX5_placeInTheme_5 rfl (lv_at hl 1 rfl) ?_
    refine lv_iconst (v := nI 3) hx hb dX5_placeInTheme_6 (by decide) ?_
    refine lv_icmp_ne (tgt := 14) hx hb dX5_placeInTheme_7 (by decide) (fun c7 => ?_) (fun c7 => ?_)
    · have c7 := mt (nI_eq (by omega) (by omega)).mpr c7
      refine lv_iconst (v := nI 0) hx hb dX5_placeInTheme_14 (by decide) ?_
      refine lv_istore_n (lv' := [(3, .int (nI 0)), (0, .ref a0), (1, .int (nI fo)), (2, .int (nI i))]) hx hb dX5_placeInTheme_15 rfl hl (by decide) rfl (fun ls hl => ?_)
      refine lv_iload_n hx hb dX5_placeInTheme_16 rfl (lv_at hl 0 rfl) ?_
      refine lv_if_eq (tgt := 34) hx hb dX5_placeInTheme_17 (by decide) (fun _ => ?_) (fun h9 => absurd (by decide) h9)
      refine lv_iload_n hx hb dX5_placeInTheme_34 rfl (lv_at hl 3 rfl) ?_
      exact hret _ _ 35 _ _ hS dX5_placeInTheme_35 (by unfold ff_src; split <;> congr 1 <;> omega)
    · have c7 := (nI_eq (by omega) (by omega)).mp c7
      refine lv_iconst (v := nI 1) hx hb dX5_placeInTheme_10 (by decide) ?_
      refine lv_goto (tgt := 15) hx hb dX5_placeInTheme_11 (by decide) ?_
      refine lv_istore_n (lv' := [(3, .int (nI 1)), (0, .ref a0), (1, .int (nI fo)), (2, .int (nI i))]) hx hb dX5_placeInTheme_15 rfl hl (by decide) rfl (fun ls hl => ?_)
      refine lv_iload_n hx hb dX5_placeInTheme_16 rfl (lv_at hl 0 rfl) ?_
      refine lv_if_eq (tgt := 34) hx hb dX5_placeInTheme_17 (by decide) (fun h9 => absurd h9 (by decide)) (fun _ => ?_)
      refine lv_aload_n hx hb dX5_placeInTheme_20 rfl (lv_at hl 1 rfl) ?_
      refine gf_X5_16 hx hb hg hown hK hP 0 rfl rfl dX5_placeInTheme_21 ?_
      refine gf_X5_50 hx hb hg hown hK hP 1 rfl rfl dX5_placeInTheme_24 ?_
      refine lv_iconst (v := nI 1) hx hb dX5_placeInTheme_27 (by decide) ?_
      refine lv_isub hx hb dX5_placeInTheme_28 ?_
      refine lv_asi (pk_sub (by omega)) ?_
      refine lv_iload_n hx hb dX5_placeInTheme_29 rfl (lv_at hl 3 rfl) ?_
      refine lv_isub hx hb dX5_placeInTheme_30 ?_
      refine lv_asi (pk_sub (by omega)) ?_
      refine lv_goto (tgt := 35) hx hb dX5_placeInTheme_31 (by decide) ?_
      exact hret _ _ 35 _ _ hS dX5_placeInTheme_35 (by unfold ff_src; split <;> congr 1 <;> omega)

set_option maxHeartbeats 4000000 in
set_option maxRecDepth 100000 in
theorem k_formPitch (l : Launch) (D : va_G) (cI : ClassId) (a0 n0 t0 s0 r0 g0 p0 q0 : Nat) (t1 t2 tn : Nat) (TP TL : Nat → Int32) (fo i : Nat) (hf : fo ≤ 3) (hi : i < tn) (ht : tn ≤ 12) : Cp l yX5_formPitch cX5_formPitch 5 (some .int) 1 D (tI cI) [.ref a0, .int (nI fo), .int (nI i)] [(a0, .inr (5, [.ref n0, .ref t0, .ref s0, .ref r0, .ref g0, .ref p0, .ref q0])), (t0, .inr (1, [.ref t1, .ref t2, .int (nI tn)])), (t1, oI cI 60 TP), (t2, oI cI 60 TL)] (ff_fp TP fo tn i) := by
  refine Cp.of (own := RX5) (lv := [(0, .ref a0), (1, .int (nI fo)), (2, .int (nI i))]) (by decide +kernel) rfl (Nat.le_of_ble_eq_true rfl) rfl (vp_nar_int _) ?_
  intro p e s m args below meth c Q cx hK hP hret ls hl
  obtain ⟨hx, hb, hml, hown, hg⟩ := id cx
  have hS : va_S (fun _ => False) s.heap s.heap [] := va_S.rf
  have hs1 := ff_src_lt (fo := fo) (tn := tn) (i := i) (by omega)
  have hs2 := ff_src_lt (fo := fo) (tn := tn) (i := 0) (by omega)
  refine lv_aload_n hx hb dX5_formPitch_0 rfl (lv_at hl 0 rfl) ?_
  refine gf_X5_16 hx hb hg hown hK hP 0 rfl rfl dX5_formPitch_1 ?_
  refine gf_X5_137 hx hb hg hown hK hP 1 rfl rfl dX5_formPitch_4 ?_
  refine lv_aload_n hx hb dX5_formPitch_7 rfl (lv_at hl 0 rfl) ?_
  refine lv_iload_n hx hb dX5_formPitch_8 rfl (lv_at hl 1 rfl) ?_
  refine lv_iload_n hx hb dX5_formPitch_9 rfl (lv_at hl 2 rfl) ?_
  refine Cp.callV (As := [.int (nI fo), .int (nI i)]) (rest := [.ref t1]) (cv_X5_190 hg ⟨Nat.le_of_ble_eq_true rfl, Nat.le_of_ble_eq_true rfl⟩) (k_placeInTheme l D cI a0 n0 t0 s0 r0 g0 p0 q0 t1 t2 tn TP TL fo i hf (by omega) ht) cx hK hP [0, 1] rfl (rq := 0) rfl rfl rfl hS rfl hl.1 rfl (Nat.le_of_ble_eq_true rfl) dX5_formPitch_10 ⟨Nat.zero_le _, Nat.zero_le _⟩ (fun H locs hP hS => ?_)
  refine ald hx hb hK hP 2 rfl rfl (by omega) dX5_formPitch_13 ?_
  refine lv_istore_n (lv' := [(3, .int ((TP (ff_src fo tn i)))), (0, .ref a0), (1, .int (nI fo)), (2, .int (nI i))]) hx hb dX5_formPitch_14 rfl hl (by decide) rfl (fun ls hl => ?_)
  refine lv_iload_n hx hb dX5_formPitch_15 rfl (lv_at hl 2 rfl) ?_
  refine lv_iconst (v := nI 1) hx hb dX5_formPitch_16 (by decide) ?_
  refine lv_icmp_eq (tgt := 25) hx hb dX5_formPitch_17 (by decide) (fun c17 => ?_) (fun c17 => ?_)
  · have c17 := (nI_eq (by omega) (by omega)).mp c17
    refine lv_iconst (v := nI 1) hx hb dX5_formPitch_25 (by decide) ?_
    refine lv_goto (tgt := 30) hx hb dX5_formPitch_26 (by decide) ?_
    refine lv_istore (lv' := [(4, .int (nI 1)), (3, .int ((TP (ff_src fo tn i)))), (0, .ref a0), (1, .int (nI fo)), (2, .int (nI i))]) hx hb dX5_formPitch_30 hl (by decide) rfl (fun ls hl => ?_)
    refine lv_iload hx hb dX5_formPitch_32 (lv_at hl 0 rfl) ?_
    refine lv_if_eq (tgt := 58) hx hb dX5_formPitch_34 (by decide) (fun h9 => absurd h9 (by decide)) (fun _ => ?_)
    refine lv_iconst (v := nI 2) hx hb dX5_formPitch_37 (by decide) ?_
    refine lv_aload_n hx hb dX5_formPitch_38 rfl (lv_at hl 2 rfl) ?_
    refine gf_X5_16 hx hb hg hown hK hP 0 rfl rfl dX5_formPitch_39 ?_
    refine gf_X5_137 hx hb hg hown hK hP 1 rfl rfl dX5_formPitch_42 ?_
    refine lv_aload_n hx hb dX5_formPitch_45 rfl (lv_at hl 2 rfl) ?_
    refine lv_iload_n hx hb dX5_formPitch_46 rfl (lv_at hl 3 rfl) ?_
    refine lv_iconst (v := nI 0) hx hb dX5_formPitch_47 (by decide) ?_
    refine Cp.callV (As := [.int (nI fo), .int (nI 0)]) (rest := [.ref t1, .int (nI 2)]) (cv_X5_190 hg ⟨Nat.le_of_ble_eq_true rfl, Nat.le_of_ble_eq_true rfl⟩) (k_placeInTheme l D cI a0 n0 t0 s0 r0 g0 p0 q0 t1 t2 tn TP TL fo 0 hf (by omega) ht) cx hK hP [0, 1] rfl (rq := 0) rfl rfl rfl hS rfl hl.1 rfl (Nat.le_of_ble_eq_true rfl) dX5_formPitch_48 ⟨Nat.zero_le _, Nat.zero_le _⟩ (fun H locs hP hS => ?_)
    refine ald hx hb hK hP 2 rfl rfl (by omega) dX5_formPitch_51 ?_
    refine lv_imul hx hb dX5_formPitch_52 ?_
    refine lv_iload_n hx hb dX5_formPitch_53 rfl (lv_at hl 1 rfl) ?_
    refine lv_isub hx hb dX5_formPitch_54 ?_
    refine lv_goto (tgt := 59) hx hb dX5_formPitch_55 (by decide) ?_
    exact hret _ _ 59 _ _ hS dX5_formPitch_59 (by unfold ff_fp; split <;> first | rfl | (exfalso; omega))
  · have c17 := mt (nI_eq (by omega) (by omega)).mpr c17
    refine lv_iload_n hx hb dX5_formPitch_20 rfl (lv_at hl 2 rfl) ?_
    refine lv_iconst (v := nI 3) hx hb dX5_formPitch_21 (by decide) ?_
    refine lv_icmp_ne (tgt := 29) hx hb dX5_formPitch_22 (by decide) (fun c22 => ?_) (fun c22 => ?_)
    · have c22 := mt (nI_eq (by omega) (by omega)).mpr c22
      refine lv_iconst (v := nI 0) hx hb dX5_formPitch_29 (by decide) ?_
      refine lv_istore (lv' := [(4, .int (nI 0)), (3, .int ((TP (ff_src fo tn i)))), (0, .ref a0), (1, .int (nI fo)), (2, .int (nI i))]) hx hb dX5_formPitch_30 hl (by decide) rfl (fun ls hl => ?_)
      refine lv_iload hx hb dX5_formPitch_32 (lv_at hl 0 rfl) ?_
      refine lv_if_eq (tgt := 58) hx hb dX5_formPitch_34 (by decide) (fun _ => ?_) (fun h9 => absurd (by decide) h9)
      refine lv_iload_n hx hb dX5_formPitch_58 rfl (lv_at hl 1 rfl) ?_
      exact hret _ _ 59 _ _ hS dX5_formPitch_59 (by unfold ff_fp; split <;> first | rfl | (exfalso; omega))
    · have c22 := (nI_eq (by omega) (by omega)).mp c22
      refine lv_iconst (v := nI 1) hx hb dX5_formPitch_25 (by decide) ?_
      refine lv_goto (tgt := 30) hx hb dX5_formPitch_26 (by decide) ?_
      refine lv_istore (lv' := [(4, .int (nI 1)), (3, .int ((TP (ff_src fo tn i)))), (0, .ref a0), (1, .int (nI fo)), (2, .int (nI i))]) hx hb dX5_formPitch_30 hl (by decide) rfl (fun ls hl => ?_)
      refine lv_iload hx hb dX5_formPitch_32 (lv_at hl 0 rfl) ?_
      refine lv_if_eq (tgt := 58) hx hb dX5_formPitch_34 (by decide) (fun h9 => absurd h9 (by decide)) (fun _ => ?_)
      refine lv_iconst (v := nI 2) hx hb dX5_formPitch_37 (by decide) ?_
      refine lv_aload_n hx hb dX5_formPitch_38 rfl (lv_at hl 2 rfl) ?_
      refine gf_X5_16 hx hb hg hown hK hP 0 rfl rfl dX5_formPitch_39 ?_
      refine gf_X5_137 hx hb hg hown hK hP 1 rfl rfl dX5_formPitch_42 ?_
      refine lv_aload_n hx hb dX5_formPitch_45 rfl (lv_at hl 2 rfl) ?_
      refine lv_iload_n hx hb dX5_formPitch_46 rfl (lv_at hl 3 rfl) ?_
      refine lv_iconst (v := nI 0) hx hb dX5_formPitch_47 (by decide) ?_
      refine Cp.callV (As := [.int (nI fo), .int (nI 0)]) (rest := [.ref t1, .int (nI 2)]) (cv_X5_190 hg ⟨Nat.le_of_ble_eq_true rfl, Nat.le_of_ble_eq_true rfl⟩) (k_placeInTheme l D cI a0 n0 t0 s0 r0 g0 p0 q0 t1 t2 tn TP TL fo 0 hf (by omega) ht) cx hK hP [0, 1] rfl (rq := 0) rfl rfl rfl hS rfl hl.1 rfl (Nat.le_of_ble_eq_true rfl) dX5_formPitch_48 ⟨Nat.zero_le _, Nat.zero_le _⟩ (fun H locs hP hS => ?_)
      refine ald hx hb hK hP 2 rfl rfl (by omega) dX5_formPitch_51 ?_
      refine lv_imul hx hb dX5_formPitch_52 ?_
      refine lv_iload_n hx hb dX5_formPitch_53 rfl (lv_at hl 1 rfl) ?_
      refine lv_isub hx hb dX5_formPitch_54 ?_
      refine lv_goto (tgt := 59) hx hb dX5_formPitch_55 (by decide) ?_
      exact hret _ _ 59 _ _ hS dX5_formPitch_59 (by unfold ff_fp; split <;> first | rfl | (exfalso; omega))

set_option maxHeartbeats 4000000 in
set_option maxRecDepth 100000 in
theorem k_formLength (l : Launch) (D : va_G) (cI : ClassId) (a0 n0 t0 s0 r0 g0 p0 q0 : Nat) (t1 t2 tn : Nat) (TP TL : Nat → Int32) (fo i : Nat) (hf : fo ≤ 3) (hi : i < tn) (ht : tn ≤ 12) : Cp l yX5_formLength cX5_formLength 3 (some .int) 1 D (tI cI) [.ref a0, .int (nI fo), .int (nI i)] [(a0, .inr (5, [.ref n0, .ref t0, .ref s0, .ref r0, .ref g0, .ref p0, .ref q0])), (t0, .inr (1, [.ref t1, .ref t2, .int (nI tn)])), (t1, oI cI 60 TP), (t2, oI cI 60 TL)] (ff_fl TL fo tn i) := by
  refine Cp.of (own := RX5) (lv := [(0, .ref a0), (1, .int (nI fo)), (2, .int (nI i))]) (by decide +kernel) rfl (Nat.le_of_ble_eq_true rfl) rfl (vp_nar_int _) ?_
  intro p e s m args below meth c Q cx hK hP hret ls hl
  obtain ⟨hx, hb, hml, hown, hg⟩ := id cx
  have hS : va_S (fun _ => False) s.heap s.heap [] := va_S.rf
  have hs1 := ff_src_lt (fo := fo) (tn := tn) (i := i) (by omega)
  refine lv_aload_n hx hb dX5_formLength_0 rfl (lv_at hl 0 rfl) ?_
  refine gf_X5_16 hx hb hg hown hK hP 0 rfl rfl dX5_formLength_1 ?_
  refine gf_X5_141 hx hb hg hown hK hP 1 rfl rfl dX5_formLength_4 ?_
  refine lv_aload_n hx hb dX5_formLength_7 rfl (lv_at hl 0 rfl) ?_
  refine lv_iload_n hx hb dX5_formLength_8 rfl (lv_at hl 1 rfl) ?_
  refine lv_iload_n hx hb dX5_formLength_9 rfl (lv_at hl 2 rfl) ?_
  refine Cp.callV (As := [.int (nI fo), .int (nI i)]) (rest := [.ref t2]) (cv_X5_190 hg ⟨Nat.le_of_ble_eq_true rfl, Nat.le_of_ble_eq_true rfl⟩) (k_placeInTheme l D cI a0 n0 t0 s0 r0 g0 p0 q0 t1 t2 tn TP TL fo i hf (by omega) ht) cx hK hP [0, 1] rfl (rq := 0) rfl rfl rfl hS rfl hl.1 rfl (Nat.le_of_ble_eq_true rfl) dX5_formLength_10 ⟨Nat.zero_le _, Nat.zero_le _⟩ (fun H locs hP hS => ?_)
  refine ald hx hb hK hP 3 rfl rfl (by omega) dX5_formLength_13 ?_
  exact hret _ _ 14 _ _ hS dX5_formLength_14 (rfl)

set_option maxHeartbeats 4000000 in
set_option maxRecDepth 100000 in
theorem k_floorMod (l : Launch) (D : va_G) (cI : ClassId) (W0 : va_W) (x : Int32) (z : Int) (hx9 : x.toInt = z) (h1 : -11 ≤ z) (h2 : z ≤ 127) : Cp l yJ9_floorMod_7cf53 cJ9_floorMod_7cf53 3 (some .int) 0 D (tI cI) [.int x, .int (nI 12)] W0 (nI (z % 12).toNat) := by
  refine Cp.of (own := RJ9) (lv := [(0, .int x), (1, .int (nI 12))]) (by decide +kernel) rfl (Nat.le_of_ble_eq_true rfl) rfl (vp_nar_int _) ?_
  intro p e s m args below meth c Q cx hK hP hret ls hl
  obtain ⟨hx, hb, hml, hown, hg⟩ := id cx
  have hS : va_S (fun _ => False) s.heap s.heap [] := va_S.rf
  refine lv_iload_n hx hb dJ9_floorMod_7cf53_0 rfl (lv_at hl 0 rfl) ?_
  refine lv_iload_n hx hb dJ9_floorMod_7cf53_1 rfl (lv_at hl 1 rfl) ?_
  refine lv_irem hx hb dJ9_floorMod_7cf53_2 (by decide) ?_
  refine lv_asi (y := (if z < 0 then x else nI (z % 12).toNat)) (ff_fm0 hx9 h1 h2) ?_
  refine lv_istore_n (lv' := [(2, .int ((if z < 0 then x else nI (z % 12).toNat))), (0, .int x), (1, .int (nI 12))]) hx hb dJ9_floorMod_7cf53_3 rfl hl (by decide) rfl (fun ls hl => ?_)
  refine lv_iload_n hx hb dJ9_floorMod_7cf53_4 rfl (lv_at hl 1 rfl) ?_
  refine lv_iload_n hx hb dJ9_floorMod_7cf53_5 rfl (lv_at hl 2 rfl) ?_
  refine lv_ixor hx hb dJ9_floorMod_7cf53_6 ?_
  refine lv_if_ge (tgt := 18) hx hb dJ9_floorMod_7cf53_7 (by decide) (fun c7 => ?_) (fun c7 => ?_)
  · skip
    refine lv_iload_n hx hb dJ9_floorMod_7cf53_18 rfl (lv_at hl 0 rfl) ?_
    exact hret _ _ 19 _ _ hS dJ9_floorMod_7cf53_19 (by first | exact ff_fmA hx9 h1 c7 | exact ff_fmB hx9 h1 c11)
  · skip
    refine lv_iload_n hx hb dJ9_floorMod_7cf53_10 rfl (lv_at hl 0 rfl) ?_
    refine lv_if_eq (tgt := 18) hx hb dJ9_floorMod_7cf53_11 (by decide) (fun c11 => ?_) (fun c11 => ?_)
    · skip
      refine lv_iload_n hx hb dJ9_floorMod_7cf53_18 rfl (lv_at hl 0 rfl) ?_
      exact hret _ _ 19 _ _ hS dJ9_floorMod_7cf53_19 (by first | exact ff_fmA hx9 h1 c7 | exact ff_fmB hx9 h1 c11)
    · skip
      refine lv_iload_n hx hb dJ9_floorMod_7cf53_14 rfl (lv_at hl 0 rfl) ?_
      refine lv_iload_n hx hb dJ9_floorMod_7cf53_15 rfl (lv_at hl 2 rfl) ?_
      refine lv_iadd hx hb dJ9_floorMod_7cf53_16 ?_
      exact hret _ _ 17 _ _ hS dJ9_floorMod_7cf53_17 (ff_fmC hx9 h1 h2 c7)

set_option maxHeartbeats 4000000 in
set_option maxRecDepth 100000 in
theorem k_answerPitch (l : Launch) (D : va_G) (cI : ClassId) (a0 n0 t0 s0 r0 g0 p0 q0 : Nat) (t1 t2 tn : Nat) (TP TL : Nat → Int32) (ky hd i : Nat) (hk9 : ky ≤ 11) (hh : hd ≤ 12) (hi : i < tn) (ht : tn ≤ 12) (hp1 : 0 ≤ (TP i).toInt) (hp2 : (TP i).toInt ≤ 127) : Cp l yX5_answerPitch cX5_answerPitch 6 (some .int) 1 D (tI cI) [.ref a0, .int (nI ky), .int (nI hd), .int (nI i)] [(a0, .inr (5, [.ref n0, .ref t0, .ref s0, .ref r0, .ref g0, .ref p0, .ref q0])), (t0, .inr (1, [.ref t1, .ref t2, .int (nI tn)])), (t1, oI cI 60 TP), (t2, oI cI 60 TL)] (ff_ap TP ky hd i) := by
  refine Cp.of (own := RX5) (lv := [(0, .ref a0), (1, .int (nI ky)), (2, .int (nI hd)), (3, .int (nI i))]) (by decide +kernel) rfl (Nat.le_of_ble_eq_true rfl) rfl (vp_nar_int _) ?_
  intro p e s m args below meth c Q cx hK hP hret ls hl
  obtain ⟨hx, hb, hml, hown, hg⟩ := id cx
  have hS : va_S (fun _ => False) s.heap s.heap [] := va_S.rf
  refine lv_aload_n hx hb dX5_answerPitch_0 rfl (lv_at hl 0 rfl) ?_
  refine gf_X5_16 hx hb hg hown hK hP 0 rfl rfl dX5_answerPitch_1 ?_
  refine gf_X5_137 hx hb hg hown hK hP 1 rfl rfl dX5_answerPitch_4 ?_
  refine lv_iload_n hx hb dX5_answerPitch_7 rfl (lv_at hl 3 rfl) ?_
  refine ald hx hb hK hP 2 rfl rfl (by omega) dX5_answerPitch_8 ?_
  refine lv_istore (lv' := [(4, .int ((TP i))), (0, .ref a0), (1, .int (nI ky)), (2, .int (nI hd)), (3, .int (nI i))]) hx hb dX5_answerPitch_9 hl (by decide) rfl (fun ls hl => ?_)
  refine lv_iload_n hx hb dX5_answerPitch_11 rfl (lv_at hl 4 rfl) ?_
  refine lv_iload_n hx hb dX5_answerPitch_12 rfl (lv_at hl 3 rfl) ?_
  refine lv_icmp_ge (tgt := 34) hx hb dX5_answerPitch_13 (by decide) (fun c13 => ?_) (fun c13 => ?_)
  · have c13 := (nI_leI (by omega) (by omega)).mp c13
    refine lv_iconst (v := nI 0) hx hb dX5_answerPitch_34 (by decide) ?_
    refine lv_istore (lv' := [(5, .int (nI 0)), (4, .int ((TP i))), (0, .ref a0), (1, .int (nI ky)), (2, .int (nI hd)), (3, .int (nI i))]) hx hb dX5_answerPitch_35 hl (by decide) rfl (fun ls hl => ?_)
    refine lv_iload hx hb dX5_answerPitch_37 (lv_at hl 1 rfl) ?_
    refine lv_iload hx hb dX5_answerPitch_39 (lv_at hl 0 rfl) ?_
    refine lv_if_eq (tgt := 48) hx hb dX5_answerPitch_41 (by decide) (fun _ => ?_) (fun h9 => absurd (by decide) h9)
    refine lv_bipush (v := nI 7) hx hb dX5_answerPitch_48 (by decide) ?_
    refine lv_iadd hx hb dX5_answerPitch_50 ?_
    exact hret _ _ 51 _ _ hS dX5_answerPitch_51 (by unfold ff_ap; split <;> first | rfl | (exfalso; omega))
  · have c13 := mt (nI_leI (by omega) (by omega)).mpr c13
    refine lv_iload hx hb dX5_answerPitch_16 (lv_at hl 0 rfl) ?_
    refine lv_iload_n hx hb dX5_answerPitch_18 rfl (lv_at hl 2 rfl) ?_
    refine lv_isub hx hb dX5_answerPitch_19 ?_
    refine lv_bipush (v := nI 12) hx hb dX5_answerPitch_20 (by decide) ?_
    refine Cp.callS (As := [.int (((TP i) - nI ky)), .int (nI 12)]) (rest := []) (cv_X5_193 hg ⟨Nat.le_of_ble_eq_true rfl, Nat.le_of_ble_eq_true rfl⟩) (k_floorMod l D cI [] (TP i - nI ky) ((TP i).toInt - (ky : Int)) (ff_sub9 hp1 hp2 hk9) (by omega) (by omega)) cx hK hP [] rfl hS rfl hl.1 rfl (Nat.le_of_ble_eq_true rfl) dX5_answerPitch_22 ⟨Nat.zero_le _, Nat.zero_le _⟩ (fun H locs hP hS => ?_)
    refine lv_bipush (v := nI 7) hx hb dX5_answerPitch_25 (by decide) ?_
    refine lv_icmp_ne (tgt := 34) hx hb dX5_answerPitch_27 (by decide) (fun c27 => ?_) (fun c27 => ?_)
    · have c27 := mt (nI_eq (by omega) (by omega)).mpr c27
      refine lv_iconst (v := nI 0) hx hb dX5_answerPitch_34 (by decide) ?_
      refine lv_istore (lv' := [(5, .int (nI 0)), (4, .int ((TP i))), (0, .ref a0), (1, .int (nI ky)), (2, .int (nI hd)), (3, .int (nI i))]) hx hb dX5_answerPitch_35 hl (by decide) rfl (fun ls hl => ?_)
      refine lv_iload hx hb dX5_answerPitch_37 (lv_at hl 1 rfl) ?_
      refine lv_iload hx hb dX5_answerPitch_39 (lv_at hl 0 rfl) ?_
      refine lv_if_eq (tgt := 48) hx hb dX5_answerPitch_41 (by decide) (fun _ => ?_) (fun h9 => absurd (by decide) h9)
      refine lv_bipush (v := nI 7) hx hb dX5_answerPitch_48 (by decide) ?_
      refine lv_iadd hx hb dX5_answerPitch_50 ?_
      exact hret _ _ 51 _ _ hS dX5_answerPitch_51 (by unfold ff_ap; split <;> first | rfl | (exfalso; omega))
    · have c27 := (nI_eq (by omega) (by omega)).mp c27
      refine lv_iconst (v := nI 1) hx hb dX5_answerPitch_30 (by decide) ?_
      refine lv_goto (tgt := 35) hx hb dX5_answerPitch_31 (by decide) ?_
      refine lv_istore (lv' := [(5, .int (nI 1)), (4, .int ((TP i))), (0, .ref a0), (1, .int (nI ky)), (2, .int (nI hd)), (3, .int (nI i))]) hx hb dX5_answerPitch_35 hl (by decide) rfl (fun ls hl => ?_)
      refine lv_iload hx hb dX5_answerPitch_37 (lv_at hl 1 rfl) ?_
      refine lv_iload hx hb dX5_answerPitch_39 (lv_at hl 0 rfl) ?_
      refine lv_if_eq (tgt := 48) hx hb dX5_answerPitch_41 (by decide) (fun h9 => absurd h9 (by decide)) (fun _ => ?_)
      refine lv_iconst (v := nI 5) hx hb dX5_answerPitch_44 (by decide) ?_
      refine lv_goto (tgt := 50) hx hb dX5_answerPitch_45 (by decide) ?_
      refine lv_iadd hx hb dX5_answerPitch_50 ?_
      exact hret _ _ 51 _ _ hS dX5_answerPitch_51 (by unfold ff_ap; split <;> first | rfl | (exfalso; omega))

set_option maxHeartbeats 4000000 in
set_option maxRecDepth 100000 in
theorem k_isSoughtAt (l : Launch) (D : va_G) (cI : ClassId) (a0 n0 t0 s0 r0 g0 p0 q0 : Nat) (n1 n2 nn : Nat) (NP NL : Nat → Int32) (s1 s2 sn : Nat) (SP SL : Nat → Int32) (z : Nat) (up dn : Int32) (hz : z + sn ≤ nn) (hn : nn ≤ 60) (hs : sn ≤ 12) : Cp l yX5_isSoughtAt cX5_isSoughtAt 5 (some .boolean) 1 D (tI cI) [.ref a0, .int (nI z), .int up, .int dn] [(a0, .inr (5, [.ref n0, .ref t0, .ref s0, .ref r0, .ref g0, .ref p0, .ref q0])), (n0, .inr (1, [.ref n1, .ref n2, .int (nI nn)])), (n1, oI cI 60 NP), (n2, oI cI 60 NL), (s0, .inr (1, [.ref s1, .ref s2, .int (nI sn)])), (s1, oI cI 60 SP), (s2, oI cI 60 SL)] (bI (ff_at NP NL SP SL sn up dn z = true)) := by
  refine Cp.of (own := RX5) (lv := [(0, .ref a0), (1, .int (nI z)), (2, .int up), (3, .int dn)]) (by decide +kernel) rfl (Nat.le_of_ble_eq_true rfl) rfl (bI_nar _) ?_
  intro p e s m args below meth c Q cx hK hP hret ls hl
  obtain ⟨hx, hb, hml, hown, hg⟩ := id cx
  have hS : va_S (fun _ => False) s.heap s.heap [] := va_S.rf
  refine lv_iconst (v := nI 0) hx hb dX5_isSoughtAt_0 (by decide) ?_
  refine lv_istore (lv' := [(4, .int (nI 0)), (0, .ref a0), (1, .int (nI z)), (2, .int up), (3, .int dn)]) hx hb dX5_isSoughtAt_1 hl (by decide) rfl (fun ls hl => ?_)
  have lp_3 : ∀ (k : Nat) (i : Nat) (H : Heap) (locs : List Loc) (ls : Array Slot), (i ≤ sn) → (∀ t, t < i → (fun t => (decide (t = 0) || decide (NP (z + t) - NP (z + t - 1) = SP t - SP (t - 1))) && decide (NL (z + t) * dn = SL t * up)) t = true) → (sn - i < k) → va_P D vwCl [(a0, .inr (5, [.ref n0, .ref t0, .ref s0, .ref r0, .ref g0, .ref p0, .ref q0])), (n0, .inr (1, [.ref n1, .ref n2, .int (nI nn)])), (n1, oI cI 60 NP), (n2, oI cI 60 NL), (s0, .inr (1, [.ref s1, .ref s2, .int (nI sn)])), (s1, oI cI 60 SP), (s2, oI cI 60 SL)] H → va_S (fun _ => False) s.heap H locs → lv_has ls 5 [(0, .ref a0), (1, .int (nI z)), (2, .int up), (3, .int dn), (4, .int (nI i))] → W p l e (rr 1 0 0) s m args below meth c H locs 0 0 Q (F0 m 3 ls []) := by
    intro k
    induction k with
    | zero =>
      intro i H locs ls hi he hk
      exact absurd hk (Nat.not_lt_zero _)
    | succ k ih_3 =>
      intro i H locs ls hi he hk hP hS hl
      refine lv_iload hx hb dX5_isSoughtAt_3 (lv_at hl 4 rfl) ?_
      refine lv_aload_n hx hb dX5_isSoughtAt_5 rfl (lv_at hl 0 rfl) ?_
      refine gf_X5_19 hx hb hg hown hK hP 0 rfl rfl dX5_isSoughtAt_6 ?_
      refine gf_X5_50 hx hb hg hown hK hP 4 rfl rfl dX5_isSoughtAt_9 ?_
      refine lv_icmp_ge (tgt := 82) hx hb dX5_isSoughtAt_12 (by decide) (fun c12 => ?_) (fun c12 => ?_)
      · have c12 := (nI_leI (by omega) (by omega)).mp c12
        refine lv_iconst (v := nI 1) hx hb dX5_isSoughtAt_82 (by decide) ?_
        exact hret _ _ 83 _ _ hS dX5_isSoughtAt_83 (bI_1 ((ff_all_iff _ _).mpr (fun t ht => he t (by omega))))
      · have c12 := mt (nI_leI (by omega) (by omega)).mpr c12
        refine lv_iload hx hb dX5_isSoughtAt_15 (lv_at hl 4 rfl) ?_
        refine lv_if_le (tgt := 45) hx hb dX5_isSoughtAt_17 (by decide) (fun c17 => ?_) (fun c17 => ?_)
        · have c17 := (nz_le (by omega)).mp c17
          refine lv_aload_n hx hb dX5_isSoughtAt_45 rfl (lv_at hl 0 rfl) ?_
          refine gf_X5_10 hx hb hg hown hK hP 0 rfl rfl dX5_isSoughtAt_46 ?_
          refine gf_X5_141 hx hb hg hown hK hP 1 rfl rfl dX5_isSoughtAt_49 ?_
          refine lv_iload_n hx hb dX5_isSoughtAt_52 rfl (lv_at hl 1 rfl) ?_
          refine lv_iload hx hb dX5_isSoughtAt_53 (lv_at hl 4 rfl) ?_
          refine lv_iadd hx hb dX5_isSoughtAt_55 ?_
          refine lv_asi (nI_add _ _) ?_
          refine ald hx hb hK hP 3 rfl rfl (by omega) dX5_isSoughtAt_56 ?_
          refine lv_iload_n hx hb dX5_isSoughtAt_57 rfl (lv_at hl 3 rfl) ?_
          refine lv_imul hx hb dX5_isSoughtAt_58 ?_
          refine lv_aload_n hx hb dX5_isSoughtAt_59 rfl (lv_at hl 0 rfl) ?_
          refine gf_X5_19 hx hb hg hown hK hP 0 rfl rfl dX5_isSoughtAt_60 ?_
          refine gf_X5_141 hx hb hg hown hK hP 4 rfl rfl dX5_isSoughtAt_63 ?_
          refine lv_iload hx hb dX5_isSoughtAt_66 (lv_at hl 4 rfl) ?_
          refine ald hx hb hK hP 6 rfl rfl (by omega) dX5_isSoughtAt_68 ?_
          refine lv_iload_n hx hb dX5_isSoughtAt_69 rfl (lv_at hl 2 rfl) ?_
          refine lv_imul hx hb dX5_isSoughtAt_70 ?_
          refine lv_icmp_eq (tgt := 76) hx hb dX5_isSoughtAt_71 (by decide) (fun c71 => ?_) (fun c71 => ?_)
          · skip
            refine lv_iinc (v := nI (i + 1)) (lv' := [(4, .int (nI (i + 1))), (0, .ref a0), (1, .int (nI z)), (2, .int up), (3, .int dn)]) hx hb dX5_isSoughtAt_76 hl (k := 4) rfl (nI_1 _) (by decide) rfl (fun ls hl => ?_)
            refine lv_goto (tgt := 3) hx hb dX5_isSoughtAt_79 (by decide) ?_
            exact ih_3 (i + 1) _ _ _ (by omega) (fun t ht => by rcases Nat.lt_succ_iff_lt_or_eq.mp ht with h | h <;> first | exact he t h | (subst h; show ((decide _ || decide _) && decide _) = true; rw [Bool.and_eq_true, Bool.or_eq_true]; exact ⟨by first | exact Or.inl (decide_eq_true c17) | exact Or.inr (decide_eq_true c40), decide_eq_true c71⟩)) (by omega) hP hS (lv_sub hl [1, 2, 3, 4, 0] rfl)
          · skip
            refine lv_iconst (v := nI 0) hx hb dX5_isSoughtAt_74 (by decide) ?_
            exact hret _ _ 75 _ _ hS dX5_isSoughtAt_75 (bI_0 (fun h => by have h9 := (ff_all_iff _ _).mp h i (by omega); simp [c71] at h9))
        · have c17 := mt (nz_le (by omega)).mpr c17
          refine lv_aload_n hx hb dX5_isSoughtAt_20 rfl (lv_at hl 0 rfl) ?_
          refine gf_X5_10 hx hb hg hown hK hP 0 rfl rfl dX5_isSoughtAt_21 ?_
          refine lv_iload_n hx hb dX5_isSoughtAt_24 rfl (lv_at hl 1 rfl) ?_
          refine lv_iload hx hb dX5_isSoughtAt_25 (lv_at hl 4 rfl) ?_
          refine lv_iadd hx hb dX5_isSoughtAt_27 ?_
          refine lv_asi (nI_add _ _) ?_
          refine Cp.callV (As := [.int (nI (z + i))]) (rest := []) (cv_X5_204 hg ⟨Nat.le_of_ble_eq_true rfl, Nat.le_of_ble_eq_true rfl⟩) (k_X1_stepTo l D cI n0 n1 n2 nn NP NL (z + i) (by omega) (by omega)) cx hK hP [1, 2, 3] rfl (rq := 0) rfl rfl rfl hS rfl hl.1 rfl (Nat.le_of_ble_eq_true rfl) dX5_isSoughtAt_28 ⟨Nat.zero_le _, Nat.zero_le _⟩ (fun H locs hP hS => ?_)
          refine lv_aload_n hx hb dX5_isSoughtAt_31 rfl (lv_at hl 0 rfl) ?_
          refine gf_X5_19 hx hb hg hown hK hP 0 rfl rfl dX5_isSoughtAt_32 ?_
          refine lv_iload hx hb dX5_isSoughtAt_35 (lv_at hl 4 rfl) ?_
          refine Cp.callV (As := [.int (nI i)]) (rest := [.int ((NP (z + i) - NP (z + i - 1)))]) (cv_X5_204 hg ⟨Nat.le_of_ble_eq_true rfl, Nat.le_of_ble_eq_true rfl⟩) (k_X1_stepTo l D cI s0 s1 s2 sn SP SL i (by omega) (by omega)) cx hK hP [4, 5, 6] rfl (rq := 0) rfl rfl rfl hS rfl hl.1 rfl (Nat.le_of_ble_eq_true rfl) dX5_isSoughtAt_37 ⟨Nat.zero_le _, Nat.zero_le _⟩ (fun H locs hP hS => ?_)
          refine lv_icmp_eq (tgt := 45) hx hb dX5_isSoughtAt_40 (by decide) (fun c40 => ?_) (fun c40 => ?_)
          · skip
            refine lv_aload_n hx hb dX5_isSoughtAt_45 rfl (lv_at hl 0 rfl) ?_
            refine gf_X5_10 hx hb hg hown hK hP 0 rfl rfl dX5_isSoughtAt_46 ?_
            refine gf_X5_141 hx hb hg hown hK hP 1 rfl rfl dX5_isSoughtAt_49 ?_
            refine lv_iload_n hx hb dX5_isSoughtAt_52 rfl (lv_at hl 1 rfl) ?_
            refine lv_iload hx hb dX5_isSoughtAt_53 (lv_at hl 4 rfl) ?_
            refine lv_iadd hx hb dX5_isSoughtAt_55 ?_
            refine lv_asi (nI_add _ _) ?_
            refine ald hx hb hK hP 3 rfl rfl (by omega) dX5_isSoughtAt_56 ?_
            refine lv_iload_n hx hb dX5_isSoughtAt_57 rfl (lv_at hl 3 rfl) ?_
            refine lv_imul hx hb dX5_isSoughtAt_58 ?_
            refine lv_aload_n hx hb dX5_isSoughtAt_59 rfl (lv_at hl 0 rfl) ?_
            refine gf_X5_19 hx hb hg hown hK hP 0 rfl rfl dX5_isSoughtAt_60 ?_
            refine gf_X5_141 hx hb hg hown hK hP 4 rfl rfl dX5_isSoughtAt_63 ?_
            refine lv_iload hx hb dX5_isSoughtAt_66 (lv_at hl 4 rfl) ?_
            refine ald hx hb hK hP 6 rfl rfl (by omega) dX5_isSoughtAt_68 ?_
            refine lv_iload_n hx hb dX5_isSoughtAt_69 rfl (lv_at hl 2 rfl) ?_
            refine lv_imul hx hb dX5_isSoughtAt_70 ?_
            refine lv_icmp_eq (tgt := 76) hx hb dX5_isSoughtAt_71 (by decide) (fun c71 => ?_) (fun c71 => ?_)
            · skip
              refine lv_iinc (v := nI (i + 1)) (lv' := [(4, .int (nI (i + 1))), (0, .ref a0), (1, .int (nI z)), (2, .int up), (3, .int dn)]) hx hb dX5_isSoughtAt_76 hl (k := 4) rfl (nI_1 _) (by decide) rfl (fun ls hl => ?_)
              refine lv_goto (tgt := 3) hx hb dX5_isSoughtAt_79 (by decide) ?_
              exact ih_3 (i + 1) _ _ _ (by omega) (fun t ht => by rcases Nat.lt_succ_iff_lt_or_eq.mp ht with h | h <;> first | exact he t h | (subst h; show ((decide _ || decide _) && decide _) = true; rw [Bool.and_eq_true, Bool.or_eq_true]; exact ⟨by first | exact Or.inl (decide_eq_true c17) | exact Or.inr (decide_eq_true c40), decide_eq_true c71⟩)) (by omega) hP hS (lv_sub hl [1, 2, 3, 4, 0] rfl)
            · skip
              refine lv_iconst (v := nI 0) hx hb dX5_isSoughtAt_74 (by decide) ?_
              exact hret _ _ 75 _ _ hS dX5_isSoughtAt_75 (bI_0 (fun h => by have h9 := (ff_all_iff _ _).mp h i (by omega); simp [c71] at h9))
          · skip
            refine lv_iconst (v := nI 0) hx hb dX5_isSoughtAt_43 (by decide) ?_
            exact hret _ _ 44 _ _ hS dX5_isSoughtAt_44 (bI_0 (fun h => by have h9 := (ff_all_iff _ _).mp h i (by omega); simp [c17, c40] at h9))
  exact lp_3 (_ + 1) (0) _ _ _ (Nat.zero_le _) (fun t h => absurd h (Nat.not_lt_zero _)) (Nat.lt_succ_self _) hP hS (lv_sub hl [1, 2, 3, 4, 0] rfl)
