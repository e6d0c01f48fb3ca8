set_option maxHeartbeats 4000000 in
set_option maxRecDepth 100000 in
/-- Integer.signum -/
theorem k_signum (l : Launch) (D : va_G) (cI : ClassId) (W0 : va_W) (x : Int32) : Cp l yJ6_signum_0f7a4 cJ6_signum_0f7a4 1 (some .int) 0 D (tI cI) [.int x] W0 (ff_sg x) := by
  refine Cp.of (own := RJ6) (lv := [(0, .int x)]) (by decide +kernel) rfl (Nat.le_of_ble_eq_true rfl) rfl (vp_nar_int _) ?_
  intro p e s m args below meth c Q cx hK hP hret ls hl
  obtain ⟨hx, hb, hml, hown, hg⟩ := id cx
  have hS : va_S (fun _ => False) s.heap s.heap [] := va_S.rf
  refine lv_iload_n hx hb dJ6_signum_0f7a4_0 rfl (lv_at hl 0 rfl) ?_
  refine lv_bipush (v := nI 31) hx hb dJ6_signum_0f7a4_1 (by decide) ?_
  refine lv_ishr hx hb dJ6_signum_0f7a4_3 ?_
  refine lv_iload_n hx hb dJ6_signum_0f7a4_4 rfl (lv_at hl 0 rfl) ?_
  refine lv_ineg hx hb dJ6_signum_0f7a4_5 ?_
  refine lv_bipush (v := nI 31) hx hb dJ6_signum_0f7a4_6 (by decide) ?_
  refine lv_iushr hx hb dJ6_signum_0f7a4_8 rfl ?_
  refine lv_ior hx hb dJ6_signum_0f7a4_9 ?_
  exact hret _ _ 10 _ _ hS dJ6_signum_0f7a4_10 (ff_sg_eq x)

set_option maxHeartbeats 4000000 in
set_option maxRecDepth 100000 in
/-- NoteRow.stepTo -/
theorem k_X1_stepTo (l : Launch) (D : va_G) (cI : ClassId) (a0 a1 a2 n : Nat) (P L : Nat → Int32) (i : Nat) (h1 : 1 ≤ i) (h2 : i < 60) : Cp l yX1_stepTo cX1_stepTo 2 (some .int) 0 D (tI cI) [.ref a0, .int (nI i)] [(a0, .inr (1, [.ref a1, .ref a2, .int (nI n)])), (a1, oI cI 60 P), (a2, oI cI 60 L)] (P i - P (i - 1)) := by
  refine Cp.of (own := RX1) (lv := [(0, .ref a0), (1, .int (nI i))]) (by decide +kernel) rfl (Nat.le_of_ble_eq_true rfl) rfl (vp_nar_int _) ?_
  intro p e s m args below meth c Q cx hK hP hret ls hl
  obtain ⟨hx, hb, hml, hown, hg⟩ := id cx
  have hS : va_S (fun _ => False) s.heap s.heap [] := va_S.rf
  refine lv_aload_n hx hb dX1_stepTo_0 rfl (lv_at hl 0 rfl) ?_
  refine gf_X1_9 hx hb hg hown hK hP 0 rfl rfl dX1_stepTo_1 ?_
  refine lv_iload_n hx hb dX1_stepTo_4 rfl (lv_at hl 1 rfl) ?_
  refine ald hx hb hK hP 1 rfl rfl (by omega) dX1_stepTo_5 ?_
  refine lv_aload_n hx hb dX1_stepTo_6 rfl (lv_at hl 0 rfl) ?_
  refine gf_X1_9 hx hb hg hown hK hP 0 rfl rfl dX1_stepTo_7 ?_
  refine lv_iload_n hx hb dX1_stepTo_10 rfl (lv_at hl 1 rfl) ?_
  refine lv_iconst (v := nI 1) hx hb dX1_stepTo_11 (by decide) ?_
  refine lv_isub hx hb dX1_stepTo_12 ?_
  refine lv_asi (pk_sub (by omega)) ?_
  refine ald hx hb hK hP 1 rfl rfl (by omega) dX1_stepTo_13 ?_
  refine lv_isub hx hb dX1_stepTo_14 ?_
  exact hret _ _ 15 _ _ hS dX1_stepTo_15 (rfl)

set_option maxHeartbeats 4000000 in
set_option maxRecDepth 100000 in
/-- ItemRow.countIn -/
theorem k_X0_countIn (l : Launch) (D : va_G) (cI : ClassId) (a0 a1 a2 n : Nat) (P L : Nat → Int32) (v : Nat) (hv : v ≤ 4) (hn : n ≤ 60) : Cp l yX0_countIn cX0_countIn 3 (some .int) 0 D (tI cI) [.ref a0, .int (nI v)] [(a0, .inr (1, [.ref a1, .ref a2, .int (nI n)])), (a1, oI cI 60 P), (a2, oI cI 60 L)] (nI (ff_cnt v n)) := by
  refine Cp.of (own := RX0) (lv := [(0, .ref a0), (1, .int (nI v))]) (by decide +kernel) rfl (Nat.le_of_ble_eq_true rfl) rfl (vp_nar_int _) ?_
  intro p e s m args below meth c Q cx hK hP hret ls hl
  obtain ⟨hx, hb, hml, hown, hg⟩ := id cx
  have hS : va_S (fun _ => False) s.heap s.heap [] := va_S.rf
  refine lv_iload_n hx hb dX0_countIn_0 rfl (lv_at hl 1 rfl) ?_
  refine lv_iconst (v := nI 1) hx hb dX0_countIn_1 (by decide) ?_
  refine lv_icmp_eq (tgt := 10) hx hb dX0_countIn_2 (by decide) (fun c2 => ?_) (fun c2 => ?_)
  · have c2 := (nI_eq (by omega) (by omega)).mp c2
    refine lv_iconst (v := nI 1) hx hb dX0_countIn_10 (by decide) ?_
    refine lv_goto (tgt := 15) hx hb dX0_countIn_11 (by decide) ?_
    refine lv_istore_n (lv' := [(2, .int (nI 1)), (0, .ref a0), (1, .int (nI v))]) hx hb dX0_countIn_15 rfl hl (by decide) rfl (fun ls hl => ?_)
    refine lv_iload_n hx hb dX0_countIn_16 rfl (lv_at hl 0 rfl) ?_
    refine lv_if_eq (tgt := 36) hx hb dX0_countIn_17 (by decide) (fun h9 => absurd h9 (by decide)) (fun _ => ?_)
    refine lv_aload_n hx hb dX0_countIn_20 rfl (lv_at hl 1 rfl) ?_
    refine gf_X0_15 hx hb hg hown hK hP 0 rfl rfl dX0_countIn_21 ?_
    refine lv_if_le (tgt := 36) hx hb dX0_countIn_24 (by decide) (fun c24 => ?_) (fun c24 => ?_)
    · have c24 := (nz_le (by omega)).mp c24
      refine lv_aload_n hx hb dX0_countIn_36 rfl (lv_at hl 1 rfl) ?_
      refine gf_X0_15 hx hb hg hown hK hP 0 rfl rfl dX0_countIn_37 ?_
      exact hret _ _ 40 _ _ hS dX0_countIn_40 (by unfold ff_cnt; split <;> congr 1 <;> omega)
    · have c24 := mt (nz_le (by omega)).mpr c24
      refine lv_aload_n hx hb dX0_countIn_27 rfl (lv_at hl 1 rfl) ?_
      refine gf_X0_15 hx hb hg hown hK hP 0 rfl rfl dX0_countIn_28 ?_
      refine lv_iconst (v := nI 1) hx hb dX0_countIn_31 (by decide) ?_
      refine lv_isub hx hb dX0_countIn_32 ?_
      refine lv_asi (pk_sub (by omega)) ?_
      refine lv_goto (tgt := 40) hx hb dX0_countIn_33 (by decide) ?_
      exact hret _ _ 40 _ _ hS dX0_countIn_40 (by unfold ff_cnt; split <;> congr 1 <;> omega)
  · have c2 := mt (nI_eq (by omega) (by omega)).mpr c2
    refine lv_iload_n hx hb dX0_countIn_5 rfl (lv_at hl 1 rfl) ?_
    refine lv_iconst (v := nI 2) hx hb dX0_countIn_6 (by decide) ?_
    refine lv_icmp_ne (tgt := 14) hx hb dX0_countIn_7 (by decide) (fun c7 => ?_) (fun c7 => ?_)
    · have c7 := mt (nI_eq (by omega) (by omega)).mpr c7
      refine lv_iconst (v := nI 0) hx hb dX0_countIn_14 (by decide) ?_
      refine lv_istore_n (lv' := [(2, .int (nI 0)), (0, .ref a0), (1, .int (nI v))]) hx hb dX0_countIn_15 rfl hl (by decide) rfl (fun ls hl => ?_)
      refine lv_iload_n hx hb dX0_countIn_16 rfl (lv_at hl 0 rfl) ?_
      refine lv_if_eq (tgt := 36) hx hb dX0_countIn_17 (by decide) (fun _ => ?_) (fun h9 => absurd (by decide) h9)
      refine lv_aload_n hx hb dX0_countIn_36 rfl (lv_at hl 1 rfl) ?_
      refine gf_X0_15 hx hb hg hown hK hP 0 rfl rfl dX0_countIn_37 ?_
      exact hret _ _ 40 _ _ hS dX0_countIn_40 (by unfold ff_cnt; split <;> congr 1 <;> omega)
    · have c7 := (nI_eq (by omega) (by omega)).mp c7
      refine lv_iconst (v := nI 1) hx hb dX0_countIn_10 (by decide) ?_
      refine lv_goto (tgt := 15) hx hb dX0_countIn_11 (by decide) ?_
      refine lv_istore_n (lv' := [(2, .int (nI 1)), (0, .ref a0), (1, .int (nI v))]) hx hb dX0_countIn_15 rfl hl (by decide) rfl (fun ls hl => ?_)
      refine lv_iload_n hx hb dX0_countIn_16 rfl (lv_at hl 0 rfl) ?_
      refine lv_if_eq (tgt := 36) hx hb dX0_countIn_17 (by decide) (fun h9 => absurd h9 (by decide)) (fun _ => ?_)
      refine lv_aload_n hx hb dX0_countIn_20 rfl (lv_at hl 1 rfl) ?_
      refine gf_X0_15 hx hb hg hown hK hP 0 rfl rfl dX0_countIn_21 ?_
      refine lv_if_le (tgt := 36) hx hb dX0_countIn_24 (by decide) (fun c24 => ?_) (fun c24 => ?_)
      · have c24 := (nz_le (by omega)).mp c24
        refine lv_aload_n hx hb dX0_countIn_36 rfl (lv_at hl 1 rfl) ?_
        refine gf_X0_15 hx hb hg hown hK hP 0 rfl rfl dX0_countIn_37 ?_
        exact hret _ _ 40 _ _ hS dX0_countIn_40 (by unfold ff_cnt; split <;> congr 1 <;> omega)
      · have c24 := mt (nz_le (by omega)).mpr c24
        refine lv_aload_n hx hb dX0_countIn_27 rfl (lv_at hl 1 rfl) ?_
        refine gf_X0_15 hx hb hg hown hK hP 0 rfl rfl dX0_countIn_28 ?_
        refine lv_iconst (v := nI 1) hx hb dX0_countIn_31 (by decide) ?_
        refine lv_isub hx hb dX0_countIn_32 ?_
        refine lv_asi (pk_sub (by omega)) ?_
        refine lv_goto (tgt := 40) hx hb dX0_countIn_33 (by decide) ?_
        exact hret _ _ 40 _ _ hS dX0_countIn_40 (by unfold ff_cnt; split <;> congr 1 <;> omega)

set_option maxHeartbeats 4000000 in
set_option maxRecDepth 100000 in
/-- ItemRow.valueIn -/
theorem k_X0_valueIn (l : Launch) (D : va_G) (cI : ClassId) (a0 a1 a2 n : Nat) (P L : Nat → Int32) (v i : Nat) (hv : v ≤ 4) (hi : i + 1 < 60 ∨ (i < 60 ∧ ¬ v = 1 ∧ ¬ v = 2)) : Cp l yX0_valueIn cX0_valueIn 3 (some .int) 1 D (tI cI) [.ref a0, .int (nI v), .int (nI i)] [(a0, .inr (1, [.ref a1, .ref a2, .int (nI n)])), (a1, oI cI 60 P), (a2, oI cI 60 L)] (ff_it P L v i) := by
  refine Cp.of (own := RX0) (lv := [(0, .ref a0), (1, .int (nI v)), (2, .int (nI i))]) (by decide +kernel) rfl (Nat.le_of_ble_eq_true rfl) rfl (vp_nar_int _) ?_
  intro p e s m args below meth c Q cx hK hP hret ls hl
  obtain ⟨hx, hb, hml, hown, hg⟩ := id cx
  have hS : va_S (fun _ => False) s.heap s.heap [] := va_S.rf
  refine lv_iload_n hx hb dX0_valueIn_0 rfl (lv_at hl 1 rfl) ?_
  rcases (show v = 0 ∨ v = 1 ∨ v = 2 ∨ v = 3 ∨ v = 4 by omega) with rfl | rfl | rfl | rfl | rfl
  · refine lv_tableIn (off := 31) (tgt := 32) hx hb dX0_valueIn_1 (by decide) (by decide) (by decide) (by decide) ?_
    refine lv_aload_n hx hb dX0_valueIn_32 rfl (lv_at hl 0 rfl) ?_
    refine gf_X0_21 hx hb hg hown hK hP 0 rfl rfl dX0_valueIn_33 ?_
    refine lv_iload_n hx hb dX0_valueIn_36 rfl (lv_at hl 2 rfl) ?_
    refine ald hx hb hK hP 1 rfl rfl (by omega) dX0_valueIn_37 ?_
    exact hret _ _ 38 _ _ hS dX0_valueIn_38 (rfl)
  · refine lv_tableIn (off := 38) (tgt := 39) hx hb dX0_valueIn_1 (by decide) (by decide) (by decide) (by decide) ?_
    refine lv_aload_n hx hb dX0_valueIn_39 rfl (lv_at hl 0 rfl) ?_
    refine lv_iload_n hx hb dX0_valueIn_40 rfl (lv_at hl 2 rfl) ?_
    refine lv_iconst (v := nI 1) hx hb dX0_valueIn_41 (by decide) ?_
    refine lv_iadd hx hb dX0_valueIn_42 ?_
    refine lv_asi (nI_add _ _) ?_
    refine Cp.callV (As := [.int (nI (i + 1))]) (rest := []) (cv_X0_24 hg ⟨Nat.le_of_ble_eq_true rfl, Nat.le_of_ble_eq_true rfl⟩) (k_X1_stepTo l D cI a0 a1 a2 n P L (i + 1) (by omega) (by omega)) cx hK hP [0, 1, 2] rfl (rq := 0) rfl rfl rfl hS rfl hl.1 rfl (Nat.le_of_ble_eq_true rfl) dX0_valueIn_43 ⟨Nat.zero_le _, Nat.zero_le _⟩ (fun H locs hP hS => ?_)
    exact hret _ _ 46 _ _ hS dX0_valueIn_46 (rfl)
  · refine lv_tableIn (off := 46) (tgt := 47) hx hb dX0_valueIn_1 (by decide) (by decide) (by decide) (by decide) ?_
    refine lv_aload_n hx hb dX0_valueIn_47 rfl (lv_at hl 0 rfl) ?_
    refine lv_iload_n hx hb dX0_valueIn_48 rfl (lv_at hl 2 rfl) ?_
    refine lv_iconst (v := nI 1) hx hb dX0_valueIn_49 (by decide) ?_
    refine lv_iadd hx hb dX0_valueIn_50 ?_
    refine lv_asi (nI_add _ _) ?_
    refine Cp.callV (As := [.int (nI (i + 1))]) (rest := []) (cv_X0_24 hg ⟨Nat.le_of_ble_eq_true rfl, Nat.le_of_ble_eq_true rfl⟩) (k_X1_stepTo l D cI a0 a1 a2 n P L (i + 1) (by omega) (by omega)) cx hK hP [0, 1, 2] rfl (rq := 0) rfl rfl rfl hS rfl hl.1 rfl (Nat.le_of_ble_eq_true rfl) dX0_valueIn_51 ⟨Nat.zero_le _, Nat.zero_le _⟩ (fun H locs hP hS => ?_)
    refine Cp.callS (As := [.int ((P (i + 1) - P (i + 1 - 1)))]) (rest := []) (cv_X0_28 hg ⟨Nat.le_of_ble_eq_true rfl, Nat.le_of_ble_eq_true rfl⟩) (k_signum l D cI [] _) cx hK hP [] rfl hS rfl hl.1 rfl (Nat.le_of_ble_eq_true rfl) dX0_valueIn_54 ⟨Nat.zero_le _, Nat.zero_le _⟩ (fun H locs hP hS => ?_)
    exact hret _ _ 57 _ _ hS dX0_valueIn_57 (rfl)
  · refine lv_tableIn (off := 57) (tgt := 58) hx hb dX0_valueIn_1 (by decide) (by decide) (by decide) (by decide) ?_
    refine lv_aload_n hx hb dX0_valueIn_58 rfl (lv_at hl 0 rfl) ?_
    refine gf_X0_33 hx hb hg hown hK hP 0 rfl rfl dX0_valueIn_59 ?_
    refine lv_iload_n hx hb dX0_valueIn_62 rfl (lv_at hl 2 rfl) ?_
    refine ald hx hb hK hP 2 rfl rfl (by omega) dX0_valueIn_63 ?_
    exact hret _ _ 64 _ _ hS dX0_valueIn_64 (rfl)
  · refine lv_tableOut (tgt := 65) hx hb dX0_valueIn_1 (Or.inr (by decide)) (by decide) ?_
    refine lv_aload_n hx hb dX0_valueIn_65 rfl (lv_at hl 0 rfl) ?_
    refine gf_X0_21 hx hb hg hown hK hP 0 rfl rfl dX0_valueIn_66 ?_
    refine lv_iload_n hx hb dX0_valueIn_69 rfl (lv_at hl 2 rfl) ?_
    refine ald hx hb hK hP 1 rfl rfl (by omega) dX0_valueIn_70 ?_
    refine lv_sipush (v := 1000) hx hb dX0_valueIn_71 (by decide) ?_
    refine lv_imul hx hb dX0_valueIn_74 ?_
    refine lv_aload_n hx hb dX0_valueIn_75 rfl (lv_at hl 0 rfl) ?_
    refine gf_X0_33 hx hb hg hown hK hP 0 rfl rfl dX0_valueIn_76 ?_
    refine lv_iload_n hx hb dX0_valueIn_79 rfl (lv_at hl 2 rfl) ?_
    refine ald hx hb hK hP 2 rfl rfl (by omega) dX0_valueIn_80 ?_
    refine lv_iadd hx hb dX0_valueIn_81 ?_
    exact hret _ _ 82 _ _ hS dX0_valueIn_82 (rfl)

set_option maxHeartbeats 4000000 in
set_option maxRecDepth 100000 in
/-- ItemRow.sameRun -/
theorem k_X0_sameRun (l : Launch) (D : va_G) (cI : ClassId) (a0 a1 n : Nat) (f : Nat → Int32) (i j : Nat) (hij : i < j) (hj : j ≤ n) (hn : n ≤ 60) : Cp l yX0_sameRun cX0_sameRun 4 (some .int) 0 D (tI cI) [.ref a0, .int (nI i), .int (nI j)] [(a0, .inr (0, [.ref a1, .int (nI n)])), (a1, oI cI 60 f)] (nI (ff_run f i j (n - j))) := by
  refine Cp.of (own := RX0) (lv := [(0, .ref a0), (1, .int (nI i)), (2, .int (nI j))]) (by decide +kernel) rfl (Nat.le_of_ble_eq_true rfl) rfl (vp_nar_int _) ?_
  intro p e s m args below meth c Q cx hK hP hret ls hl
  obtain ⟨hx, hb, hml, hown, hg⟩ := id cx
  have hS : va_S (fun _ => False) s.heap s.heap [] := va_S.rf
  refine lv_iconst (v := nI 0) hx hb dX0_sameRun_0 (by decide) ?_
  refine lv_istore_n (lv' := [(3, .int (nI 0)), (0, .ref a0), (1, .int (nI i)), (2, .int (nI j))]) hx hb dX0_sameRun_1 rfl hl (by decide) rfl (fun ls hl => ?_)
  have lp_2 : ∀ (k : Nat) (r : Nat) (H : Heap) (locs : List Loc) (ls : Array Slot), (r ≤ n - j) → (∀ t, t < r → f (i + t) = f (j + t)) → (n - j - r < k) → va_P D vwCl [(a0, .inr (0, [.ref a1, .int (nI n)])), (a1, oI cI 60 f)] H → va_S (fun _ => False) s.heap H locs → lv_has ls 4 [(0, .ref a0), (1, .int (nI i)), (2, .int (nI j)), (3, .int (nI r))] → W p l e (rr 0 0 0) s m args below meth c H locs 0 0 Q (F0 m 2 ls []) := by
    intro k
    induction k with
    | zero =>
      intro r H locs ls hr he hk
      exact absurd hk (Nat.not_lt_zero _)
    | succ k ih_2 =>
      intro r H locs ls hr he hk hP hS hl
      refine lv_iload_n hx hb dX0_sameRun_2 rfl (lv_at hl 2 rfl) ?_
      refine lv_iload_n hx hb dX0_sameRun_3 rfl (lv_at hl 3 rfl) ?_
      refine lv_iadd hx hb dX0_sameRun_4 ?_
      refine lv_asi (nI_add _ _) ?_
      refine lv_aload_n hx hb dX0_sameRun_5 rfl (lv_at hl 0 rfl) ?_
      refine gf_X0_40 hx hb hg hown hK hP 0 rfl rfl dX0_sameRun_6 ?_
      refine lv_icmp_ge (tgt := 37) hx hb dX0_sameRun_9 (by decide) (fun c9 => ?_) (fun c9 => ?_)
      · have c9 := (nI_leI (by omega) (by omega)).mp c9
        refine lv_iload_n hx hb dX0_sameRun_37 rfl (lv_at hl 3 rfl) ?_
        exact hret _ _ 38 _ _ hS dX0_sameRun_38 (by rw [ff_run_eq f r (n - j) i j hr he (by first | exact Or.inl (by omega) | exact Or.inr c28)])
      · have c9 := mt (nI_leI (by omega) (by omega)).mpr c9
        refine lv_aload_n hx hb dX0_sameRun_12 rfl (lv_at hl 0 rfl) ?_
        refine gf_X0_9 hx hb hg hown hK hP 0 rfl rfl dX0_sameRun_13 ?_
        refine lv_iload_n hx hb dX0_sameRun_16 rfl (lv_at hl 1 rfl) ?_
        refine lv_iload_n hx hb dX0_sameRun_17 rfl (lv_at hl 3 rfl) ?_
        refine lv_iadd hx hb dX0_sameRun_18 ?_
        refine lv_asi (nI_add _ _) ?_
        refine ald hx hb hK hP 1 rfl rfl (by omega) dX0_sameRun_19 ?_
        refine lv_aload_n hx hb dX0_sameRun_20 rfl (lv_at hl 0 rfl) ?_
        refine gf_X0_9 hx hb hg hown hK hP 0 rfl rfl dX0_sameRun_21 ?_
        refine lv_iload_n hx hb dX0_sameRun_24 rfl (lv_at hl 2 rfl) ?_
        refine lv_iload_n hx hb dX0_sameRun_25 rfl (lv_at hl 3 rfl) ?_
        refine lv_iadd hx hb dX0_sameRun_26 ?_
        refine lv_asi (nI_add _ _) ?_
        refine ald hx hb hK hP 1 rfl rfl (by omega) dX0_sameRun_27 ?_
        refine lv_icmp_ne (tgt := 37) hx hb dX0_sameRun_28 (by decide) (fun c28 => ?_) (fun c28 => ?_)
        · skip
          refine lv_iload_n hx hb dX0_sameRun_37 rfl (lv_at hl 3 rfl) ?_
          exact hret _ _ 38 _ _ hS dX0_sameRun_38 (by rw [ff_run_eq f r (n - j) i j hr he (by first | exact Or.inl (by omega) | exact Or.inr c28)])
        · skip
          refine lv_iinc (v := nI (r + 1)) (lv' := [(3, .int (nI (r + 1))), (0, .ref a0), (1, .int (nI i)), (2, .int (nI j))]) hx hb dX0_sameRun_31 hl (k := 3) rfl (nI_1 _) (by decide) rfl (fun ls hl => ?_)
          refine lv_goto (tgt := 2) hx hb dX0_sameRun_34 (by decide) ?_
          exact ih_2 (r + 1) _ _ _ (by omega) (fun t ht => by rcases Nat.lt_succ_iff_lt_or_eq.mp ht with h | h <;> first | exact he t h | (subst h; exact c28)) (by omega) hP hS (lv_sub hl [1, 2, 3, 0] rfl)
  exact lp_2 (_ + 1) (0) _ _ _ (Nat.zero_le _) (fun t h => absurd h (Nat.not_lt_zero _)) (Nat.lt_succ_self _) hP hS (lv_sub hl [1, 2, 3, 0] rfl)

set_option maxHeartbeats 4000000 in
set_option maxRecDepth 100000 in
/-- ItemRow.cameBefore -/
theorem k_X0_cameBefore (l : Launch) (D : va_G) (cI : ClassId) (a0 a1 n : Nat) (f : Nat → Int32) (j q : Nat) (hj : j ≤ n) (hn : n ≤ 60) (hq : q ≤ 60) : Cp l yX0_cameBefore cX0_cameBefore 4 (some .boolean) 1 D (tI cI) [.ref a0, .int (nI j), .int (nI q)] [(a0, .inr (0, [.ref a1, .int (nI n)])), (a1, oI cI 60 f)] (bI (ff_came f n q j = true)) := by
  refine Cp.of (own := RX0) (lv := [(0, .ref a0), (1, .int (nI j)), (2, .int (nI q))]) (by decide +kernel) rfl (Nat.le_of_ble_eq_true rfl) rfl (bI_nar _) ?_
  intro p e s m args below meth c Q cx hK hP hret ls hl
  obtain ⟨hx, hb, hml, hown, hg⟩ := id cx
  have hS : va_S (fun _ => False) s.heap s.heap [] := va_S.rf
  refine lv_iconst (v := nI 0) hx hb dX0_cameBefore_0 (by decide) ?_
  refine lv_istore_n (lv' := [(3, .int (nI 0)), (0, .ref a0), (1, .int (nI j)), (2, .int (nI q))]) hx hb dX0_cameBefore_1 rfl hl (by decide) rfl (fun ls hl => ?_)
  have lp_2 : ∀ (k : Nat) (i : Nat) (H : Heap) (locs : List Loc) (ls : Array Slot), (i ≤ j) → (∀ t, t < i → ¬ q ≤ ff_run f t j (n - j)) → (j - i < k) → va_P D vwCl [(a0, .inr (0, [.ref a1, .int (nI n)])), (a1, oI cI 60 f)] H → va_S (fun _ => False) s.heap H locs → lv_has ls 4 [(0, .ref a0), (1, .int (nI j)), (2, .int (nI q)), (3, .int (nI i))] → W p l e (rr 1 0 0) s m args below meth c H locs 0 0 Q (F0 m 2 ls []) := by
    intro k
    induction k with
    | zero =>
      intro i H locs ls hi he hk
      exact absurd hk (Nat.not_lt_zero _)
    | succ k ih_2 =>
      intro i H locs ls hi he hk hP hS hl
      refine lv_iload_n hx hb dX0_cameBefore_2 rfl (lv_at hl 3 rfl) ?_
      refine lv_iload_n hx hb dX0_cameBefore_3 rfl (lv_at hl 1 rfl) ?_
      refine lv_icmp_ge (tgt := 25) hx hb dX0_cameBefore_4 (by decide) (fun c4 => ?_) (fun c4 => ?_)
      · have c4 := (nI_leI (by omega) (by omega)).mp c4
        refine lv_iconst (v := nI 0) hx hb dX0_cameBefore_25 (by decide) ?_
        exact hret _ _ 26 _ _ hS dX0_cameBefore_26 (bI_0 (fun h => by obtain ⟨t, h1, h2⟩ := (ff_any_iff _ _).mp h; exact he t (by omega) (of_decide_eq_true h2)))
      · have c4 := mt (nI_leI (by omega) (by omega)).mpr c4
        refine lv_aload_n hx hb dX0_cameBefore_7 rfl (lv_at hl 0 rfl) ?_
        refine lv_iload_n hx hb dX0_cameBefore_8 rfl (lv_at hl 3 rfl) ?_
        refine lv_iload_n hx hb dX0_cameBefore_9 rfl (lv_at hl 1 rfl) ?_
        refine Cp.callV (As := [.int (nI i), .int (nI j)]) (rest := []) (cv_X0_49 hg ⟨Nat.le_of_ble_eq_true rfl, Nat.le_of_ble_eq_true rfl⟩) (k_X0_sameRun l D cI a0 a1 n f i j (by omega) hj hn) cx hK hP [0, 1] rfl (rq := 0) rfl rfl rfl hS rfl hl.1 rfl (Nat.le_of_ble_eq_true rfl) dX0_cameBefore_10 ⟨Nat.zero_le _, Nat.zero_le _⟩ (fun H locs hP hS => ?_)
        have hrl := ff_run_le f (n - j) i j
        refine lv_iload_n hx hb dX0_cameBefore_13 rfl (lv_at hl 2 rfl) ?_
        refine lv_icmp_lt (tgt := 19) hx hb dX0_cameBefore_14 (by decide) (fun c14 => ?_) (fun c14 => ?_)
        · have c14 := (nI_ltI (by omega) (by omega)).mp c14
          refine lv_iinc (v := nI (i + 1)) (lv' := [(3, .int (nI (i + 1))), (0, .ref a0), (1, .int (nI j)), (2, .int (nI q))]) hx hb dX0_cameBefore_19 hl (k := 3) rfl (nI_1 _) (by decide) rfl (fun ls hl => ?_)
          refine lv_goto (tgt := 2) hx hb dX0_cameBefore_22 (by decide) ?_
          exact ih_2 (i + 1) _ _ _ (by omega) (fun t ht => by rcases Nat.lt_succ_iff_lt_or_eq.mp ht with h | h <;> first | exact he t h | (subst h; omega)) (by omega) hP hS (lv_sub hl [1, 2, 3, 0] rfl)
        · have c14 := mt (nI_ltI (by omega) (by omega)).mpr c14
          refine lv_iconst (v := nI 1) hx hb dX0_cameBefore_17 (by decide) ?_
          exact hret _ _ 18 _ _ hS dX0_cameBefore_18 (bI_1 ((ff_any_iff _ _).mpr ⟨i, by omega, decide_eq_true (by omega)⟩))
  exact lp_2 (_ + 1) (0) _ _ _ (Nat.zero_le _) (fun t h => absurd h (Nat.not_lt_zero _)) (Nat.lt_succ_self _) hP hS (lv_sub hl [1, 2, 3, 0] rfl)

set_option maxHeartbeats 4000000 in
set_option maxRecDepth 100000 in
/-- ItemRow.countDifferent -/
theorem k_X0_countDifferent (l : Launch) (D : va_G) (cI : ClassId) (a0 a1 n : Nat) (f : Nat → Int32) (q : Nat) (hn : n ≤ 60) (hq1 : 1 ≤ q) (hq : q ≤ 60) : Cp l yX0_countDifferent cX0_countDifferent 4 (some .int) 2 D (tI cI) [.ref a0, .int (nI q)] [(a0, .inr (0, [.ref a1, .int (nI n)])), (a1, oI cI 60 f)] (nI (ff_pas f n q)) := by
  refine Cp.of (own := RX0) (lv := [(0, .ref a0), (1, .int (nI q))]) (by decide +kernel) rfl (Nat.le_of_ble_eq_true rfl) rfl (vp_nar_int _) ?_
  intro p e s m args below meth c Q cx hK hP hret ls hl
  obtain ⟨hx, hb, hml, hown, hg⟩ := id cx
  have hS : va_S (fun _ => False) s.heap s.heap [] := va_S.rf
  refine lv_iconst (v := nI 0) hx hb dX0_countDifferent_0 (by decide) ?_
  refine lv_istore_n (lv' := [(2, .int (nI 0)), (0, .ref a0), (1, .int (nI q))]) hx hb dX0_countDifferent_1 rfl hl (by decide) rfl (fun ls hl => ?_)
  refine lv_iconst (v := nI 0) hx hb dX0_countDifferent_2 (by decide) ?_
  refine lv_istore_n (lv' := [(3, .int (nI 0)), (2, .int (nI 0)), (0, .ref a0), (1, .int (nI q))]) hx hb dX0_countDifferent_3 rfl hl (by decide) rfl (fun ls hl => ?_)
  have lp_4 : ∀ (k : Nat) (j : Nat) (H : Heap) (locs : List Loc) (ls : Array Slot), (j ≤ n + 1 - q) → (n + 1 - q - j < k) → va_P D vwCl [(a0, .inr (0, [.ref a1, .int (nI n)])), (a1, oI cI 60 f)] H → va_S (fun _ => False) s.heap H locs → lv_has ls 4 [(0, .ref a0), (1, .int (nI q)), (2, .int (nI (ff_ct (fun j => !ff_came f n q j) j))), (3, .int (nI j))] → W p l e (rr 2 0 0) s m args below meth c H locs 0 0 Q (F0 m 4 ls []) := by
    intro k
    induction k with
    | zero =>
      intro j H locs ls hj hk
      exact absurd hk (Nat.not_lt_zero _)
    | succ k ih_4 =>
      intro j H locs ls hj hk hP hS hl
      refine lv_iload_n hx hb dX0_countDifferent_4 rfl (lv_at hl 3 rfl) ?_
      refine lv_iload_n hx hb dX0_countDifferent_5 rfl (lv_at hl 1 rfl) ?_
      refine lv_iadd hx hb dX0_countDifferent_6 ?_
      refine lv_asi (nI_add _ _) ?_
      refine lv_aload_n hx hb dX0_countDifferent_7 rfl (lv_at hl 0 rfl) ?_
      refine gf_X0_40 hx hb hg hown hK hP 0 rfl rfl dX0_countDifferent_8 ?_
      refine lv_icmp_gt (tgt := 32) hx hb dX0_countDifferent_11 (by decide) (fun c11 => ?_) (fun c11 => ?_)
      · have c11 := (nI_ltI (by omega) (by omega)).mp c11
        refine lv_iload_n hx hb dX0_countDifferent_32 rfl (lv_at hl 2 rfl) ?_
        exact hret _ _ 33 _ _ hS dX0_countDifferent_33 (by rw [ff_pas, show n + 1 - q = j by omega])
      · have c11 := mt (nI_ltI (by omega) (by omega)).mpr c11
        refine lv_aload_n hx hb dX0_countDifferent_14 rfl (lv_at hl 0 rfl) ?_
        refine lv_iload_n hx hb dX0_countDifferent_15 rfl (lv_at hl 3 rfl) ?_
        refine lv_iload_n hx hb dX0_countDifferent_16 rfl (lv_at hl 1 rfl) ?_
        refine Cp.callV (As := [.int (nI j), .int (nI q)]) (rest := []) (cv_X0_45 hg ⟨Nat.le_of_ble_eq_true rfl, Nat.le_of_ble_eq_true rfl⟩) (k_X0_cameBefore l D cI a0 a1 n f j q (by omega) hn hq) cx hK hP [0, 1] rfl (rq := 0) rfl rfl rfl hS rfl hl.1 rfl (Nat.le_of_ble_eq_true rfl) dX0_countDifferent_17 ⟨Nat.zero_le _, Nat.zero_le _⟩ (fun H locs hP hS => ?_)
        refine lv_if_ne (tgt := 26) hx hb dX0_countDifferent_20 (by decide) (fun c20 => ?_) (fun c20 => ?_)
        · have c20 := bI_nz.mp c20
          have e9 : ff_ct (fun j => !ff_came f n q j) (j + 1) = ff_ct (fun j => !ff_came f n q j) j := ff_ct_f (by simp [c20])
          refine lv_iinc (v := nI (j + 1)) (lv' := [(3, .int (nI (j + 1))), (0, .ref a0), (1, .int (nI q)), (2, .int (nI (ff_ct (fun j => !ff_came f n q j) j)))]) hx hb dX0_countDifferent_26 hl (k := 3) rfl (nI_1 _) (by decide) rfl (fun ls hl => ?_)
          refine lv_goto (tgt := 4) hx hb dX0_countDifferent_29 (by decide) ?_
          rw [← e9] at hl
          exact ih_4 (j + 1) _ _ _ (by omega) (by omega) hP hS (lv_sub hl [1, 2, 3, 0] rfl)
        · have c20 := bI_z.mp c20
          have e9 : ff_ct (fun j => !ff_came f n q j) (j + 1) = ff_ct (fun j => !ff_came f n q j) j + 1 := ff_ct_t (by simpa using c20)
          refine lv_iinc (v := nI (ff_ct (fun j => !ff_came f n q j) j + 1)) (lv' := [(2, .int (nI (ff_ct (fun j => !ff_came f n q j) j + 1))), (0, .ref a0), (1, .int (nI q)), (3, .int (nI j))]) hx hb dX0_countDifferent_23 hl (k := 2) rfl (nI_1 _) (by decide) rfl (fun ls hl => ?_)
          refine lv_iinc (v := nI (j + 1)) (lv' := [(3, .int (nI (j + 1))), (2, .int (nI (ff_ct (fun j => !ff_came f n q j) j + 1))), (0, .ref a0), (1, .int (nI q))]) hx hb dX0_countDifferent_26 hl (k := 3) rfl (nI_1 _) (by decide) rfl (fun ls hl => ?_)
          refine lv_goto (tgt := 4) hx hb dX0_countDifferent_29 (by decide) ?_
          rw [← e9] at hl
          exact ih_4 (j + 1) _ _ _ (by omega) (by omega) hP hS (lv_sub hl [2, 3, 1, 0] rfl)
  exact lp_4 (_ + 1) (0) _ _ _ (Nat.zero_le _) (Nat.lt_succ_self _) hP hS (lv_sub hl [2, 3, 1, 0] rfl)

set_option maxHeartbeats 4000000 in
set_option maxRecDepth 100000 in
/-- ItemRow.repeatLength -/
theorem k_X0_repeatLength (l : Launch) (D : va_G) (cI : ClassId) (a0 a1 n : Nat) (f : Nat → Int32) (i j : Nat) (hij : i < j) (hj : j ≤ n) (hn : n ≤ 60) : Cp l yX0_repeatLength cX0_repeatLength 4 (some .int) 1 D (tI cI) [.ref a0, .int (nI i), .int (nI j)] [(a0, .inr (0, [.ref a1, .int (nI n)])), (a1, oI cI 60 f)] (nI (ff_rl f n i j)) := by
  refine Cp.of (own := RX0) (lv := [(0, .ref a0), (1, .int (nI i)), (2, .int (nI j))]) (by decide +kernel) rfl (Nat.le_of_ble_eq_true rfl) rfl (vp_nar_int _) ?_
  intro p e s m args below meth c Q cx hK hP hret ls hl
  obtain ⟨hx, hb, hml, hown, hg⟩ := id cx
  have hS : va_S (fun _ => False) s.heap s.heap [] := va_S.rf
  refine lv_iload_n hx hb dX0_repeatLength_0 rfl (lv_at hl 1 rfl) ?_
  refine lv_if_le (tgt := 27) hx hb dX0_repeatLength_1 (by decide) (fun c1 => ?_) (fun c1 => ?_)
  · have c1 := (nz_le (by omega)).mp c1
    refine lv_iconst (v := nI 0) hx hb dX0_repeatLength_27 (by decide) ?_
    refine lv_istore_n (lv' := [(3, .int (nI 0)), (0, .ref a0), (1, .int (nI i)), (2, .int (nI j))]) hx hb dX0_repeatLength_28 rfl hl (by decide) rfl (fun ls hl => ?_)
    refine lv_iload_n hx hb dX0_repeatLength_29 rfl (lv_at hl 0 rfl) ?_
    refine lv_if_eq (tgt := 37) hx hb dX0_repeatLength_30 (by decide) (fun _ => ?_) (fun h9 => absurd (by decide) h9)
    refine lv_aload_n hx hb dX0_repeatLength_37 rfl (lv_at hl 1 rfl) ?_
    refine lv_iload_n hx hb dX0_repeatLength_38 rfl (lv_at hl 2 rfl) ?_
    refine lv_iload_n hx hb dX0_repeatLength_39 rfl (lv_at hl 3 rfl) ?_
    refine Cp.callV (As := [.int (nI i), .int (nI j)]) (rest := []) (cv_X0_49 hg ⟨Nat.le_of_ble_eq_true rfl, Nat.le_of_ble_eq_true rfl⟩) (k_X0_sameRun l D cI a0 a1 n f i j hij hj hn) cx hK hP [0, 1] rfl (rq := 0) rfl rfl rfl hS rfl hl.1 rfl (Nat.le_of_ble_eq_true rfl) dX0_repeatLength_40 ⟨Nat.zero_le _, Nat.zero_le _⟩ (fun H locs hP hS => ?_)
    exact hret _ _ 43 _ _ hS dX0_repeatLength_43 (by unfold ff_rl; split <;> first | rfl | (rename_i h9; exfalso; first | exact c20 h9.2 | exact h9 ⟨by omega, c20⟩ | (have h8 := h9.1; omega)))
  · have c1 := mt (nz_le (by omega)).mpr c1
    refine lv_aload_n hx hb dX0_repeatLength_4 rfl (lv_at hl 0 rfl) ?_
    refine gf_X0_9 hx hb hg hown hK hP 0 rfl rfl dX0_repeatLength_5 ?_
    refine lv_iload_n hx hb dX0_repeatLength_8 rfl (lv_at hl 1 rfl) ?_
    refine lv_iconst (v := nI 1) hx hb dX0_repeatLength_9 (by decide) ?_
    refine lv_isub hx hb dX0_repeatLength_10 ?_
    refine lv_asi (pk_sub (by omega)) ?_
    refine ald hx hb hK hP 1 rfl rfl (by omega) dX0_repeatLength_11 ?_
    refine lv_aload_n hx hb dX0_repeatLength_12 rfl (lv_at hl 0 rfl) ?_
    refine gf_X0_9 hx hb hg hown hK hP 0 rfl rfl dX0_repeatLength_13 ?_
    refine lv_iload_n hx hb dX0_repeatLength_16 rfl (lv_at hl 2 rfl) ?_
    refine lv_iconst (v := nI 1) hx hb dX0_repeatLength_17 (by decide) ?_
    refine lv_isub hx hb dX0_repeatLength_18 ?_
    refine lv_asi (pk_sub (by omega)) ?_
    refine ald hx hb hK hP 1 rfl rfl (by omega) dX0_repeatLength_19 ?_
    refine lv_icmp_ne (tgt := 27) hx hb dX0_repeatLength_20 (by decide) (fun c20 => ?_) (fun c20 => ?_)
    · skip
      refine lv_iconst (v := nI 0) hx hb dX0_repeatLength_27 (by decide) ?_
      refine lv_istore_n (lv' := [(3, .int (nI 0)), (0, .ref a0), (1, .int (nI i)), (2, .int (nI j))]) hx hb dX0_repeatLength_28 rfl hl (by decide) rfl (fun ls hl => ?_)
      refine lv_iload_n hx hb dX0_repeatLength_29 rfl (lv_at hl 0 rfl) ?_
      refine lv_if_eq (tgt := 37) hx hb dX0_repeatLength_30 (by decide) (fun _ => ?_) (fun h9 => absurd (by decide) h9)
      refine lv_aload_n hx hb dX0_repeatLength_37 rfl (lv_at hl 1 rfl) ?_
      refine lv_iload_n hx hb dX0_repeatLength_38 rfl (lv_at hl 2 rfl) ?_
      refine lv_iload_n hx hb dX0_repeatLength_39 rfl (lv_at hl 3 rfl) ?_
      refine Cp.callV (As := [.int (nI i), .int (nI j)]) (rest := []) (cv_X0_49 hg ⟨Nat.le_of_ble_eq_true rfl, Nat.le_of_ble_eq_true rfl⟩) (k_X0_sameRun l D cI a0 a1 n f i j hij hj hn) cx hK hP [0, 1] rfl (rq := 0) rfl rfl rfl hS rfl hl.1 rfl (Nat.le_of_ble_eq_true rfl) dX0_repeatLength_40 ⟨Nat.zero_le _, Nat.zero_le _⟩ (fun H locs hP hS => ?_)
      exact hret _ _ 43 _ _ hS dX0_repeatLength_43 (by unfold ff_rl; split <;> first | rfl | (rename_i h9; exfalso; first | exact c20 h9.2 | exact h9 ⟨by omega, c20⟩ | (have h8 := h9.1; omega)))
    · skip
      refine lv_iconst (v := nI 1) hx hb dX0_repeatLength_23 (by decide) ?_
      refine lv_goto (tgt := 28) hx hb dX0_repeatLength_24 (by decide) ?_
      refine lv_istore_n (lv' := [(3, .int (nI 1)), (0, .ref a0), (1, .int (nI i)), (2, .int (nI j))]) hx hb dX0_repeatLength_28 rfl hl (by decide) rfl (fun ls hl => ?_)
      refine lv_iload_n hx hb dX0_repeatLength_29 rfl (lv_at hl 0 rfl) ?_
      refine lv_if_eq (tgt := 37) hx hb dX0_repeatLength_30 (by decide) (fun h9 => absurd h9 (by decide)) (fun _ => ?_)
      refine lv_iconst (v := nI 0) hx hb dX0_repeatLength_33 (by decide) ?_
      refine lv_goto (tgt := 43) hx hb dX0_repeatLength_34 (by decide) ?_
      exact hret _ _ 43 _ _ hS dX0_repeatLength_43 (by unfold ff_rl; split <;> first | rfl | (rename_i h9; exfalso; first | exact c20 h9.2 | exact h9 ⟨by omega, c20⟩ | (have h8 := h9.1; omega)))

set_option maxHeartbeats 4000000 in
set_option maxRecDepth 100000 in
/-- ItemRow.leastPeriod -/
theorem k_X0_leastPeriod (l : Launch) (D : va_G) (cI : ClassId) (a0 a1 n : Nat) (f : Nat → Int32) (hn : n ≤ 60) : Cp l yX0_leastPeriod cX0_leastPeriod 2 (some .int) 1 D (tI cI) [.ref a0] [(a0, .inr (0, [.ref a1, .int (nI n)])), (a1, oI cI 60 f)] (nI (ff_per f n)) := by
  refine Cp.of (own := RX0) (lv := [(0, .ref a0)]) (by decide +kernel) rfl (Nat.le_of_ble_eq_true rfl) rfl (vp_nar_int _) ?_
  intro p e s m args below meth c Q cx hK hP hret ls hl
  obtain ⟨hx, hb, hml, hown, hg⟩ := id cx
  have hS : va_S (fun _ => False) s.heap s.heap [] := va_S.rf
  refine lv_iconst (v := nI 1) hx hb dX0_leastPeriod_0 (by decide) ?_
  refine lv_istore_n (lv' := [(1, .int (nI 1)), (0, .ref a0)]) hx hb dX0_leastPeriod_1 rfl hl (by decide) rfl (fun ls hl => ?_)
  have lp_2 : ∀ (k : Nat) (q : Nat) (H : Heap) (locs : List Loc) (ls : Array Slot), (1 ≤ q) → (q ≤ n ∨ q = 1) → (ff_pl f n q (n - q) = ff_per f n) → (n - q < k) → va_P D vwCl [(a0, .inr (0, [.ref a1, .int (nI n)])), (a1, oI cI 60 f)] H → va_S (fun _ => False) s.heap H locs → lv_has ls 2 [(0, .ref a0), (1, .int (nI q))] → W p l e (rr 1 0 0) s m args below meth c H locs 0 0 Q (F0 m 2 ls []) := by
    intro k
    induction k with
    | zero =>
      intro q H locs ls hq1 hq he hk
      exact absurd hk (Nat.not_lt_zero _)
    | succ k ih_2 =>
      intro q H locs ls hq1 hq he hk hP hS hl
      refine lv_iload_n hx hb dX0_leastPeriod_2 rfl (lv_at hl 1 rfl) ?_
      refine lv_aload_n hx hb dX0_leastPeriod_3 rfl (lv_at hl 0 rfl) ?_
      refine gf_X0_40 hx hb hg hown hK hP 0 rfl rfl dX0_leastPeriod_4 ?_
      refine lv_icmp_ge (tgt := 33) hx hb dX0_leastPeriod_7 (by decide) (fun c7 => ?_) (fun c7 => ?_)
      · have c7 := (nI_leI (by omega) (by omega)).mp c7
        refine lv_aload_n hx hb dX0_leastPeriod_33 rfl (lv_at hl 0 rfl) ?_
        refine gf_X0_40 hx hb hg hown hK hP 0 rfl rfl dX0_leastPeriod_34 ?_
        exact hret _ _ 37 _ _ hS dX0_leastPeriod_37 (by rw [← he, show n - q = 0 by omega]; rfl)
      · have c7 := mt (nI_leI (by omega) (by omega)).mpr c7
        refine lv_aload_n hx hb dX0_leastPeriod_10 rfl (lv_at hl 0 rfl) ?_
        refine lv_iconst (v := nI 0) hx hb dX0_leastPeriod_11 (by decide) ?_
        refine lv_iload_n hx hb dX0_leastPeriod_12 rfl (lv_at hl 1 rfl) ?_
        refine Cp.callV (As := [.int (nI 0), .int (nI q)]) (rest := []) (cv_X0_49 hg ⟨Nat.le_of_ble_eq_true rfl, Nat.le_of_ble_eq_true rfl⟩) (k_X0_sameRun l D cI a0 a1 n f 0 q (by omega) (by omega) hn) cx hK hP [0, 1] rfl (rq := 0) rfl rfl rfl hS rfl hl.1 rfl (Nat.le_of_ble_eq_true rfl) dX0_leastPeriod_13 ⟨Nat.zero_le _, Nat.zero_le _⟩ (fun H locs hP hS => ?_)
        have hrl := ff_run_le f (n - q) 0 q
        refine lv_aload_n hx hb dX0_leastPeriod_16 rfl (lv_at hl 0 rfl) ?_
        refine gf_X0_40 hx hb hg hown hK hP 0 rfl rfl dX0_leastPeriod_17 ?_
        refine lv_iload_n hx hb dX0_leastPeriod_20 rfl (lv_at hl 1 rfl) ?_
        refine lv_isub hx hb dX0_leastPeriod_21 ?_
        refine lv_asi (pk_sub (by omega)) ?_
        refine lv_icmp_ne (tgt := 27) hx hb dX0_leastPeriod_22 (by decide) (fun c22 => ?_) (fun c22 => ?_)
        · have c22 := mt (nI_eq (by omega) (by omega)).mpr c22
          refine lv_iinc (v := nI (q + 1)) (lv' := [(1, .int (nI (q + 1))), (0, .ref a0)]) hx hb dX0_leastPeriod_27 hl (k := 1) rfl (nI_1 _) (by decide) rfl (fun ls hl => ?_)
          refine lv_goto (tgt := 2) hx hb dX0_leastPeriod_30 (by decide) ?_
          exact ih_2 (q + 1) _ _ _ (by omega) (by omega) (by rw [← he, show n - q = n - (q + 1) + 1 by omega]; show _ = if _ then _ else _; rw [if_neg (by omega)]) (by omega) hP hS (lv_sub hl [1, 0] rfl)
        · have c22 := (nI_eq (by omega) (by omega)).mp c22
          refine lv_iload_n hx hb dX0_leastPeriod_25 rfl (lv_at hl 1 rfl) ?_
          exact hret _ _ 26 _ _ hS dX0_leastPeriod_26 (by rw [← he, show n - q = n - (q + 1) + 1 by omega]; show _ = nI (if _ then _ else _); rw [if_pos (by omega)])
  exact lp_2 (_ + 1) (1) _ _ _ (Nat.le_refl _) (by omega) (rfl) (Nat.lt_succ_self _) hP hS (lv_sub hl [1, 0] rfl)

set_option maxHeartbeats 4000000 in
set_option maxRecDepth 100000 in
/-- ItemRow.countSame -/
theorem k_X0_countSame (l : Launch) (D : va_G) (cI : ClassId) (a0 a1 n : Nat) (f : Nat → Int32) (i j q : Nat) (hi : i + q ≤ 60) (hj : j + q ≤ 60) : Cp l yX0_countSame cX0_countSame 6 (some .int) 0 D (tI cI) [.ref a0, .int (nI i), .int (nI j), .int (nI q)] [(a0, .inr (0, [.ref a1, .int (nI n)])), (a1, oI cI 60 f)] (nI (ff_same f i j q)) := by
  refine Cp.of (own := RX0) (lv := [(0, .ref a0), (1, .int (nI i)), (2, .int (nI j)), (3, .int (nI q))]) (by decide +kernel) rfl (Nat.le_of_ble_eq_true rfl) rfl (vp_nar_int _) ?_
  intro p e s m args below meth c Q cx hK hP hret ls hl
  obtain ⟨hx, hb, hml, hown, hg⟩ := id cx
  have hS : va_S (fun _ => False) s.heap s.heap [] := va_S.rf
  refine lv_iconst (v := nI 0) hx hb dX0_countSame_0 (by decide) ?_
  refine lv_istore (lv' := [(4, .int (nI 0)), (0, .ref a0), (1, .int (nI i)), (2, .int (nI j)), (3, .int (nI q))]) hx hb dX0_countSame_1 hl (by decide) rfl (fun ls hl => ?_)
  refine lv_iconst (v := nI 0) hx hb dX0_countSame_3 (by decide) ?_
  refine lv_istore (lv' := [(5, .int (nI 0)), (4, .int (nI 0)), (0, .ref a0), (1, .int (nI i)), (2, .int (nI j)), (3, .int (nI q))]) hx hb dX0_countSame_4 hl (by decide) rfl (fun ls hl => ?_)
  have lp_6 : ∀ (k : Nat) (t : Nat) (H : Heap) (locs : List Loc) (ls : Array Slot), (t ≤ q) → (q - t < k) → va_P D vwCl [(a0, .inr (0, [.ref a1, .int (nI n)])), (a1, oI cI 60 f)] H → va_S (fun _ => False) s.heap H locs → lv_has ls 6 [(0, .ref a0), (1, .int (nI i)), (2, .int (nI j)), (3, .int (nI q)), (4, .int (nI (ff_same f i j t))), (5, .int (nI t))] → W p l e (rr 0 0 0) s m args below meth c H locs 0 0 Q (F0 m 6 ls []) := by
    intro k
    induction k with
    | zero =>
      intro t H locs ls ht hk
      exact absurd hk (Nat.not_lt_zero _)
    | succ k ih_6 =>
      intro t H locs ls ht hk hP hS hl
      refine lv_iload hx hb dX0_countSame_6 (lv_at hl 5 rfl) ?_
      refine lv_iload_n hx hb dX0_countSame_8 rfl (lv_at hl 3 rfl) ?_
      refine lv_icmp_ge (tgt := 42) hx hb dX0_countSame_9 (by decide) (fun c9 => ?_) (fun c9 => ?_)
      · have c9 := (nI_leI (by omega) (by omega)).mp c9
        refine lv_iload hx hb dX0_countSame_42 (lv_at hl 4 rfl) ?_
        exact hret _ _ 44 _ _ hS dX0_countSame_44 (by rw [show q = t by omega])
      · have c9 := mt (nI_leI (by omega) (by omega)).mpr c9
        refine lv_aload_n hx hb dX0_countSame_12 rfl (lv_at hl 0 rfl) ?_
        refine gf_X0_9 hx hb hg hown hK hP 0 rfl rfl dX0_countSame_13 ?_
        refine lv_iload_n hx hb dX0_countSame_16 rfl (lv_at hl 1 rfl) ?_
        refine lv_iload hx hb dX0_countSame_17 (lv_at hl 5 rfl) ?_
        refine lv_iadd hx hb dX0_countSame_19 ?_
        refine lv_asi (nI_add _ _) ?_
        refine ald hx hb hK hP 1 rfl rfl (by omega) dX0_countSame_20 ?_
        refine lv_aload_n hx hb dX0_countSame_21 rfl (lv_at hl 0 rfl) ?_
        refine gf_X0_9 hx hb hg hown hK hP 0 rfl rfl dX0_countSame_22 ?_
        refine lv_iload_n hx hb dX0_countSame_25 rfl (lv_at hl 2 rfl) ?_
        refine lv_iload hx hb dX0_countSame_26 (lv_at hl 5 rfl) ?_
        refine lv_iadd hx hb dX0_countSame_28 ?_
        refine lv_asi (nI_add _ _) ?_
        refine ald hx hb hK hP 1 rfl rfl (by omega) dX0_countSame_29 ?_
        refine lv_icmp_ne (tgt := 36) hx hb dX0_countSame_30 (by decide) (fun c30 => ?_) (fun c30 => ?_)
        · skip
          have e9 : ff_same f i j (t + 1) = ff_same f i j t := ff_ct_f (by simp [c30])
          refine lv_iinc (v := nI (t + 1)) (lv' := [(5, .int (nI (t + 1))), (0, .ref a0), (1, .int (nI i)), (2, .int (nI j)), (3, .int (nI q)), (4, .int (nI (ff_same f i j t)))]) hx hb dX0_countSame_36 hl (k := 5) rfl (nI_1 _) (by decide) rfl (fun ls hl => ?_)
          refine lv_goto (tgt := 6) hx hb dX0_countSame_39 (by decide) ?_
          rw [← e9] at hl
          exact ih_6 (t + 1) _ _ _ (by omega) (by omega) hP hS (lv_sub hl [1, 2, 3, 4, 5, 0] rfl)
        · skip
          have e9 : ff_same f i j (t + 1) = ff_same f i j t + 1 := ff_ct_t (by simp [c30])
          refine lv_iinc (v := nI (ff_same f i j t + 1)) (lv' := [(4, .int (nI (ff_same f i j t + 1))), (0, .ref a0), (1, .int (nI i)), (2, .int (nI j)), (3, .int (nI q)), (5, .int (nI t))]) hx hb dX0_countSame_33 hl (k := 4) rfl (nI_1 _) (by decide) rfl (fun ls hl => ?_)
          refine lv_iinc (v := nI (t + 1)) (lv' := [(5, .int (nI (t + 1))), (4, .int (nI (ff_same f i j t + 1))), (0, .ref a0), (1, .int (nI i)), (2, .int (nI j)), (3, .int (nI q))]) hx hb dX0_countSame_36 hl (k := 5) rfl (nI_1 _) (by decide) rfl (fun ls hl => ?_)
          refine lv_goto (tgt := 6) hx hb dX0_countSame_39 (by decide) ?_
          rw [← e9] at hl
          exact ih_6 (t + 1) _ _ _ (by omega) (by omega) hP hS (lv_sub hl [2, 3, 4, 5, 1, 0] rfl)
  exact lp_6 (_ + 1) (0) _ _ _ (Nat.zero_le _) (Nat.lt_succ_self _) hP hS (lv_sub hl [2, 3, 4, 5, 1, 0] rfl)
