set_option maxHeartbeats 4000000 in
set_option maxRecDepth 100000 in
theorem k_X2_isBetter (l : Launch) (D : va_G) (cI : ClassId) (a0 a1 a2 a3 a4 : Nat) (z w : Int32) (ST lc fw fe : Nat → Int32) (q : Nat) (x y : Int32) (hq : q < 60) : Cp l yX2_isBetter cX2_isBetter 4 (some .boolean) 0 D (tI cI) [.ref a0, .int (nI q), .int x, .int y] [(a0, .inr (2, [.ref a1, .int z, .int w, .ref a2, .ref a3, .ref a4])), (a1, oI cI 60 ST), (a2, oI cI 61 lc), (a3, oI cI 61 fw), (a4, oI cI 61 fe)] (bI (x < lc q ∨ (x = lc q ∧ y < fw q))) := by
  refine Cp.of (own := RX2) (lv := [(0, .ref a0), (1, .int (nI q)), (2, .int x), (3, .int y)]) (by decide +kernel) rfl (Nat.le_of_ble_eq_true rfl) rfl (bI_nar _) ?_
  intro p e s m args below meth c Q cx hK hP hret ls hl
  obtain ⟨hx, hb, hml, hown, hg⟩ := id cx
  have hS : va_S (fun _ => False) s.heap s.heap [] := va_S.rf
  refine lv_iload_n hx hb dX2_isBetter_0 rfl (lv_at hl 2 rfl) ?_
  refine lv_aload_n hx hb dX2_isBetter_1 rfl (lv_at hl 0 rfl) ?_
  refine gf_X2_15 hx hb hg hown hK hP 0 rfl rfl dX2_isBetter_2 ?_
  refine lv_iload_n hx hb dX2_isBetter_5 rfl (lv_at hl 1 rfl) ?_
  refine ald hx hb hK hP 2 rfl rfl (by omega) dX2_isBetter_6 ?_
  refine lv_icmp_lt (tgt := 30) hx hb dX2_isBetter_7 (by decide) (fun c7 => ?_) (fun c7 => ?_)
  · skip
    refine lv_iconst (v := nI 1) hx hb dX2_isBetter_30 (by decide) ?_
    refine lv_goto (tgt := 35) hx hb dX2_isBetter_31 (by decide) ?_
    exact hret _ _ 35 _ _ hS dX2_isBetter_35 (by first | exact bI_1 (Or.inl c7) | exact bI_1 (Or.inr ⟨c17, i_nle.mp c27⟩) | exact bI_0 (fun h => h.elim c7 (fun h => c17 h.1)) | exact bI_0 (fun h => h.elim c7 (fun h => i_nlt.mpr c27 h.2)))
  · skip
    refine lv_iload_n hx hb dX2_isBetter_10 rfl (lv_at hl 2 rfl) ?_
    refine lv_aload_n hx hb dX2_isBetter_11 rfl (lv_at hl 0 rfl) ?_
    refine gf_X2_15 hx hb hg hown hK hP 0 rfl rfl dX2_isBetter_12 ?_
    refine lv_iload_n hx hb dX2_isBetter_15 rfl (lv_at hl 1 rfl) ?_
    refine ald hx hb hK hP 2 rfl rfl (by omega) dX2_isBetter_16 ?_
    refine lv_icmp_ne (tgt := 34) hx hb dX2_isBetter_17 (by decide) (fun c17 => ?_) (fun c17 => ?_)
    · skip
      refine lv_iconst (v := nI 0) hx hb dX2_isBetter_34 (by decide) ?_
      exact hret _ _ 35 _ _ hS dX2_isBetter_35 (by first | exact bI_1 (Or.inl c7) | exact bI_1 (Or.inr ⟨c17, i_nle.mp c27⟩) | exact bI_0 (fun h => h.elim c7 (fun h => c17 h.1)) | exact bI_0 (fun h => h.elim c7 (fun h => i_nlt.mpr c27 h.2)))
    · skip
      refine lv_iload_n hx hb dX2_isBetter_20 rfl (lv_at hl 3 rfl) ?_
      refine lv_aload_n hx hb dX2_isBetter_21 rfl (lv_at hl 0 rfl) ?_
      refine gf_X2_18 hx hb hg hown hK hP 0 rfl rfl dX2_isBetter_22 ?_
      refine lv_iload_n hx hb dX2_isBetter_25 rfl (lv_at hl 1 rfl) ?_
      refine ald hx hb hK hP 3 rfl rfl (by omega) dX2_isBetter_26 ?_
      refine lv_icmp_ge (tgt := 34) hx hb dX2_isBetter_27 (by decide) (fun c27 => ?_) (fun c27 => ?_)
      · skip
        refine lv_iconst (v := nI 0) hx hb dX2_isBetter_34 (by decide) ?_
        exact hret _ _ 35 _ _ hS dX2_isBetter_35 (by first | exact bI_1 (Or.inl c7) | exact bI_1 (Or.inr ⟨c17, i_nle.mp c27⟩) | exact bI_0 (fun h => h.elim c7 (fun h => c17 h.1)) | exact bI_0 (fun h => h.elim c7 (fun h => i_nlt.mpr c27 h.2)))
      · skip
        refine lv_iconst (v := nI 1) hx hb dX2_isBetter_30 (by decide) ?_
        refine lv_goto (tgt := 35) hx hb dX2_isBetter_31 (by decide) ?_
        exact hret _ _ 35 _ _ hS dX2_isBetter_35 (by first | exact bI_1 (Or.inl c7) | exact bI_1 (Or.inr ⟨c17, i_nle.mp c27⟩) | exact bI_0 (fun h => h.elim c7 (fun h => c17 h.1)) | exact bI_0 (fun h => h.elim c7 (fun h => i_nlt.mpr c27 h.2)))

set_option maxHeartbeats 4000000 in
set_option maxRecDepth 100000 in
theorem k_X2_weighFrom (l : Launch) (D : va_G) (cI : ClassId) (a0 a1 a2 a3 a4 : Nat) (z w : Int32) (ST lc fw fe : Nat → Int32) (b0 b1 b2 n : Nat) (P L : Nat → Int32) (s9 : Nat) (base bw : Int32) (hs9 : s9 < n) (hn : n ≤ 60) : Cv l yX2_weighFrom cX2_weighFrom 10 1 0 0 D (tI cI) [.ref a0, .ref b0, .int (nI s9), .int base, .int bw] [(a0, .inr (2, [.ref a1, .int z, .int w, .ref a2, .ref a3, .ref a4])), (a1, oI cI 60 ST), (a2, oI cI 61 lc), (a3, oI cI 61 fw), (a4, oI cI 61 fe), (b0, .inr (1, [.ref b1, .ref b2, .int (nI n)])), (b1, oI cI 60 P), (b2, oI cI 60 L)] (S := (Nat → Int32) × (Nat → Int32) × (Nat → Int32)) (fun u => (∀ x, ¬ x = s9 → u.1 x = lc x ∧ u.2.1 x = fw x ∧ u.2.2 x = fe x) ∧ u.1 s9 = (ff_bs (ff_C base bw P lc s9) (ff_W fw s9) s9 (n - s9)).1 ∧ u.2.1 s9 = (ff_bs (ff_C base bw P lc s9) (ff_W fw s9) s9 (n - s9)).2.1 ∧ u.2.2 s9 = nI (ff_bs (ff_C base bw P lc s9) (ff_W fw s9) s9 (n - s9)).2.2) (fun u => [(a0, .inr (2, [.ref a1, .int z, .int w, .ref a2, .ref a3, .ref a4])), (a1, oI cI 60 ST), (a2, oI cI 61 (u.1)), (a3, oI cI 61 (u.2.1)), (a4, oI cI 61 (u.2.2)), (b0, .inr (1, [.ref b1, .ref b2, .int (nI n)])), (b1, oI cI 60 P), (b2, oI cI 60 L)]) := by
  refine Cv.of (own := RX2) (lv := [(0, .ref a0), (1, .ref b0), (2, .int (nI s9)), (3, .int base), (4, .int bw)]) (by decide +kernel) rfl (Nat.le_of_ble_eq_true rfl) rfl ?_
  intro p e s m args below meth c Q A cx hin hK hP hD hA hret ls hl
  obtain ⟨hx, hb, hml, hown, hg⟩ := id cx
  have hS : va_S A s.heap s.heap [] := va_S.rf
  refine lv_aload_n hx hb dX2_weighFrom_0 rfl (lv_at hl 1 rfl) ?_
  refine gf_X2_38 hx hb hg hown hK hP 5 rfl rfl dX2_weighFrom_1 ?_
  refine lv_iload_n hx hb dX2_weighFrom_4 rfl (lv_at hl 2 rfl) ?_
  refine ald hx hb hK hP 6 rfl rfl (by omega) dX2_weighFrom_5 ?_
  refine lv_istore (lv' := [(5, .int ((P s9))), (0, .ref a0), (1, .ref b0), (2, .int (nI s9)), (3, .int base), (4, .int bw)]) hx hb dX2_weighFrom_6 hl (by decide) rfl (fun ls hl => ?_)
  refine lv_iload hx hb dX2_weighFrom_8 (lv_at hl 0 rfl) ?_
  refine lv_istore (lv' := [(6, .int ((P s9))), (5, .int ((P s9))), (0, .ref a0), (1, .ref b0), (2, .int (nI s9)), (3, .int base), (4, .int bw)]) hx hb dX2_weighFrom_10 hl (by decide) rfl (fun ls hl => ?_)
  refine lv_iload_n hx hb dX2_weighFrom_12 rfl (lv_at hl 4 rfl) ?_
  refine lv_iconst (v := nI 1) hx hb dX2_weighFrom_13 (by decide) ?_
  refine lv_iadd hx hb dX2_weighFrom_14 ?_
  refine lv_asi (nI_add _ _) ?_
  refine lv_istore (lv' := [(7, .int (nI (s9 + 1))), (6, .int ((P s9))), (5, .int ((P s9))), (0, .ref a0), (1, .ref b0), (2, .int (nI s9)), (3, .int base), (4, .int bw)]) hx hb dX2_weighFrom_15 hl (by decide) rfl (fun ls hl => ?_)
  have lp_17 : ∀ (k : Nat) (t : Nat) (LC : Nat → Int32) (FW : Nat → Int32) (FE : Nat → Int32) (H : Heap) (locs : List Loc) (ls : Array Slot), (s9 + t ≤ n) → (∀ x, ¬ x = s9 → LC x = lc x ∧ FW x = fw x ∧ FE x = fe x) → (1 ≤ t → LC s9 = (ff_bs (ff_C base bw P lc s9) (ff_W fw s9) s9 t).1 ∧ FW s9 = (ff_bs (ff_C base bw P lc s9) (ff_W fw s9) s9 t).2.1 ∧ FE s9 = nI (ff_bs (ff_C base bw P lc s9) (ff_W fw s9) s9 t).2.2) → (n - s9 - t < k) → va_P D vwCl [(a0, .inr (2, [.ref a1, .int z, .int w, .ref a2, .ref a3, .ref a4])), (a1, oI cI 60 ST), (a2, oI cI 61 LC), (a3, oI cI 61 FW), (a4, oI cI 61 FE), (b0, .inr (1, [.ref b1, .ref b2, .int (nI n)])), (b1, oI cI 60 P), (b2, oI cI 60 L)] H → va_D A [(a0, .inr (2, [.ref a1, .int z, .int w, .ref a2, .ref a3, .ref a4])), (a1, oI cI 60 ST), (a2, oI cI 61 LC), (a3, oI cI 61 FW), (a4, oI cI 61 FE), (b0, .inr (1, [.ref b1, .ref b2, .int (nI n)])), (b1, oI cI 60 P), (b2, oI cI 60 L)] → va_S A s.heap H locs → lv_has ls 10 [(0, .ref a0), (1, .ref b0), (2, .int (nI s9)), (3, .int base), (4, .int bw), (5, .int ((ff_mx P s9 t))), (6, .int ((ff_mn P s9 t))), (7, .int (nI (s9 + 1 + t)))] → W p l e (rr 1 0 0) s m args below meth c H locs 0 0 Q (F0 m 17 ls []) := by
    intro k
    induction k with
    | zero =>
      intro t LC FW FE H locs ls ht hx1 hx2 hk
      exact absurd hk (Nat.not_lt_zero _)
    | succ k ih_17 =>
      intro t LC FW FE H locs ls ht hx1 hx2 hk hP hD hS hl
      refine lv_iload hx hb dX2_weighFrom_17 (lv_at hl 7 rfl) ?_
      refine lv_aload_n hx hb dX2_weighFrom_19 rfl (lv_at hl 1 rfl) ?_
      refine gf_X2_24 hx hb hg hown hK hP 5 rfl rfl dX2_weighFrom_20 ?_
      refine lv_icmp_gt (tgt := 139) hx hb dX2_weighFrom_23 (by decide) (fun c23 => ?_) (fun c23 => ?_)
      · have c23 := (nI_ltI (by omega) (by omega)).mp c23
        obtain rfl : t = n - s9 := by omega
        exact hret _ _ 139 _ ((_, _, _)) (⟨hx1, hx2 (by omega)⟩) hP hD hS dX2_weighFrom_139
      · have c23 := mt (nI_ltI (by omega) (by omega)).mpr c23
        refine lv_iload hx hb dX2_weighFrom_26 (lv_at hl 5 rfl) ?_
        refine lv_aload_n hx hb dX2_weighFrom_28 rfl (lv_at hl 1 rfl) ?_
        refine gf_X2_38 hx hb hg hown hK hP 5 rfl rfl dX2_weighFrom_29 ?_
        refine lv_iload hx hb dX2_weighFrom_32 (lv_at hl 7 rfl) ?_
        refine lv_iconst (v := nI 1) hx hb dX2_weighFrom_34 (by decide) ?_
        refine lv_isub hx hb dX2_weighFrom_35 ?_
        refine lv_asi (pk_sub (by omega)) ?_
        refine ald hx hb hK hP 6 rfl rfl (by omega) dX2_weighFrom_36 ?_
        refine va_mmax hx hb (hml.trans hl.1.symm) hown (hg _ wd_ml_X2_41) (hg _ wd_st_J9_max_7cf53) (hg _ wd_in_J9) (hg _ wd_co_J9_max_7cf53) (Nat.le_of_ble_eq_true rfl) (Nat.le_of_ble_eq_true rfl) (Nat.zero_le _) (Nat.zero_le _) dX2_weighFrom_37 ?_
        refine lv_asi (y := (ff_mx P s9 (t + 1))) (by rw [show s9 + 1 + t - 1 = s9 + t by omega]; rfl) ?_
        refine lv_istore (lv' := [(5, .int ((ff_mx P s9 (t + 1)))), (0, .ref a0), (1, .ref b0), (2, .int (nI s9)), (3, .int base), (4, .int bw), (6, .int ((ff_mn P s9 t))), (7, .int (nI (s9 + 1 + t)))]) hx hb dX2_weighFrom_40 hl (by decide) rfl (fun ls hl => ?_)
        refine lv_iload hx hb dX2_weighFrom_42 (lv_at hl 6 rfl) ?_
        refine lv_aload_n hx hb dX2_weighFrom_44 rfl (lv_at hl 2 rfl) ?_
        refine gf_X2_38 hx hb hg hown hK hP 5 rfl rfl dX2_weighFrom_45 ?_
        refine lv_iload hx hb dX2_weighFrom_48 (lv_at hl 7 rfl) ?_
        refine lv_iconst (v := nI 1) hx hb dX2_weighFrom_50 (by decide) ?_
        refine lv_isub hx hb dX2_weighFrom_51 ?_
        refine lv_asi (pk_sub (by omega)) ?_
        refine ald hx hb hK hP 6 rfl rfl (by omega) dX2_weighFrom_52 ?_
        refine va_mmin hx hb (hml.trans hl.1.symm) hown (hg _ wd_ml_X2_47) (hg _ wd_st_J9_min_7cf53) (hg _ wd_in_J9) (hg _ wd_co_J9_min_7cf53) (Nat.le_of_ble_eq_true rfl) (Nat.le_of_ble_eq_true rfl) (Nat.zero_le _) (Nat.zero_le _) dX2_weighFrom_53 ?_
        refine lv_asi (y := (ff_mn P s9 (t + 1))) (by rw [show s9 + 1 + t - 1 = s9 + t by omega]; rfl) ?_
        refine lv_istore (lv' := [(6, .int ((ff_mn P s9 (t + 1)))), (5, .int ((ff_mx P s9 (t + 1)))), (0, .ref a0), (1, .ref b0), (2, .int (nI s9)), (3, .int base), (4, .int bw), (7, .int (nI (s9 + 1 + t)))]) hx hb dX2_weighFrom_56 hl (by decide) rfl (fun ls hl => ?_)
        refine lv_iload_n hx hb dX2_weighFrom_58 rfl (lv_at hl 5 rfl) ?_
        refine lv_iload hx hb dX2_weighFrom_59 (lv_at hl 6 rfl) ?_
        refine lv_iload hx hb dX2_weighFrom_61 (lv_at hl 1 rfl) ?_
        refine lv_iload hx hb dX2_weighFrom_63 (lv_at hl 0 rfl) ?_
        refine lv_isub hx hb dX2_weighFrom_65 ?_
        refine lv_imul hx hb dX2_weighFrom_66 ?_
        refine lv_iadd hx hb dX2_weighFrom_67 ?_
        refine lv_aload_n hx hb dX2_weighFrom_68 rfl (lv_at hl 2 rfl) ?_
        refine gf_X2_15 hx hb hg hown hK hP 0 rfl rfl dX2_weighFrom_69 ?_
        refine lv_iload hx hb dX2_weighFrom_72 (lv_at hl 7 rfl) ?_
        refine ald hx hb hK hP 2 rfl rfl (by omega) dX2_weighFrom_74 ?_
        refine lv_asi (y := (lc (s9 + (t + 1)))) (by rw [show s9 + 1 + t = s9 + (t + 1) by omega]; exact (hx1 _ (by omega)).1) ?_
        refine lv_iadd hx hb dX2_weighFrom_75 ?_
        refine lv_asi (y := (ff_C base bw P lc s9 (t + 1))) (rfl) ?_
        refine lv_istore (lv' := [(8, .int ((ff_C base bw P lc s9 (t + 1)))), (6, .int ((ff_mn P s9 (t + 1)))), (5, .int ((ff_mx P s9 (t + 1)))), (0, .ref a0), (1, .ref b0), (2, .int (nI s9)), (3, .int base), (4, .int bw), (7, .int (nI (s9 + 1 + t)))]) hx hb dX2_weighFrom_76 hl (by decide) rfl (fun ls hl => ?_)
        refine lv_iconst (v := nI 1) hx hb dX2_weighFrom_78 (by decide) ?_
        refine lv_aload_n hx hb dX2_weighFrom_79 rfl (lv_at hl 3 rfl) ?_
        refine gf_X2_18 hx hb hg hown hK hP 0 rfl rfl dX2_weighFrom_80 ?_
        refine lv_iload hx hb dX2_weighFrom_83 (lv_at hl 8 rfl) ?_
        refine ald hx hb hK hP 3 rfl rfl (by omega) dX2_weighFrom_85 ?_
        refine lv_asi (y := (fw (s9 + (t + 1)))) (by rw [show s9 + 1 + t = s9 + (t + 1) by omega]; exact (hx1 _ (by omega)).2.1) ?_
        refine lv_iadd hx hb dX2_weighFrom_86 ?_
        refine lv_asi (y := (ff_W fw s9 (t + 1))) (rfl) ?_
        refine lv_istore (lv' := [(9, .int ((ff_W fw s9 (t + 1)))), (8, .int ((ff_C base bw P lc s9 (t + 1)))), (6, .int ((ff_mn P s9 (t + 1)))), (5, .int ((ff_mx P s9 (t + 1)))), (0, .ref a0), (1, .ref b0), (2, .int (nI s9)), (3, .int base), (4, .int bw), (7, .int (nI (s9 + 1 + t)))]) hx hb dX2_weighFrom_87 hl (by decide) rfl (fun ls hl => ?_)
        refine lv_iload hx hb dX2_weighFrom_89 (lv_at hl 9 rfl) ?_
        refine lv_iload_n hx hb dX2_weighFrom_91 rfl (lv_at hl 6 rfl) ?_
        refine lv_iconst (v := nI 1) hx hb dX2_weighFrom_92 (by decide) ?_
        refine lv_iadd hx hb dX2_weighFrom_93 ?_
        refine lv_asi (nI_add _ _) ?_
        refine lv_icmp_eq (tgt := 109) hx hb dX2_weighFrom_94 (by decide) (fun c94 => ?_) (fun c94 => ?_)
        · have c94 := (nI_eq (by omega) (by omega)).mp c94
          refine lv_aload_n hx hb dX2_weighFrom_109 rfl (lv_at hl 4 rfl) ?_
          refine gf_X2_15 hx hb hg hown hK hP 0 rfl rfl dX2_weighFrom_110 ?_
          refine lv_iload_n hx hb dX2_weighFrom_113 rfl (lv_at hl 6 rfl) ?_
          refine lv_iload hx hb dX2_weighFrom_114 (lv_at hl 1 rfl) ?_
          refine ast hx hb hK hP hD hS 2 rfl rfl (by omega) dX2_weighFrom_116 (fun H locs hP hD hS => ?_)
          have hP : va_P D vwCl [(a0, .inr (2, [.ref a1, .int z, .int w, .ref a2, .ref a3, .ref a4])), (a1, oI cI 60 ST), (a2, oI cI 61 (upd LC s9 ((ff_C base bw P lc s9 (t + 1))))), (a3, oI cI 61 FW), (a4, oI cI 61 FE), (b0, .inr (1, [.ref b1, .ref b2, .int (nI n)])), (b1, oI cI 60 P), (b2, oI cI 60 L)] H := hP
          have hD : va_D A [(a0, .inr (2, [.ref a1, .int z, .int w, .ref a2, .ref a3, .ref a4])), (a1, oI cI 60 ST), (a2, oI cI 61 (upd LC s9 ((ff_C base bw P lc s9 (t + 1))))), (a3, oI cI 61 FW), (a4, oI cI 61 FE), (b0, .inr (1, [.ref b1, .ref b2, .int (nI n)])), (b1, oI cI 60 P), (b2, oI cI 60 L)] := hD
          refine lv_aload_n hx hb dX2_weighFrom_117 rfl (lv_at hl 4 rfl) ?_
          refine gf_X2_18 hx hb hg hown hK hP 0 rfl rfl dX2_weighFrom_118 ?_
          refine lv_iload_n hx hb dX2_weighFrom_121 rfl (lv_at hl 6 rfl) ?_
          refine lv_iload hx hb dX2_weighFrom_122 (lv_at hl 0 rfl) ?_
          refine ast hx hb hK hP hD hS 3 rfl rfl (by omega) dX2_weighFrom_124 (fun H locs hP hD hS => ?_)
          have hP : va_P D vwCl [(a0, .inr (2, [.ref a1, .int z, .int w, .ref a2, .ref a3, .ref a4])), (a1, oI cI 60 ST), (a2, oI cI 61 (upd LC s9 ((ff_C base bw P lc s9 (t + 1))))), (a3, oI cI 61 (upd FW s9 ((ff_W fw s9 (t + 1))))), (a4, oI cI 61 FE), (b0, .inr (1, [.ref b1, .ref b2, .int (nI n)])), (b1, oI cI 60 P), (b2, oI cI 60 L)] H := hP
          have hD : va_D A [(a0, .inr (2, [.ref a1, .int z, .int w, .ref a2, .ref a3, .ref a4])), (a1, oI cI 60 ST), (a2, oI cI 61 (upd LC s9 ((ff_C base bw P lc s9 (t + 1))))), (a3, oI cI 61 (upd FW s9 ((ff_W fw s9 (t + 1))))), (a4, oI cI 61 FE), (b0, .inr (1, [.ref b1, .ref b2, .int (nI n)])), (b1, oI cI 60 P), (b2, oI cI 60 L)] := hD
          refine lv_aload_n hx hb dX2_weighFrom_125 rfl (lv_at hl 4 rfl) ?_
          refine gf_X2_21 hx hb hg hown hK hP 0 rfl rfl dX2_weighFrom_126 ?_
          refine lv_iload_n hx hb dX2_weighFrom_129 rfl (lv_at hl 6 rfl) ?_
          refine lv_iload hx hb dX2_weighFrom_130 (lv_at hl 9 rfl) ?_
          refine ast hx hb hK hP hD hS 4 rfl rfl (by omega) dX2_weighFrom_132 (fun H locs hP hD hS => ?_)
          have hP : va_P D vwCl [(a0, .inr (2, [.ref a1, .int z, .int w, .ref a2, .ref a3, .ref a4])), (a1, oI cI 60 ST), (a2, oI cI 61 (upd LC s9 ((ff_C base bw P lc s9 (t + 1))))), (a3, oI cI 61 (upd FW s9 ((ff_W fw s9 (t + 1))))), (a4, oI cI 61 (upd FE s9 (nI (s9 + 1 + t)))), (b0, .inr (1, [.ref b1, .ref b2, .int (nI n)])), (b1, oI cI 60 P), (b2, oI cI 60 L)] H := hP
          have hD : va_D A [(a0, .inr (2, [.ref a1, .int z, .int w, .ref a2, .ref a3, .ref a4])), (a1, oI cI 60 ST), (a2, oI cI 61 (upd LC s9 ((ff_C base bw P lc s9 (t + 1))))), (a3, oI cI 61 (upd FW s9 ((ff_W fw s9 (t + 1))))), (a4, oI cI 61 (upd FE s9 (nI (s9 + 1 + t)))), (b0, .inr (1, [.ref b1, .ref b2, .int (nI n)])), (b1, oI cI 60 P), (b2, oI cI 60 L)] := hD
          refine lv_iinc (v := nI (s9 + 1 + t + 1)) (lv' := [(7, .int (nI (s9 + 1 + t + 1))), (9, .int ((ff_W fw s9 (t + 1)))), (8, .int ((ff_C base bw P lc s9 (t + 1)))), (6, .int ((ff_mn P s9 (t + 1)))), (5, .int ((ff_mx P s9 (t + 1)))), (0, .ref a0), (1, .ref b0), (2, .int (nI s9)), (3, .int base), (4, .int bw)]) hx hb dX2_weighFrom_133 hl (k := 9) rfl (nI_1 _) (by decide) rfl (fun ls hl => ?_)
          refine lv_goto (tgt := 17) hx hb dX2_weighFrom_136 (by decide) ?_
          rw [show s9 + 1 + t + 1 = s9 + 1 + (t + 1) by omega] at hl
          exact ih_17 (t + 1) (_) (_) (_) _ _ _ (by omega) (by first | exact ff_w1 hx1 | exact hx1) (fun _ => by first | exact ff_w2 (Or.inl (by omega)) | exact ff_w2 (Or.inr (ff_w3 (hx2 (by omega)) c106)) | exact ff_w4 (hx2 (by omega)) (by omega) c106) (by omega) hP hD hS (lv_sub hl [5, 6, 7, 8, 9, 4, 3, 0] rfl)
        · have c94 := mt (nI_eq (by omega) (by omega)).mpr c94
          refine lv_aload_n hx hb dX2_weighFrom_97 rfl (lv_at hl 4 rfl) ?_
          refine lv_iload_n hx hb dX2_weighFrom_98 rfl (lv_at hl 6 rfl) ?_
          refine lv_iload hx hb dX2_weighFrom_99 (lv_at hl 1 rfl) ?_
          refine lv_iload hx hb dX2_weighFrom_101 (lv_at hl 0 rfl) ?_
          refine Cp.callV (As := [.int (nI s9), .int ((ff_C base bw P lc s9 (t + 1))), .int ((ff_W fw s9 (t + 1)))]) (rest := []) (cv_X2_50 hg ⟨Nat.le_of_ble_eq_true rfl, Nat.le_of_ble_eq_true rfl⟩) (k_X2_isBetter l D cI a0 a1 a2 a3 a4 z w ST LC FW FE s9 (ff_C base bw P lc s9 (t + 1)) (ff_W fw s9 (t + 1)) (by omega)) cx hK hP [0, 1, 2, 3, 4] rfl (rq := 0) rfl rfl rfl hS rfl hl.1 rfl (Nat.le_of_ble_eq_true rfl) dX2_weighFrom_103 ⟨Nat.zero_le _, Nat.zero_le _⟩ (fun H locs hP hS => ?_)
          refine lv_if_eq (tgt := 133) hx hb dX2_weighFrom_106 (by decide) (fun c106 => ?_) (fun c106 => ?_)
          · have c106 := bI_z.mp c106
            refine lv_iinc (v := nI (s9 + 1 + t + 1)) (lv' := [(7, .int (nI (s9 + 1 + t + 1))), (9, .int ((ff_W fw s9 (t + 1)))), (8, .int ((ff_C base bw P lc s9 (t + 1)))), (6, .int ((ff_mn P s9 (t + 1)))), (5, .int ((ff_mx P s9 (t + 1)))), (0, .ref a0), (1, .ref b0), (2, .int (nI s9)), (3, .int base), (4, .int bw)]) hx hb dX2_weighFrom_133 hl (k := 9) rfl (nI_1 _) (by decide) rfl (fun ls hl => ?_)
            refine lv_goto (tgt := 17) hx hb dX2_weighFrom_136 (by decide) ?_
            rw [show s9 + 1 + t + 1 = s9 + 1 + (t + 1) by omega] at hl
            exact ih_17 (t + 1) (_) (_) (_) _ _ _ (by omega) (by first | exact ff_w1 hx1 | exact hx1) (fun _ => by first | exact ff_w2 (Or.inl (by omega)) | exact ff_w2 (Or.inr (ff_w3 (hx2 (by omega)) c106)) | exact ff_w4 (hx2 (by omega)) (by omega) c106) (by omega) hP hD hS (lv_sub hl [5, 6, 7, 8, 9, 4, 3, 0] rfl)
          · have c106 := bI_nz.mp c106
            refine lv_aload_n hx hb dX2_weighFrom_109 rfl (lv_at hl 4 rfl) ?_
            refine gf_X2_15 hx hb hg hown hK hP 0 rfl rfl dX2_weighFrom_110 ?_
            refine lv_iload_n hx hb dX2_weighFrom_113 rfl (lv_at hl 6 rfl) ?_
            refine lv_iload hx hb dX2_weighFrom_114 (lv_at hl 1 rfl) ?_
            refine ast hx hb hK hP hD hS 2 rfl rfl (by omega) dX2_weighFrom_116 (fun H locs hP hD hS => ?_)
            have hP : va_P D vwCl [(a0, .inr (2, [.ref a1, .int z, .int w, .ref a2, .ref a3, .ref a4])), (a1, oI cI 60 ST), (a2, oI cI 61 (upd LC s9 ((ff_C base bw P lc s9 (t + 1))))), (a3, oI cI 61 FW), (a4, oI cI 61 FE), (b0, .inr (1, [.ref b1, .ref b2, .int (nI n)])), (b1, oI cI 60 P), (b2, oI cI 60 L)] H := hP
            have hD : va_D A [(a0, .inr (2, [.ref a1, .int z, .int w, .ref a2, .ref a3, .ref a4])), (a1, oI cI 60 ST), (a2, oI cI 61 (upd LC s9 ((ff_C base bw P lc s9 (t + 1))))), (a3, oI cI 61 FW), (a4, oI cI 61 FE), (b0, .inr (1, [.ref b1, .ref b2, .int (nI n)])), (b1, oI cI 60 P), (b2, oI cI 60 L)] := hD
            refine lv_aload_n hx hb dX2_weighFrom_117 rfl (lv_at hl 4 rfl) ?_
            refine gf_X2_18 hx hb hg hown hK hP 0 rfl rfl dX2_weighFrom_118 ?_
            refine lv_iload_n hx hb dX2_weighFrom_121 rfl (lv_at hl 6 rfl) ?_
            refine lv_iload hx hb dX2_weighFrom_122 (lv_at hl 0 rfl) ?_
            refine ast hx hb hK hP hD hS 3 rfl rfl (by omega) dX2_weighFrom_124 (fun H locs hP hD hS => ?_)
            have hP : va_P D vwCl [(a0, .inr (2, [.ref a1, .int z, .int w, .ref a2, .ref a3, .ref a4])), (a1, oI cI 60 ST), (a2, oI cI 61 (upd LC s9 ((ff_C base bw P lc s9 (t + 1))))), (a3, oI cI 61 (upd FW s9 ((ff_W fw s9 (t + 1))))), (a4, oI cI 61 FE), (b0, .inr (1, [.ref b1, .ref b2, .int (nI n)])), (b1, oI cI 60 P), (b2, oI cI 60 L)] H := hP
            have hD : va_D A [(a0, .inr (2, [.ref a1, .int z, .int w, .ref a2, .ref a3, .ref a4])), (a1, oI cI 60 ST), (a2, oI cI 61 (upd LC s9 ((ff_C base bw P lc s9 (t + 1))))), (a3, oI cI 61 (upd FW s9 ((ff_W fw s9 (t + 1))))), (a4, oI cI 61 FE), (b0, .inr (1, [.ref b1, .ref b2, .int (nI n)])), (b1, oI cI 60 P), (b2, oI cI 60 L)] := hD
            refine lv_aload_n hx hb dX2_weighFrom_125 rfl (lv_at hl 4 rfl) ?_
            refine gf_X2_21 hx hb hg hown hK hP 0 rfl rfl dX2_weighFrom_126 ?_
            refine lv_iload_n hx hb dX2_weighFrom_129 rfl (lv_at hl 6 rfl) ?_
            refine lv_iload hx hb dX2_weighFrom_130 (lv_at hl 9 rfl) ?_
            refine ast hx hb hK hP hD hS 4 rfl rfl (by omega) dX2_weighFrom_132 (fun H locs hP hD hS => ?_)
            have hP : va_P D vwCl [(a0, .inr (2, [.ref a1, .int z, .int w, .ref a2, .ref a3, .ref a4])), (a1, oI cI 60 ST), (a2, oI cI 61 (upd LC s9 ((ff_C base bw P lc s9 (t + 1))))), (a3, oI cI 61 (upd FW s9 ((ff_W fw s9 (t + 1))))), (a4, oI cI 61 (upd FE s9 (nI (s9 + 1 + t)))), (b0, .inr (1, [.ref b1, .ref b2, .int (nI n)])), (b1, oI cI 60 P), (b2, oI cI 60 L)] H := hP
            have hD : va_D A [(a0, .inr (2, [.ref a1, .int z, .int w, .ref a2, .ref a3, .ref a4])), (a1, oI cI 60 ST), (a2, oI cI 61 (upd LC s9 ((ff_C base bw P lc s9 (t + 1))))), (a3, oI cI 61 (upd FW s9 ((ff_W fw s9 (t + 1))))), (a4, oI cI 61 (upd FE s9 (nI (s9 + 1 + t)))), (b0, .inr (1, [.ref b1, .ref b2, .int (nI n)])), (b1, oI cI 60 P), (b2, oI cI 60 L)] := hD
            refine lv_iinc (v := nI (s9 + 1 + t + 1)) (lv' := [(7, .int (nI (s9 + 1 + t + 1))), (9, .int ((ff_W fw s9 (t + 1)))), (8, .int ((ff_C base bw P lc s9 (t + 1)))), (6, .int ((ff_mn P s9 (t + 1)))), (5, .int ((ff_mx P s9 (t + 1)))), (0, .ref a0), (1, .ref b0), (2, .int (nI s9)), (3, .int base), (4, .int bw)]) hx hb dX2_weighFrom_133 hl (k := 9) rfl (nI_1 _) (by decide) rfl (fun ls hl => ?_)
            refine lv_goto (tgt := 17) hx hb dX2_weighFrom_136 (by decide) ?_
            rw [show s9 + 1 + t + 1 = s9 + 1 + (t + 1) by omega] at hl
            exact ih_17 (t + 1) (_) (_) (_) _ _ _ (by omega) (by first | exact ff_w1 hx1 | exact hx1) (fun _ => by first | exact ff_w2 (Or.inl (by omega)) | exact ff_w2 (Or.inr (ff_w3 (hx2 (by omega)) c106)) | exact ff_w4 (hx2 (by omega)) (by omega) c106) (by omega) hP hD hS (lv_sub hl [5, 6, 7, 8, 9, 4, 3, 0] rfl)
  exact lp_17 (_ + 1) (0) (lc) (fw) (fe) _ _ _ (by omega) (fun x _ => ⟨rfl, rfl, rfl⟩) (fun h => absurd h (by omega)) (Nat.lt_succ_self _) hP hD hS (lv_sub hl [3, 4, 5, 6, 7, 2, 1, 0] rfl)

set_option maxHeartbeats 4000000 in
set_option maxRecDepth 100000 in
theorem k_X2_part (l : Launch) (D : va_G) (cI : ClassId) (a0 a1 a2 a3 a4 : Nat) (z w : Int32) (ST lc fw fe : Nat → Int32) (b0 b1 b2 n : Nat) (P L : Nat → Int32) (base bw : Int32) (hn : n ≤ 60) : Cv l yX2_part cX2_part 6 2 0 0 D (tI cI) [.ref a0, .ref b0, .int base, .int bw] [(a0, .inr (2, [.ref a1, .int z, .int w, .ref a2, .ref a3, .ref a4])), (a1, oI cI 60 ST), (a2, oI cI 61 lc), (a3, oI cI 61 fw), (a4, oI cI 61 fe), (b0, .inr (1, [.ref b1, .ref b2, .int (nI n)])), (b1, oI cI 60 P), (b2, oI cI 60 L)] (S := (Nat → Int32) × (Nat → Int32) × (Nat → Int32) × (Nat → Int32)) (fun u => ∀ t, t < ff_sn P n base bw → u.1 t = nI (ff_ch (ff_D P n base bw n).2.2 t 0)) (fun u => [(a0, .inr (2, [.ref a1, .int (nI (ff_sn P n base bw)), .int (((ff_D P n base bw n).1 0)), .ref a2, .ref a3, .ref a4])), (a1, oI cI 60 (u.1)), (a2, oI cI 61 (u.2.1)), (a3, oI cI 61 (u.2.2.1)), (a4, oI cI 61 (u.2.2.2)), (b0, .inr (1, [.ref b1, .ref b2, .int (nI n)])), (b1, oI cI 60 P), (b2, oI cI 60 L)]) := by
  refine Cv.of (own := RX2) (lv := [(0, .ref a0), (1, .ref b0), (2, .int base), (3, .int bw)]) (by decide +kernel) rfl (Nat.le_of_ble_eq_true rfl) rfl ?_
  intro p e s m args below meth c Q A cx hin hK hP hD hA hret ls hl
  obtain ⟨hx, hb, hml, hown, hg⟩ := id cx
  have hS : va_S A s.heap s.heap [] := va_S.rf
  refine lv_aload_n hx hb dX2_part_0 rfl (lv_at hl 0 rfl) ?_
  refine gf_X2_15 hx hb hg hown hK hP 0 rfl rfl dX2_part_1 ?_
  refine lv_aload_n hx hb dX2_part_4 rfl (lv_at hl 1 rfl) ?_
  refine gf_X2_24 hx hb hg hown hK hP 5 rfl rfl dX2_part_5 ?_
  refine lv_iconst (v := nI 0) hx hb dX2_part_8 (by decide) ?_
  refine ast hx hb hK hP hD hS 2 rfl rfl (by omega) dX2_part_9 (fun H locs hP hD hS => ?_)
  have hP : va_P D vwCl [(a0, .inr (2, [.ref a1, .int z, .int w, .ref a2, .ref a3, .ref a4])), (a1, oI cI 60 ST), (a2, oI cI 61 (upd lc n (nI 0))), (a3, oI cI 61 fw), (a4, oI cI 61 fe), (b0, .inr (1, [.ref b1, .ref b2, .int (nI n)])), (b1, oI cI 60 P), (b2, oI cI 60 L)] H := hP
  have hD : va_D A [(a0, .inr (2, [.ref a1, .int z, .int w, .ref a2, .ref a3, .ref a4])), (a1, oI cI 60 ST), (a2, oI cI 61 (upd lc n (nI 0))), (a3, oI cI 61 fw), (a4, oI cI 61 fe), (b0, .inr (1, [.ref b1, .ref b2, .int (nI n)])), (b1, oI cI 60 P), (b2, oI cI 60 L)] := hD
  refine lv_aload_n hx hb dX2_part_10 rfl (lv_at hl 0 rfl) ?_
  refine gf_X2_18 hx hb hg hown hK hP 0 rfl rfl dX2_part_11 ?_
  refine lv_aload_n hx hb dX2_part_14 rfl (lv_at hl 1 rfl) ?_
  refine gf_X2_24 hx hb hg hown hK hP 5 rfl rfl dX2_part_15 ?_
  refine lv_iconst (v := nI 0) hx hb dX2_part_18 (by decide) ?_
  refine ast hx hb hK hP hD hS 3 rfl rfl (by omega) dX2_part_19 (fun H locs hP hD hS => ?_)
  have hP : va_P D vwCl [(a0, .inr (2, [.ref a1, .int z, .int w, .ref a2, .ref a3, .ref a4])), (a1, oI cI 60 ST), (a2, oI cI 61 (upd lc n (nI 0))), (a3, oI cI 61 (upd fw n (nI 0))), (a4, oI cI 61 fe), (b0, .inr (1, [.ref b1, .ref b2, .int (nI n)])), (b1, oI cI 60 P), (b2, oI cI 60 L)] H := hP
  have hD : va_D A [(a0, .inr (2, [.ref a1, .int z, .int w, .ref a2, .ref a3, .ref a4])), (a1, oI cI 60 ST), (a2, oI cI 61 (upd lc n (nI 0))), (a3, oI cI 61 (upd fw n (nI 0))), (a4, oI cI 61 fe), (b0, .inr (1, [.ref b1, .ref b2, .int (nI n)])), (b1, oI cI 60 P), (b2, oI cI 60 L)] := hD
  refine lv_aload_n hx hb dX2_part_20 rfl (lv_at hl 1 rfl) ?_
  refine gf_X2_24 hx hb hg hown hK hP 5 rfl rfl dX2_part_21 ?_
  refine lv_iconst (v := nI 1) hx hb dX2_part_24 (by decide) ?_
  refine lv_isub hx hb dX2_part_25 ?_
  refine lv_istore (lv' := [(4, .int ((nI n - nI 1))), (0, .ref a0), (1, .ref b0), (2, .int base), (3, .int bw)]) hx hb dX2_part_26 hl (by decide) rfl (fun ls hl => ?_)
  have lp_28 : ∀ (k : Nat) (d : Nat) (LC : Nat → Int32) (FW : Nat → Int32) (FE : Nat → Int32) (H : Heap) (locs : List Loc) (ls : Array Slot), (d ≤ n) → (ff_Dok P n base bw (n - d) LC FW FE) → (d < k) → va_P D vwCl [(a0, .inr (2, [.ref a1, .int z, .int w, .ref a2, .ref a3, .ref a4])), (a1, oI cI 60 ST), (a2, oI cI 61 LC), (a3, oI cI 61 FW), (a4, oI cI 61 FE), (b0, .inr (1, [.ref b1, .ref b2, .int (nI n)])), (b1, oI cI 60 P), (b2, oI cI 60 L)] H → va_D A [(a0, .inr (2, [.ref a1, .int z, .int w, .ref a2, .ref a3, .ref a4])), (a1, oI cI 60 ST), (a2, oI cI 61 LC), (a3, oI cI 61 FW), (a4, oI cI 61 FE), (b0, .inr (1, [.ref b1, .ref b2, .int (nI n)])), (b1, oI cI 60 P), (b2, oI cI 60 L)] → va_S A s.heap H locs → lv_has ls 6 [(0, .ref a0), (1, .ref b0), (2, .int base), (3, .int bw), (4, .int ((nI d - nI 1)))] → W p l e (rr 2 0 0) s m args below meth c H locs 0 0 Q (F0 m 28 ls []) := by
    intro k
    induction k with
    | zero =>
      intro d LC FW FE H locs ls hd hdk hk
      exact absurd hk (Nat.not_lt_zero _)
    | succ k ih_28 =>
      intro d LC FW FE H locs ls hd hdk hk hP hD hS hl
      refine lv_iload hx hb dX2_part_28 (lv_at hl 4 rfl) ?_
      refine lv_if_lt (tgt := 48) hx hb dX2_part_30 (by decide) (fun c30 => ?_) (fun c30 => ?_)
      · skip
        have c30 := (ff_dm (by omega)).mp c30
        subst c30
        rw [Nat.sub_zero] at hdk
        obtain ⟨hz1, hz2, hz3, hz4⟩ := ff_sn_ok P base bw hn
        refine lv_aload_n hx hb dX2_part_48 rfl (lv_at hl 0 rfl) ?_
        refine lv_aload_n hx hb dX2_part_49 rfl (lv_at hl 0 rfl) ?_
        refine gf_X2_15 hx hb hg hown hK hP 0 rfl rfl dX2_part_50 ?_
        refine lv_iconst (v := nI 0) hx hb dX2_part_53 (by decide) ?_
        refine ald hx hb hK hP 2 rfl rfl (by omega) dX2_part_54 ?_
        refine lv_asi (y := ((ff_D P n base bw n).1 0)) ((hdk 0 (by omega) (by omega)).1) ?_
        refine pf_X2_34 hx hb hg hown hK hP hD hS 0 rfl (Nat.le_of_ble_eq_true rfl) dX2_part_55 (fun H locs hP hD hS => ?_)
        have hP : va_P D vwCl [(a0, .inr (2, [.ref a1, .int z, .int (((ff_D P n base bw n).1 0)), .ref a2, .ref a3, .ref a4])), (a1, oI cI 60 ST), (a2, oI cI 61 LC), (a3, oI cI 61 FW), (a4, oI cI 61 FE), (b0, .inr (1, [.ref b1, .ref b2, .int (nI n)])), (b1, oI cI 60 P), (b2, oI cI 60 L)] H := hP
        have hD : va_D A [(a0, .inr (2, [.ref a1, .int z, .int (((ff_D P n base bw n).1 0)), .ref a2, .ref a3, .ref a4])), (a1, oI cI 60 ST), (a2, oI cI 61 LC), (a3, oI cI 61 FW), (a4, oI cI 61 FE), (b0, .inr (1, [.ref b1, .ref b2, .int (nI n)])), (b1, oI cI 60 P), (b2, oI cI 60 L)] := hD
        refine lv_aload_n hx hb dX2_part_58 rfl (lv_at hl 0 rfl) ?_
        refine lv_aload_n hx hb dX2_part_59 rfl (lv_at hl 0 rfl) ?_
        refine gf_X2_18 hx hb hg hown hK hP 0 rfl rfl dX2_part_60 ?_
        refine lv_iconst (v := nI 0) hx hb dX2_part_63 (by decide) ?_
        refine ald hx hb hK hP 3 rfl rfl (by omega) dX2_part_64 ?_
        refine lv_asi (y := nI (ff_sn P n base bw)) (by rw [(hdk 0 (by omega) (by omega)).2.1, hz2]) ?_
        refine pf_X2_37 hx hb hg hown hK hP hD hS 0 rfl (Nat.le_of_ble_eq_true rfl) dX2_part_65 (fun H locs hP hD hS => ?_)
        have hP : va_P D vwCl [(a0, .inr (2, [.ref a1, .int (nI (ff_sn P n base bw)), .int (((ff_D P n base bw n).1 0)), .ref a2, .ref a3, .ref a4])), (a1, oI cI 60 ST), (a2, oI cI 61 LC), (a3, oI cI 61 FW), (a4, oI cI 61 FE), (b0, .inr (1, [.ref b1, .ref b2, .int (nI n)])), (b1, oI cI 60 P), (b2, oI cI 60 L)] H := hP
        have hD : va_D A [(a0, .inr (2, [.ref a1, .int (nI (ff_sn P n base bw)), .int (((ff_D P n base bw n).1 0)), .ref a2, .ref a3, .ref a4])), (a1, oI cI 60 ST), (a2, oI cI 61 LC), (a3, oI cI 61 FW), (a4, oI cI 61 FE), (b0, .inr (1, [.ref b1, .ref b2, .int (nI n)])), (b1, oI cI 60 P), (b2, oI cI 60 L)] := hD
        refine lv_iconst (v := nI 0) hx hb dX2_part_68 (by decide) ?_
        refine lv_istore (lv' := [(4, .int (nI 0)), (0, .ref a0), (1, .ref b0), (2, .int base), (3, .int bw)]) hx hb dX2_part_69 hl (by decide) rfl (fun ls hl => ?_)
        refine lv_iconst (v := nI 0) hx hb dX2_part_71 (by decide) ?_
        refine lv_istore (lv' := [(5, .int (nI 0)), (4, .int (nI 0)), (0, .ref a0), (1, .ref b0), (2, .int base), (3, .int bw)]) hx hb dX2_part_72 hl (by decide) rfl (fun ls hl => ?_)
        have lp_74 : ∀ (k : Nat) (q : Nat) (S9 : Nat → Int32) (H : Heap) (locs : List Loc) (ls : Array Slot), (q ≤ ff_sn P n base bw) → (∀ t, t < q → S9 t = nI (ff_ch (ff_D P n base bw n).2.2 t 0)) → (ff_sn P n base bw - q < k) → va_P D vwCl [(a0, .inr (2, [.ref a1, .int (nI (ff_sn P n base bw)), .int (((ff_D P n base bw n).1 0)), .ref a2, .ref a3, .ref a4])), (a1, oI cI 60 S9), (a2, oI cI 61 LC), (a3, oI cI 61 FW), (a4, oI cI 61 FE), (b0, .inr (1, [.ref b1, .ref b2, .int (nI n)])), (b1, oI cI 60 P), (b2, oI cI 60 L)] H → va_D A [(a0, .inr (2, [.ref a1, .int (nI (ff_sn P n base bw)), .int (((ff_D P n base bw n).1 0)), .ref a2, .ref a3, .ref a4])), (a1, oI cI 60 S9), (a2, oI cI 61 LC), (a3, oI cI 61 FW), (a4, oI cI 61 FE), (b0, .inr (1, [.ref b1, .ref b2, .int (nI n)])), (b1, oI cI 60 P), (b2, oI cI 60 L)] → va_S A s.heap H locs → lv_has ls 6 [(0, .ref a0), (1, .ref b0), (2, .int base), (3, .int bw), (4, .int (nI (ff_ch (ff_D P n base bw n).2.2 q 0))), (5, .int (nI q))] → W p l e (rr 2 0 0) s m args below meth c H locs 0 0 Q (F0 m 74 ls []) := by
          intro k
          induction k with
          | zero =>
            intro q S9 H locs ls hq he hk
            exact absurd hk (Nat.not_lt_zero _)
          | succ k ih_74 =>
            intro q S9 H locs ls hq he hk hP hD hS hl
            refine lv_iload hx hb dX2_part_74 (lv_at hl 5 rfl) ?_
            refine lv_aload_n hx hb dX2_part_76 rfl (lv_at hl 0 rfl) ?_
            refine gf_X2_37 hx hb hg hown hK hP 0 rfl rfl dX2_part_77 ?_
            refine lv_icmp_ge (tgt := 107) hx hb dX2_part_80 (by decide) (fun c80 => ?_) (fun c80 => ?_)
            · have c80 := (nI_leI (by omega) (by omega)).mp c80
              obtain rfl : q = ff_sn P n base bw := by omega
              exact hret _ _ 107 _ ((_, _, _, _)) (he) hP hD hS dX2_part_107
            · have c80 := mt (nI_leI (by omega) (by omega)).mpr c80
              have hlt9 := hz4 q (by omega)
              refine lv_aload_n hx hb dX2_part_83 rfl (lv_at hl 0 rfl) ?_
              refine gf_X2_9 hx hb hg hown hK hP 0 rfl rfl dX2_part_84 ?_
              refine lv_iload hx hb dX2_part_87 (lv_at hl 5 rfl) ?_
              refine lv_iload hx hb dX2_part_89 (lv_at hl 4 rfl) ?_
              refine ast hx hb hK hP hD hS 1 rfl rfl (by omega) dX2_part_91 (fun H locs hP hD hS => ?_)
              have hP : va_P D vwCl [(a0, .inr (2, [.ref a1, .int (nI (ff_sn P n base bw)), .int (((ff_D P n base bw n).1 0)), .ref a2, .ref a3, .ref a4])), (a1, oI cI 60 (upd S9 q (nI (ff_ch (ff_D P n base bw n).2.2 q 0)))), (a2, oI cI 61 LC), (a3, oI cI 61 FW), (a4, oI cI 61 FE), (b0, .inr (1, [.ref b1, .ref b2, .int (nI n)])), (b1, oI cI 60 P), (b2, oI cI 60 L)] H := hP
              have hD : va_D A [(a0, .inr (2, [.ref a1, .int (nI (ff_sn P n base bw)), .int (((ff_D P n base bw n).1 0)), .ref a2, .ref a3, .ref a4])), (a1, oI cI 60 (upd S9 q (nI (ff_ch (ff_D P n base bw n).2.2 q 0)))), (a2, oI cI 61 LC), (a3, oI cI 61 FW), (a4, oI cI 61 FE), (b0, .inr (1, [.ref b1, .ref b2, .int (nI n)])), (b1, oI cI 60 P), (b2, oI cI 60 L)] := hD
              refine lv_aload_n hx hb dX2_part_92 rfl (lv_at hl 0 rfl) ?_
              refine gf_X2_21 hx hb hg hown hK hP 0 rfl rfl dX2_part_93 ?_
              refine lv_iload hx hb dX2_part_96 (lv_at hl 4 rfl) ?_
              refine ald hx hb hK hP 4 rfl rfl (by omega) dX2_part_98 ?_
              refine lv_asi (y := nI (ff_ch (ff_D P n base bw n).2.2 (q + 1) 0)) ((hdk _ (by omega) (by omega)).2.2 hlt9) ?_
              refine lv_istore (lv' := [(4, .int (nI (ff_ch (ff_D P n base bw n).2.2 (q + 1) 0))), (0, .ref a0), (1, .ref b0), (2, .int base), (3, .int bw), (5, .int (nI q))]) hx hb dX2_part_99 hl (by decide) rfl (fun ls hl => ?_)
              refine lv_iinc (v := nI (q + 1)) (lv' := [(5, .int (nI (q + 1))), (4, .int (nI (ff_ch (ff_D P n base bw n).2.2 (q + 1) 0))), (0, .ref a0), (1, .ref b0), (2, .int base), (3, .int bw)]) hx hb dX2_part_101 hl (k := 5) rfl (nI_1 _) (by decide) rfl (fun ls hl => ?_)
              refine lv_goto (tgt := 74) hx hb dX2_part_104 (by decide) ?_
              exact ih_74 (q + 1) (_) _ _ _ (by omega) (fun t ht => by by_cases h : t = q <;> first | (subst h; exact pk_us) | (rw [pk_un h]; exact he t (by omega))) (by omega) hP hD hS (lv_sub hl [2, 3, 4, 5, 1, 0] rfl)
        exact lp_74 (_ + 1) (0) (ST) _ _ _ (Nat.zero_le _) (fun t h => absurd h (Nat.not_lt_zero _)) (Nat.lt_succ_self _) hP hD hS (lv_sub hl [2, 3, 4, 5, 1, 0] rfl)
      · skip
        have c30 := mt (ff_dm (by omega)).mpr c30
        obtain ⟨d9, rfl⟩ : ∃ d9, d = d9 + 1 := ⟨d - 1, by omega⟩
        rw [show nI (d9 + 1) - nI 1 = nI d9 from pk_sub (by omega)] at hl
        refine lv_aload_n hx hb dX2_part_33 rfl (lv_at hl 0 rfl) ?_
        refine lv_aload_n hx hb dX2_part_34 rfl (lv_at hl 1 rfl) ?_
        refine lv_iload hx hb dX2_part_35 (lv_at hl 4 rfl) ?_
        refine lv_iload_n hx hb dX2_part_37 rfl (lv_at hl 2 rfl) ?_
        refine lv_iload_n hx hb dX2_part_38 rfl (lv_at hl 3 rfl) ?_
        refine Cv.callV (As := [.ref b0, .int (nI d9), .int base, .int bw]) (rest := []) (wr := []) (wn := (fun uw => [(a0, .inr (2, [.ref a1, .int z, .int w, .ref a2, .ref a3, .ref a4])), (a1, oI cI 60 ST), (a2, oI cI 61 (uw.1)), (a3, oI cI 61 (uw.2.1)), (a4, oI cI 61 (uw.2.2)), (b0, .inr (1, [.ref b1, .ref b2, .int (nI n)])), (b1, oI cI 60 P), (b2, oI cI 60 L)])) (cv_X2_30 hg ⟨Nat.le_of_ble_eq_true rfl, Nat.le_of_ble_eq_true rfl⟩) (k_X2_weighFrom l D cI a0 a1 a2 a3 a4 z w ST LC FW FE b0 b1 b2 n P L d9 base bw (by omega) hn) cx hK hP hD hA [0, 1, 2, 3, 4, 5, 6, 7] [] [0, 1, 2, 3, 4, 5, 6, 7] rfl rfl (by decide) (fun _ => rfl) (rq := 0) rfl rfl rfl hS rfl hl.1 rfl (Nat.le_of_ble_eq_true rfl) dX2_part_39 ⟨Nat.le_refl _, Nat.le_refl _⟩ (fun H locs uw p39 hP hD hS => ?_)
        refine lv_iinc (v := (nI d9 - nI 1)) (lv' := [(4, .int ((nI d9 - nI 1))), (0, .ref a0), (1, .ref b0), (2, .int base), (3, .int bw)]) hx hb dX2_part_42 hl (k := 4) rfl (by rw [Int32.sub_eq_add_neg]; rfl) (by decide) rfl (fun ls hl => ?_)
        refine lv_goto (tgt := 28) hx hb dX2_part_45 (by decide) ?_
        exact ih_28 (d9) (_) (_) (_) _ _ _ (by omega) (ff_Dok_d (by omega) hdk p39) (by omega) hP hD hS (lv_sub hl [1, 2, 3, 4, 0] rfl)
  exact lp_28 (_ + 1) (n) (_) (_) (_) _ _ _ (Nat.le_refl _) (ff_Dok_0 _ _ _) (Nat.lt_succ_self _) hP hD hS (lv_sub hl [1, 2, 3, 4, 0] rfl)
