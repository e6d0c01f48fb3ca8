set_option maxHeartbeats 4000000 in
set_option maxRecDepth 100000 in
theorem k_lookForSought (l : Launch) (D : va_G) (cI : ClassId) (a0 n0 t0 s0 r0 g0 p0 q0 : Nat) (n1 n2 nn : Nat) (NP NL : Nat → Int32) (s1 s2 sn : Nat) (SP SL : Nat → Int32) (p1 : Nat) (pn : Int32) (PS : Nat → Int32) (up dn : Int32) (hn : nn ≤ 60) (hs1 : 1 ≤ sn) (hs : sn ≤ 12) : Cv l yX5_lookForSought cX5_lookForSought 4 2 0 0 D (tI cI) [.ref a0, .int up, .int dn] [(a0, .inr (5, [.ref n0, .ref t0, .ref s0, .ref r0, .ref g0, .ref p0, .ref q0])), (n0, .inr (1, [.ref n1, .ref n2, .int (nI nn)])), (n1, oI cI 60 NP), (n2, oI cI 60 NL), (s0, .inr (1, [.ref s1, .ref s2, .int (nI sn)])), (s1, oI cI 60 SP), (s2, oI cI 60 SL), (p0, .inr (3, [.ref p1, .int pn])), (p1, oI cI 60 PS)] (S := Nat → Int32) (fun u => ff_hits (ff_at NP NL SP SL sn up dn) (nn + 1 - sn) u) (fun u => [(a0, .inr (5, [.ref n0, .ref t0, .ref s0, .ref r0, .ref g0, .ref p0, .ref q0])), (n0, .inr (1, [.ref n1, .ref n2, .int (nI nn)])), (n1, oI cI 60 NP), (n2, oI cI 60 NL), (s0, .inr (1, [.ref s1, .ref s2, .int (nI sn)])), (s1, oI cI 60 SP), (s2, oI cI 60 SL), (p0, .inr (3, [.ref p1, .int (nI (ff_ct (ff_at NP NL SP SL sn up dn) (nn + 1 - sn)))])), (p1, oI cI 60 u)]) := by
  refine Cv.of (own := RX5) (lv := [(0, .ref a0), (1, .int up), (2, .int dn)]) (by decide +kernel) rfl (Nat.le_of_ble_eq_true rfl) rfl ?_
  intro p e s m args below meth c Q A cx hin hK hP hD hA hret ls hl
  obtain ⟨hx, hb, hml, hown, hg⟩ := id cx
  have hS : va_S A s.heap s.heap [] := va_S.rf
  refine lv_aload_n hx hb dX5_lookForSought_0 rfl (lv_at hl 0 rfl) ?_
  refine gf_X5_39 hx hb hg hown hK hP 0 rfl rfl dX5_lookForSought_1 ?_
  refine lv_iconst (v := nI 0) hx hb dX5_lookForSought_4 (by decide) ?_
  refine pf_X5_55 hx hb hg hown hK hP hD hS 7 rfl (Nat.le_of_ble_eq_true rfl) dX5_lookForSought_5 (fun H locs hP hD hS => ?_)
  have hP : va_P D vwCl [(a0, .inr (5, [.ref n0, .ref t0, .ref s0, .ref r0, .ref g0, .ref p0, .ref q0])), (n0, .inr (1, [.ref n1, .ref n2, .int (nI nn)])), (n1, oI cI 60 NP), (n2, oI cI 60 NL), (s0, .inr (1, [.ref s1, .ref s2, .int (nI sn)])), (s1, oI cI 60 SP), (s2, oI cI 60 SL), (p0, .inr (3, [.ref p1, .int (nI 0)])), (p1, oI cI 60 PS)] H := hP
  have hD : va_D A [(a0, .inr (5, [.ref n0, .ref t0, .ref s0, .ref r0, .ref g0, .ref p0, .ref q0])), (n0, .inr (1, [.ref n1, .ref n2, .int (nI nn)])), (n1, oI cI 60 NP), (n2, oI cI 60 NL), (s0, .inr (1, [.ref s1, .ref s2, .int (nI sn)])), (s1, oI cI 60 SP), (s2, oI cI 60 SL), (p0, .inr (3, [.ref p1, .int (nI 0)])), (p1, oI cI 60 PS)] := hD
  refine lv_iconst (v := nI 0) hx hb dX5_lookForSought_8 (by decide) ?_
  refine lv_istore_n (lv' := [(3, .int (nI 0)), (0, .ref a0), (1, .int up), (2, .int dn)]) hx hb dX5_lookForSought_9 rfl hl (by decide) rfl (fun ls hl => ?_)
  have lp_10 : ∀ (k : Nat) (z : Nat) (G : Nat → Int32) (H : Heap) (locs : List Loc) (ls : Array Slot), (z ≤ nn + 1 - sn) → (ff_hits (ff_at NP NL SP SL sn up dn) z G) → (nn + 1 - sn - z < k) → va_P D vwCl [(a0, .inr (5, [.ref n0, .ref t0, .ref s0, .ref r0, .ref g0, .ref p0, .ref q0])), (n0, .inr (1, [.ref n1, .ref n2, .int (nI nn)])), (n1, oI cI 60 NP), (n2, oI cI 60 NL), (s0, .inr (1, [.ref s1, .ref s2, .int (nI sn)])), (s1, oI cI 60 SP), (s2, oI cI 60 SL), (p0, .inr (3, [.ref p1, .int (nI (ff_ct (ff_at NP NL SP SL sn up dn) z))])), (p1, oI cI 60 G)] H → va_D A [(a0, .inr (5, [.ref n0, .ref t0, .ref s0, .ref r0, .ref g0, .ref p0, .ref q0])), (n0, .inr (1, [.ref n1, .ref n2, .int (nI nn)])), (n1, oI cI 60 NP), (n2, oI cI 60 NL), (s0, .inr (1, [.ref s1, .ref s2, .int (nI sn)])), (s1, oI cI 60 SP), (s2, oI cI 60 SL), (p0, .inr (3, [.ref p1, .int (nI (ff_ct (ff_at NP NL SP SL sn up dn) z))])), (p1, oI cI 60 G)] → va_S A s.heap H locs → lv_has ls 4 [(0, .ref a0), (1, .int up), (2, .int dn), (3, .int (nI z))] → W p l e (rr 2 0 0) s m args below meth c H locs 0 0 Q (F0 m 10 ls []) := by
    intro k
    induction k with
    | zero =>
      intro z G H locs ls hz hG hk
      exact absurd hk (Nat.not_lt_zero _)
    | succ k ih_10 =>
      intro z G H locs ls hz hG hk hP hD hS hl
      have hcz := ff_ct_le (ff_at NP NL SP SL sn up dn) z
      refine lv_iload_n hx hb dX5_lookForSought_10 rfl (lv_at hl 3 rfl) ?_
      refine lv_aload_n hx hb dX5_lookForSought_11 rfl (lv_at hl 0 rfl) ?_
      refine gf_X5_19 hx hb hg hown hK hP 0 rfl rfl dX5_lookForSought_12 ?_
      refine gf_X5_50 hx hb hg hown hK hP 4 rfl rfl dX5_lookForSought_15 ?_
      refine lv_iadd hx hb dX5_lookForSought_18 ?_
      refine lv_asi (nI_add _ _) ?_
      refine lv_aload_n hx hb dX5_lookForSought_19 rfl (lv_at hl 0 rfl) ?_
      refine gf_X5_10 hx hb hg hown hK hP 0 rfl rfl dX5_lookForSought_20 ?_
      refine gf_X5_50 hx hb hg hown hK hP 1 rfl rfl dX5_lookForSought_23 ?_
      refine lv_icmp_gt (tgt := 53) hx hb dX5_lookForSought_26 (by decide) (fun c26 => ?_) (fun c26 => ?_)
      · have c26 := (nI_ltI (by omega) (by omega)).mp c26
        obtain rfl : z = nn + 1 - sn := by omega
        exact hret _ _ 53 _ (_) (hG) hP hD hS dX5_lookForSought_53
      · have c26 := mt (nI_ltI (by omega) (by omega)).mpr c26
        refine lv_aload_n hx hb dX5_lookForSought_29 rfl (lv_at hl 0 rfl) ?_
        refine lv_iload_n hx hb dX5_lookForSought_30 rfl (lv_at hl 3 rfl) ?_
        refine lv_iload_n hx hb dX5_lookForSought_31 rfl (lv_at hl 1 rfl) ?_
        refine lv_iload_n hx hb dX5_lookForSought_32 rfl (lv_at hl 2 rfl) ?_
        refine Cp.callV (As := [.int (nI z), .int up, .int dn]) (rest := []) (cv_X5_198 hg ⟨Nat.le_of_ble_eq_true rfl, Nat.le_of_ble_eq_true rfl⟩) (k_isSoughtAt l D cI a0 n0 t0 s0 r0 g0 p0 q0 n1 n2 nn NP NL s1 s2 sn SP SL z up dn (by omega) hn hs) cx hK hP [0, 1, 2, 3, 4, 5, 6] rfl (rq := 0) rfl rfl rfl hS rfl hl.1 rfl (Nat.le_of_ble_eq_true rfl) dX5_lookForSought_33 ⟨Nat.zero_le _, Nat.zero_le _⟩ (fun H locs hP hS => ?_)
        refine lv_if_eq (tgt := 47) hx hb dX5_lookForSought_36 (by decide) (fun c36 => ?_) (fun c36 => ?_)
        · have c36 := bI_z.mp c36
          have e9 : ff_ct (ff_at NP NL SP SL sn up dn) (z + 1) = ff_ct (ff_at NP NL SP SL sn up dn) z := ff_ct_f c36
          refine lv_iinc (v := nI (z + 1)) (lv' := [(3, .int (nI (z + 1))), (0, .ref a0), (1, .int up), (2, .int dn)]) hx hb dX5_lookForSought_47 hl (k := 3) rfl (nI_1 _) (by decide) rfl (fun ls hl => ?_)
          refine lv_goto (tgt := 10) hx hb dX5_lookForSought_50 (by decide) ?_
          rw [← e9] at hP hD
          exact ih_10 (z + 1) (_) _ _ _ (by omega) (by first | exact ff_hits_t hG | exact ff_hits_f hG (by simpa using c36)) (by omega) hP hD hS (lv_sub hl [1, 2, 3, 0] rfl)
        · have c36 := bI_nz.mp c36
          have e9 : ff_ct (ff_at NP NL SP SL sn up dn) (z + 1) = ff_ct (ff_at NP NL SP SL sn up dn) z + 1 := ff_ct_t c36
          refine lv_aload_n hx hb dX5_lookForSought_39 rfl (lv_at hl 0 rfl) ?_
          refine gf_X5_39 hx hb hg hown hK hP 0 rfl rfl dX5_lookForSought_40 ?_
          refine lv_iload_n hx hb dX5_lookForSought_43 rfl (lv_at hl 3 rfl) ?_
          refine Cv.callV (As := [.int (nI z)]) (rest := []) (wr := [(a0, .inr (5, [.ref n0, .ref t0, .ref s0, .ref r0, .ref g0, .ref p0, .ref q0])), (n0, .inr (1, [.ref n1, .ref n2, .int (nI nn)])), (n1, oI cI 60 NP), (n2, oI cI 60 NL), (s0, .inr (1, [.ref s1, .ref s2, .int (nI sn)])), (s1, oI cI 60 SP), (s2, oI cI 60 SL)]) (wn := (fun u44 => [(a0, .inr (5, [.ref n0, .ref t0, .ref s0, .ref r0, .ref g0, .ref p0, .ref q0])), (n0, .inr (1, [.ref n1, .ref n2, .int (nI nn)])), (n1, oI cI 60 NP), (n2, oI cI 60 NL), (s0, .inr (1, [.ref s1, .ref s2, .int (nI sn)])), (s1, oI cI 60 SP), (s2, oI cI 60 SL), (p0, .inr (3, [.ref p1, .int (nI (ff_ct (ff_at NP NL SP SL sn up dn) z + 1))])), (p1, oI cI 60 (upd G (ff_ct (ff_at NP NL SP SL sn up dn) z) (nI z)))])) (cv_X5_201 hg ⟨Nat.le_of_ble_eq_true rfl, Nat.le_of_ble_eq_true rfl⟩) (k_X3_append l D cI p0 p1 (ff_ct (ff_at NP NL SP SL sn up dn) z) G (nI z) (by omega)) cx hK hP hD hA [7, 8] [0, 1, 2, 3, 4, 5, 6] [0, 1, 2, 3, 4, 5, 6, 7, 8] rfl rfl (by decide) (fun _ => rfl) (rq := 0) rfl rfl rfl hS rfl hl.1 rfl (Nat.le_of_ble_eq_true rfl) dX5_lookForSought_44 ⟨Nat.le_refl _, Nat.le_refl _⟩ (fun H locs u44 p44 hP hD hS => ?_)
          refine lv_iinc (v := nI (z + 1)) (lv' := [(3, .int (nI (z + 1))), (0, .ref a0), (1, .int up), (2, .int dn)]) hx hb dX5_lookForSought_47 hl (k := 3) rfl (nI_1 _) (by decide) rfl (fun ls hl => ?_)
          refine lv_goto (tgt := 10) hx hb dX5_lookForSought_50 (by decide) ?_
          rw [← e9] at hP hD
          exact ih_10 (z + 1) (_) _ _ _ (by omega) (by first | exact ff_hits_t hG | exact ff_hits_f hG (by simpa using c36)) (by omega) hP hD hS (lv_sub hl [1, 2, 3, 0] rfl)
  exact lp_10 (_ + 1) (0) (PS) _ _ _ (Nat.zero_le _) (ff_hits_0 _ _) (Nat.lt_succ_self _) hP hD hS (lv_sub hl [1, 2, 3, 0] rfl)
