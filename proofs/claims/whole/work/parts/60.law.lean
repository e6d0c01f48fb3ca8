/-! the law's loop: the worlds of both sides, the reads of the script -/
abbrev lwA (s : State) : Nat → Prop := fun q => s.heap.size ≤ q
abbrev lwF (cI : ClassId) (fa : Nat → Nat) (u : ff_S) : va_W := [((fa 0), .inr (5, [.ref (fa 1), .ref (fa 4), .ref (fa 7), .ref (fa 10), .ref (fa 12), .ref (fa 15), .ref (fa 17)])), ((fa 1), .inr (1, [.ref (fa 2), .ref (fa 3), .int (nI (u.1 0))])), ((fa 2), oI cI 60 (u.2.2 0)), ((fa 3), oI cI 60 (u.2.2 1)), ((fa 4), .inr (1, [.ref (fa 5), .ref (fa 6), .int (nI (u.1 1))])), ((fa 5), oI cI 60 (u.2.2 2)), ((fa 6), oI cI 60 (u.2.2 3)), ((fa 7), .inr (1, [.ref (fa 8), .ref (fa 9), .int (nI (u.1 2))])), ((fa 8), oI cI 60 (u.2.2 4)), ((fa 9), oI cI 60 (u.2.2 5)), ((fa 10), .inr (0, [.ref (fa 11), .int ((u.2.1 0))])), ((fa 11), oI cI 60 (u.2.2 6)), ((fa 12), .inr (4, [.ref (fa 13), .ref (fa 14), .int (nI (u.1 3))])), ((fa 13), oI cI 2700 (u.2.2 7)), ((fa 14), oI cI 60 (u.2.2 8)), ((fa 15), .inr (3, [.ref (fa 16), .int (nI (u.1 4))])), ((fa 16), oI cI 60 (u.2.2 9)), ((fa 17), .inr (2, [.ref (fa 18), .int (nI (u.1 5)), .int ((u.2.1 1)), .ref (fa 19), .ref (fa 20), .ref (fa 21)])), ((fa 18), oI cI 60 (u.2.2 10)), ((fa 19), oI cI 61 (u.2.2 11)), ((fa 20), oI cI 61 (u.2.2 12)), ((fa 21), oI cI 61 (u.2.2 13))]
abbrev lwM (cI : ClassId) (ma : Nat → Nat) (v : ff_S) : va_W := [((ma 0), .inr (6, [.int ((v.2.1 0)), .int (nI (v.1 0)), .ref (ma 1), .ref (ma 2), .int (nI (v.1 1)), .ref (ma 3), .int (nI (v.1 2)), .ref (ma 4), .ref (ma 5), .int (nI (v.1 3)), .ref (ma 6), .int (nI (v.1 4)), .int ((v.2.1 1)), .ref (ma 7), .ref (ma 8), .ref (ma 9), .ref (ma 10), .ref (ma 11)])), ((ma 1), oI cI 60 (v.2.2 0)), ((ma 2), oI cI 60 (v.2.2 1)), ((ma 3), oI cI 5400 (v.2.2 2)), ((ma 4), oI cI 12 (v.2.2 3)), ((ma 5), oI cI 12 (v.2.2 4)), ((ma 6), oI cI 60 (v.2.2 5)), ((ma 7), oI cI 60 (v.2.2 6)), ((ma 8), oI cI 12 (v.2.2 7)), ((ma 9), oI cI 61 (v.2.2 8)), ((ma 10), oI cI 61 (v.2.2 9)), ((ma 11), oI cI 61 (v.2.2 10))]
abbrev lwW (cI cJ : ClassId) (fa ma : Nat → Nat) (o0 : Nat) (u v : ff_S) (g : Nat → Int64) : va_W := [((fa 0), .inr (5, [.ref (fa 1), .ref (fa 4), .ref (fa 7), .ref (fa 10), .ref (fa 12), .ref (fa 15), .ref (fa 17)])), ((fa 1), .inr (1, [.ref (fa 2), .ref (fa 3), .int (nI (u.1 0))])), ((fa 2), oI cI 60 (u.2.2 0)), ((fa 3), oI cI 60 (u.2.2 1)), ((fa 4), .inr (1, [.ref (fa 5), .ref (fa 6), .int (nI (u.1 1))])), ((fa 5), oI cI 60 (u.2.2 2)), ((fa 6), oI cI 60 (u.2.2 3)), ((fa 7), .inr (1, [.ref (fa 8), .ref (fa 9), .int (nI (u.1 2))])), ((fa 8), oI cI 60 (u.2.2 4)), ((fa 9), oI cI 60 (u.2.2 5)), ((fa 10), .inr (0, [.ref (fa 11), .int ((u.2.1 0))])), ((fa 11), oI cI 60 (u.2.2 6)), ((fa 12), .inr (4, [.ref (fa 13), .ref (fa 14), .int (nI (u.1 3))])), ((fa 13), oI cI 2700 (u.2.2 7)), ((fa 14), oI cI 60 (u.2.2 8)), ((fa 15), .inr (3, [.ref (fa 16), .int (nI (u.1 4))])), ((fa 16), oI cI 60 (u.2.2 9)), ((fa 17), .inr (2, [.ref (fa 18), .int (nI (u.1 5)), .int ((u.2.1 1)), .ref (fa 19), .ref (fa 20), .ref (fa 21)])), ((fa 18), oI cI 60 (u.2.2 10)), ((fa 19), oI cI 61 (u.2.2 11)), ((fa 20), oI cI 61 (u.2.2 12)), ((fa 21), oI cI 61 (u.2.2 13)), ((ma 0), .inr (6, [.int ((v.2.1 0)), .int (nI (v.1 0)), .ref (ma 1), .ref (ma 2), .int (nI (v.1 1)), .ref (ma 3), .int (nI (v.1 2)), .ref (ma 4), .ref (ma 5), .int (nI (v.1 3)), .ref (ma 6), .int (nI (v.1 4)), .int ((v.2.1 1)), .ref (ma 7), .ref (ma 8), .ref (ma 9), .ref (ma 10), .ref (ma 11)])), ((ma 1), oI cI 60 (v.2.2 0)), ((ma 2), oI cI 60 (v.2.2 1)), ((ma 3), oI cI 5400 (v.2.2 2)), ((ma 4), oI cI 12 (v.2.2 3)), ((ma 5), oI cI 12 (v.2.2 4)), ((ma 6), oI cI 60 (v.2.2 5)), ((ma 7), oI cI 60 (v.2.2 6)), ((ma 8), oI cI 12 (v.2.2 7)), ((ma 9), oI cI 61 (v.2.2 8)), ((ma 10), oI cI 61 (v.2.2 9)), ((ma 11), oI cI 61 (v.2.2 10)), (o0, .inl (cJ, 1, .inr (.inl g)))]
section LQ
variable {p : Program} {l : Launch} {e : Env} {s : State} {m : MethodId} {below : List Frame} {meth : Method} {c : Code} {H : Heap} {locs : List Loc} {cells slots : Nat} {Q : State → Prop} {R : Room} {args : Array Value} {cc : ByteArray} {pc : Nat} {rest : List Value} {ls : Array Slot} {D : va_G} {b L : Nat} {xs : Nat → Int32} {H0 : Heap} {A : Nat → Prop}
theorem sld (hx : p.tables.exec = Jvm.exec) (hb : c.code = cc) (hX : va_X b L xs s H0) (hbl : b < H0.size) (hbA : ¬ A b) (hS : va_S A H0 H locs) {k : Nat} (hk : k < L) (hL : L ≤ 2560) (hdg : decode cc pc = .ok (.iaload, 1))
    (kk : W p l e R s m args below meth c H locs cells slots Q (F0 m (pc + 1) ls (.int (xs k) :: rest))) : W p l e R s m args below meth c H locs cells slots Q (F0 m pc ls (.int (nI k) :: .ref b :: rest)) := by
  refine va_sld hx hb hX hbl hbA hS (vp_in_nI hk (by omega)) hdg ?_
  rw [nI_clamp (by omega)]
  exact kk
/-- what the law knows at its loop -/
def lwC (p : Program) (s : State) (m : MethodId) (c : Code) (D : va_G) (cI cJ : ClassId) (b L : Nat) (xs : Nat → Int32) : Prop := CallFix p m c cL_law 7 s #[Value.ref b] GW RL ∧ va_K D vwCl (tJ cI cJ) s ∧ va_X b L xs s s.heap ∧ b < s.heap.size ∧ ff_X (lwA s) s s.heap
set_option maxHeartbeats 4000000 in
set_option maxRecDepth 100000 in
theorem lq_clear (hst : l.stackTraces = false) {cI cJ : ClassId} (C0 : lwC p s m c D cI cJ b L xs) (hL : L ≤ 2560) {i : Nat} (hi : i + 5 ≤ L) (hf : cells + 1 ≤ 1082 ∧ slots + 6 ≤ 17720) {fa ma : Nat → Nat} {o0 : Nat} {u v : ff_S} {g : Nat → Int64} (hR : ff_Rel u v) (hP : va_P D vwCl (lwW cI cJ fa ma o0 u v g) H) (hD : va_D (lwA s) (lwW cI cJ fa ma o0 u v g)) (hS : va_S (lwA s) s.heap H locs) (hl : lv_has ls 7 [(4, .int (nI i)), (3, .ref o0), (2, .ref (ma 0)), (1, .ref (fa 0)), (0, .ref b)])
    (kk : ∀ (H1 : Heap) (locs1 : List Loc) (ls1 : Array Slot) (u1 v1 : ff_S) (g1 : Nat → Int64), ff_Rel u1 v1 → va_P D vwCl (lwW cI cJ fa ma o0 u1 v1 g1) H1 → va_D (lwA s) (lwW cI cJ fa ma o0 u1 v1 g1) → va_S (lwA s) s.heap H1 locs1 → lv_has ls1 7 [(4, .int (nI i)), (3, .ref o0), (2, .ref (ma 0)), (1, .ref (fa 0)), (0, .ref b)] → W p l e room_1 s m #[Value.ref b] below meth c H1 locs1 (cells + 1) (slots + 6) Q (F0 m 1353 ls1 [])) : W p l e room_1 s m #[Value.ref b] below meth c H locs cells slots Q (F0 m 128 ls []) := by
  obtain ⟨cx, hK, hXb, hbl, hX⟩ := C0
  obtain ⟨hx, hb, hml, hown, hg⟩ := id cx
  have hKI : va_K D vwCl (tI cI) s := hK.sub [0] rfl
  have hA : ∀ q : Nat, s.heap.size ≤ q → lwA s q := fun _ h => h
  obtain ⟨⟨hn, en, hN2⟩, ⟨ht, et, hT2⟩, ⟨hg1, eg, hG2⟩, ⟨hp1, ep, hP2⟩, ⟨hq1, eq1, ec, hQ2⟩⟩ := id hR
  refine W.widen (k := cells + 1) (n := slots + 6) (by omega) (by omega) ?_
  refine lv_aload_n hx hb dL_law_128 rfl (lv_at hl 3 rfl) ?_
  refine Ci.callV (As := []) (rest := []) (wr := lwM cI ma v ++ [(o0, .inl (cJ, 1, .inr (.inl g)))]) (wn := fun uu => lwW cI cJ fa ma o0 uu v g) (cv_L_77 hg ⟨Nat.le_of_ble_eq_true rfl, Nat.le_of_ble_eq_true rfl⟩) (t_clear l D cI (fa 0) (fa 1) (fa 2) (fa 3) (fa 4) (fa 5) (fa 6) (fa 7) (fa 8) (fa 9) (fa 10) (fa 11) (fa 12) (fa 13) (fa 14) (fa 15) (fa 16) (fa 17) (fa 18) (fa 19) (fa 20) (fa 21) (u.1 0) (u.1 1) (u.1 2) (u.1 3) (u.1 4) (u.1 5) (u.2.1 0) (u.2.1 1) (u.2.2 0) (u.2.2 1) (u.2.2 2) (u.2.2 3) (u.2.2 4) (u.2.2 5) (u.2.2 6) (u.2.2 7) (u.2.2 8) (u.2.2 9) (u.2.2 10) (u.2.2 11) (u.2.2 12) (u.2.2 13)) cx hKI hP hD hA [0, 1, 2, 3, 4, 5, 6, 7, 8, 9, 10, 11, 12, 13, 14, 15, 16, 17, 18, 19, 20, 21] [22, 23, 24, 25, 26, 27, 28, 29, 30, 31, 32, 33, 34] [13, 14, 15, 16, 17, 18, 19, 20, 21, 22, 23, 24, 25, 26, 27, 28, 29, 30, 31, 32, 33, 34, 0, 1, 2, 3, 4, 5, 6, 7, 8, 9, 10, 11, 12] rfl rfl (by decide) (fun _ => rfl) (rq := 0) rfl rfl rfl hS rfl hl.1 rfl (Nat.le_of_ble_eq_true rfl) dL_law_129 ⟨hf.1, hf.2⟩ (fun H locs k9 uu hw1 hP hD hS => ?_)
  refine lv_aload_n hx hb dL_law_132 rfl (lv_at hl 2 rfl) ?_
  refine Ci.callV (As := []) (rest := [.int k9]) (wr := lwF cI fa uu ++ [(o0, .inl (cJ, 1, .inr (.inl g)))]) (wn := fun vv => lwW cI cJ fa ma o0 uu vv g) (cv_L_81 hg ⟨Nat.le_of_ble_eq_true rfl, Nat.le_of_ble_eq_true rfl⟩) (c_clear l D cI (ma 0) (ma 1) (ma 2) (ma 3) (ma 4) (ma 5) (ma 6) (ma 7) (ma 8) (ma 9) (ma 10) (ma 11) (v.2.1 0) (v.2.1 1) (v.1 0) (v.1 1) (v.1 2) (v.1 3) (v.1 4) (v.2.2 0) (v.2.2 1) (v.2.2 2) (v.2.2 3) (v.2.2 4) (v.2.2 5) (v.2.2 6) (v.2.2 7) (v.2.2 8) (v.2.2 9) (v.2.2 10) (by omega) (by omega)) cx hKI hP hD hA [22, 23, 24, 25, 26, 27, 28, 29, 30, 31, 32, 33] [0, 1, 2, 3, 4, 5, 6, 7, 8, 9, 10, 11, 12, 13, 14, 15, 16, 17, 18, 19, 20, 21, 34] [0, 1, 2, 3, 4, 5, 6, 7, 8, 9, 10, 11, 12, 13, 14, 15, 16, 17, 18, 19, 20, 21, 23, 24, 25, 26, 27, 28, 29, 30, 31, 32, 33, 34, 22] rfl rfl (by decide) (fun _ => rfl) (rq := 0) rfl rfl rfl hS rfl hl.1 rfl (Nat.le_of_ble_eq_true rfl) dL_law_133 ⟨hf.1, hf.2⟩ (fun H locs r9 vv hw2 hP hD hS => ?_)
  obtain ⟨e1, e2⟩ := hw1
  obtain ⟨e3, e4⟩ := hw2
  refine lv_icmp_eq (tgt := 1353) hx hb dL_law_136 (by decide) (fun _ => kk H locs ls uu vv g ?_ hP hD hS hl) (fun c9 => absurd (by rw [e1, e3, en]) c9)
  rw [e2, e4]
  exact ⟨(⟨Nat.zero_le _, rfl, fun t h => absurd h (Nat.not_lt_zero _)⟩ : RN 0 (u.2.2 0) (u.2.2 1) 0 (v.2.2 0) (v.2.2 1)), (⟨Nat.zero_le _, rfl, fun t h => absurd h (Nat.not_lt_zero _)⟩ : RT 0 (u.2.2 2) (u.2.2 3) 0 (v.2.2 3) (v.2.2 4)), (⟨Nat.zero_le _, rfl, fun t w h => absurd h (Nat.not_lt_zero _)⟩ : RG 0 (u.2.2 7) 0 (v.2.2 2)), (⟨Nat.zero_le _, rfl, fun t h => absurd h (Nat.not_lt_zero _)⟩ : RP 0 (u.2.2 9) 0 (v.2.2 5)), (⟨Nat.zero_le _, rfl, rfl, fun t h => absurd h (Nat.not_lt_zero _)⟩ : RQ 0 (nI 0) (u.2.2 10) 0 (nI 0) (v.2.2 6))⟩

set_option maxHeartbeats 4000000 in
set_option maxRecDepth 100000 in
theorem lq_note (hst : l.stackTraces = false) {cI cJ : ClassId} (C0 : lwC p s m c D cI cJ b L xs) (hL : L ≤ 2560) {i : Nat} (hi : i + 5 ≤ L) (hf : cells + 1 ≤ 1082 ∧ slots + 6 ≤ 17720) {fa ma : Nat → Nat} {o0 : Nat} {u v : ff_S} {g : Nat → Int64} (hR : ff_Rel u v) (hP : va_P D vwCl (lwW cI cJ fa ma o0 u v g) H) (hD : va_D (lwA s) (lwW cI cJ fa ma o0 u v g)) (hS : va_S (lwA s) s.heap H locs) (hl : lv_has ls 7 [(4, .int (nI i)), (3, .ref o0), (2, .ref (ma 0)), (1, .ref (fa 0)), (0, .ref b)])
    (kk : ∀ (H1 : Heap) (locs1 : List Loc) (ls1 : Array Slot) (u1 v1 : ff_S) (g1 : Nat → Int64), ff_Rel u1 v1 → va_P D vwCl (lwW cI cJ fa ma o0 u1 v1 g1) H1 → va_D (lwA s) (lwW cI cJ fa ma o0 u1 v1 g1) → va_S (lwA s) s.heap H1 locs1 → lv_has ls1 7 [(4, .int (nI i)), (3, .ref o0), (2, .ref (ma 0)), (1, .ref (fa 0)), (0, .ref b)] → W p l e room_1 s m #[Value.ref b] below meth c H1 locs1 (cells + 1) (slots + 6) Q (F0 m 1353 ls1 [])) : W p l e room_1 s m #[Value.ref b] below meth c H locs cells slots Q (F0 m 141 ls []) := by
  obtain ⟨cx, hK, hXb, hbl, hX⟩ := C0
  obtain ⟨hx, hb, hml, hown, hg⟩ := id cx
  have hKI : va_K D vwCl (tI cI) s := hK.sub [0] rfl
  have hA : ∀ q : Nat, s.heap.size ≤ q → lwA s q := fun _ h => h
  have hbA : ¬ lwA s b := Nat.not_le.mpr hbl
  obtain ⟨⟨hn, en, hN2⟩, ⟨ht, et, hT2⟩, ⟨hg1, eg, hG2⟩, ⟨hp1, ep, hP2⟩, ⟨hq1, eq1, ec, hQ2⟩⟩ := id hR
  refine lv_aload_n hx hb dL_law_141 rfl (lv_at hl 3 rfl) ?_
  refine lv_aload_n hx hb dL_law_142 rfl (lv_at hl 4 rfl) ?_
  refine lv_iload hx hb dL_law_143 (lv_at hl 0 rfl) ?_
  refine lv_iconst (v := nI 1) hx hb dL_law_145 (by decide) ?_
  refine lv_iadd hx hb dL_law_146 ?_
  refine lv_asi (nI_add _ _) ?_
  refine sld hx hb hXb hbl hbA hS (k := i + 1) (by omega) hL dL_law_147 ?_
  refine lv_aload_n hx hb dL_law_148 rfl (lv_at hl 4 rfl) ?_
  refine lv_iload hx hb dL_law_149 (lv_at hl 0 rfl) ?_
  refine lv_iconst (v := nI 2) hx hb dL_law_151 (by decide) ?_
  refine lv_iadd hx hb dL_law_152 ?_
  refine lv_asi (nI_add _ _) ?_
  refine sld hx hb hXb hbl hbA hS (k := i + 2) (by omega) hL dL_law_153 ?_
  refine lv_aload_n hx hb dL_law_154 rfl (lv_at hl 1 rfl) ?_
  refine Cw.callS (As := [.ref (fa 0), .int (xs (i + 1)), .int (xs (i + 2)), .ref o0]) (rest := []) (wr := lwM cI ma v) (wn := fun uu => lwW cI cJ fa ma o0 uu.1 v uu.2) (cv_L_82 hg ⟨Nat.le_of_ble_eq_true rfl, Nat.le_of_ble_eq_true rfl⟩) (w_note l hst D cI cJ (fa 0) (fa 1) (fa 2) (fa 3) (fa 4) (fa 5) (fa 6) (fa 7) (fa 8) (fa 9) (fa 10) (fa 11) (fa 12) (fa 13) (fa 14) (fa 15) (fa 16) (fa 17) (fa 18) (fa 19) (fa 20) (fa 21) o0 (u.1 0) (u.1 1) (u.1 2) (u.1 3) (u.1 4) (u.1 5) (u.2.1 0) (u.2.1 1) (u.2.2 0) (u.2.2 1) (u.2.2 2) (u.2.2 3) (u.2.2 4) (u.2.2 5) (u.2.2 6) (u.2.2 7) (u.2.2 8) (u.2.2 9) (u.2.2 10) (u.2.2 11) (u.2.2 12) (u.2.2 13) g hn ht (xs (i + 1)) (xs (i + 2))) cx hK hX hP hD hA [0, 1, 2, 3, 4, 5, 6, 7, 8, 9, 10, 11, 12, 13, 14, 15, 16, 17, 18, 19, 20, 21, 34] [22, 23, 24, 25, 26, 27, 28, 29, 30, 31, 32, 33] [12, 13, 14, 15, 16, 17, 18, 19, 20, 21, 22, 23, 24, 25, 26, 27, 28, 29, 30, 31, 32, 33, 0, 1, 2, 3, 4, 5, 6, 7, 8, 9, 10, 11, 34] rfl rfl (by decide) (fun _ => rfl) hS rfl hl.1 rfl (Nat.le_of_ble_eq_true rfl) dL_law_155 hf (fun H locs k9 uu hw1 hP hD hS => ?_)
  refine lv_istore (lv' := [(5, .int k9), (4, .int (nI i)), (3, .ref o0), (2, .ref (ma 0)), (1, .ref (fa 0)), (0, .ref b)]) hx hb dL_law_158 hl (by decide) rfl (fun ls hl => ?_)
  refine lv_aload_n hx hb dL_law_160 rfl (lv_at hl 3 rfl) ?_
  refine lv_aload_n hx hb dL_law_161 rfl (lv_at hl 5 rfl) ?_
  refine lv_iload hx hb dL_law_162 (lv_at hl 1 rfl) ?_
  refine lv_iconst (v := nI 1) hx hb dL_law_164 (by decide) ?_
  refine lv_iadd hx hb dL_law_165 ?_
  refine lv_asi (nI_add _ _) ?_
  refine sld hx hb hXb hbl hbA hS (k := i + 1) (by omega) hL dL_law_166 ?_
  refine lv_aload_n hx hb dL_law_167 rfl (lv_at hl 5 rfl) ?_
  refine lv_iload hx hb dL_law_168 (lv_at hl 1 rfl) ?_
  refine lv_iconst (v := nI 2) hx hb dL_law_170 (by decide) ?_
  refine lv_iadd hx hb dL_law_171 ?_
  refine lv_asi (nI_add _ _) ?_
  refine sld hx hb hXb hbl hbA hS (k := i + 2) (by omega) hL dL_law_172 ?_
  refine Ci.callV (As := [.int (xs (i + 1)), .int (xs (i + 2))]) (rest := []) (wr := lwF cI fa uu.1 ++ [(o0, .inl (cJ, 1, .inr (.inl uu.2)))]) (wn := fun vv => lwW cI cJ fa ma o0 uu.1 vv uu.2) (cv_L_87 hg ⟨Nat.le_of_ble_eq_true rfl, Nat.le_of_ble_eq_true rfl⟩) (c_note l D cI (ma 0) (ma 1) (ma 2) (ma 3) (ma 4) (ma 5) (ma 6) (ma 7) (ma 8) (ma 9) (ma 10) (ma 11) (v.2.1 0) (v.2.1 1) (v.1 0) (v.1 1) (v.1 2) (v.1 3) (v.1 4) (v.2.2 0) (v.2.2 1) (v.2.2 2) (v.2.2 3) (v.2.2 4) (v.2.2 5) (v.2.2 6) (v.2.2 7) (v.2.2 8) (v.2.2 9) (v.2.2 10) (by omega) (by omega) (xs (i + 1)) (xs (i + 2))) cx hKI hP hD hA [22, 23, 24, 25, 26, 27, 28, 29, 30, 31, 32, 33] [0, 1, 2, 3, 4, 5, 6, 7, 8, 9, 10, 11, 12, 13, 14, 15, 16, 17, 18, 19, 20, 21, 34] [0, 1, 2, 3, 4, 5, 6, 7, 8, 9, 10, 11, 12, 13, 14, 15, 16, 17, 18, 19, 20, 21, 23, 24, 25, 26, 27, 28, 29, 30, 31, 32, 33, 34, 22] rfl rfl (by decide) (fun _ => rfl) (rq := 0) rfl rfl rfl hS rfl hl.1 rfl (Nat.le_of_ble_eq_true rfl) dL_law_173 ⟨hf.1, hf.2⟩ (fun H locs r9 vv hw2 hP hD hS => ?_)
  refine lv_istore (lv' := [(6, .int r9), (5, .int k9), (4, .int (nI i)), (3, .ref o0), (2, .ref (ma 0)), (1, .ref (fa 0)), (0, .ref b)]) hx hb dL_law_176 hl (by decide) rfl (fun ls hl => ?_)
  refine lv_aload_n hx hb dL_law_178 rfl (lv_at hl 4 rfl) ?_
  have hfin := rl_note hR (xs (i + 1)) (xs (i + 2)) k9 uu r9 vv hw1 hw2
  obtain ⟨e1, e2, hR1⟩ := hfin
  refine Cp.callV (As := []) (rest := []) (cv_L_88 hg ⟨Nat.le_of_ble_eq_true rfl, Nat.le_of_ble_eq_true rfl⟩) (k_thrown l D cI (ma 0) (ma 1) (ma 2) (ma 3) (ma 4) (ma 5) (ma 6) (ma 7) (ma 8) (ma 9) (ma 10) (ma 11) (vv.2.1 0) (vv.2.1 1) (vv.1 0) (vv.1 1) (vv.1 2) (vv.1 3) (vv.1 4)) cx hKI hP [22] rfl (rq := 0) rfl rfl rfl hS rfl hl.1 rfl (Nat.le_of_ble_eq_true rfl) dL_law_179 ⟨hf.1, hf.2⟩ (fun H locs hP hS => ?_)
  refine lv_iload hx hb dL_law_182 (lv_at hl 1 rfl) ?_
  refine lv_icmp_eq (tgt := 189) hx hb dL_law_184 (by decide) (fun _ => ?_) (fun c9 => absurd e1 c9)
  have kend : W p l e room_1 s m #[Value.ref b] below meth c H locs (cells + 1) (slots + 6) Q (F0 m 206 ls []) := lv_goto (tgt := 1353) hx hb dL_law_206 (by decide) (kk H locs ls uu.1 vv uu.2 hR1 hP hD hS (lv_sub hl [2, 3, 4, 5, 6] rfl))
  refine lv_iload hx hb dL_law_189 (lv_at hl 1 rfl) ?_
  refine lv_if_ne (tgt := 206) hx hb dL_law_191 (by decide) (fun _ => kend) (fun c9 => ?_)
  refine lv_aload_n hx hb dL_law_194 rfl (lv_at hl 3 rfl) ?_
  refine lv_iconst (v := nI 0) hx hb dL_law_195 (by decide) ?_
  refine va_lald hx hb hK hP 34 1 rfl rfl (vp_in_nI (by decide) (by decide)) dL_law_196 ?_
  refine lv_iload hx hb dL_law_197 (lv_at hl 0 rfl) ?_
  refine lv_i2l hx hb dL_law_199 rfl ?_
  refine W.lcmp hx hb dL_law_200 ?_
  refine lv_if_eq (tgt := 206) hx hb dL_law_201 (by decide) (fun _ => kend) (fun d9 => absurd (lc_eq.mpr (e2 (c9.trans nI_0.symm))) d9)

set_option maxHeartbeats 4000000 in
set_option maxRecDepth 100000 in
theorem lq_drop (hst : l.stackTraces = false) {cI cJ : ClassId} (C0 : lwC p s m c D cI cJ b L xs) (hL : L ≤ 2560) {i : Nat} (hi : i + 5 ≤ L) (hf : cells + 1 ≤ 1082 ∧ slots + 6 ≤ 17720) {fa ma : Nat → Nat} {o0 : Nat} {u v : ff_S} {g : Nat → Int64} (hR : ff_Rel u v) (hP : va_P D vwCl (lwW cI cJ fa ma o0 u v g) H) (hD : va_D (lwA s) (lwW cI cJ fa ma o0 u v g)) (hS : va_S (lwA s) s.heap H locs) (hl : lv_has ls 7 [(4, .int (nI i)), (3, .ref o0), (2, .ref (ma 0)), (1, .ref (fa 0)), (0, .ref b)])
    (kk : ∀ (H1 : Heap) (locs1 : List Loc) (ls1 : Array Slot) (u1 v1 : ff_S) (g1 : Nat → Int64), ff_Rel u1 v1 → va_P D vwCl (lwW cI cJ fa ma o0 u1 v1 g1) H1 → va_D (lwA s) (lwW cI cJ fa ma o0 u1 v1 g1) → va_S (lwA s) s.heap H1 locs1 → lv_has ls1 7 [(4, .int (nI i)), (3, .ref o0), (2, .ref (ma 0)), (1, .ref (fa 0)), (0, .ref b)] → W p l e room_1 s m #[Value.ref b] below meth c H1 locs1 (cells + 1) (slots + 6) Q (F0 m 1353 ls1 [])) : W p l e room_1 s m #[Value.ref b] below meth c H locs cells slots Q (F0 m 209 ls []) := by
  obtain ⟨cx, hK, hXb, hbl, hX⟩ := C0
  obtain ⟨hx, hb, hml, hown, hg⟩ := id cx
  have hKI : va_K D vwCl (tI cI) s := hK.sub [0] rfl
  have hA : ∀ q : Nat, s.heap.size ≤ q → lwA s q := fun _ h => h
  have hbA : ¬ lwA s b := Nat.not_le.mpr hbl
  obtain ⟨⟨hn, en, hN2⟩, ⟨ht, et, hT2⟩, ⟨hg1, eg, hG2⟩, ⟨hp1, ep, hP2⟩, ⟨hq1, eq1, ec, hQ2⟩⟩ := id hR
  refine lv_aload_n hx hb dL_law_209 rfl (lv_at hl 3 rfl) ?_
  refine lv_aload_n hx hb dL_law_210 rfl (lv_at hl 4 rfl) ?_
  refine lv_iload hx hb dL_law_211 (lv_at hl 0 rfl) ?_
  refine lv_iconst (v := nI 1) hx hb dL_law_213 (by decide) ?_
  refine lv_iadd hx hb dL_law_214 ?_
  refine lv_asi (nI_add _ _) ?_
  refine sld hx hb hXb hbl hbA hS (k := i + 1) (by omega) hL dL_law_215 ?_
  refine lv_aload_n hx hb dL_law_216 rfl (lv_at hl 1 rfl) ?_
  refine Cw.callS (As := [.ref (fa 0), .int (xs (i + 1)), .ref o0]) (rest := []) (wr := lwM cI ma v) (wn := fun uu => lwW cI cJ fa ma o0 uu.1 v uu.2) (cv_L_91 hg ⟨Nat.le_of_ble_eq_true rfl, Nat.le_of_ble_eq_true rfl⟩) (w_drop l hst D cI cJ (fa 0) (fa 1) (fa 2) (fa 3) (fa 4) (fa 5) (fa 6) (fa 7) (fa 8) (fa 9) (fa 10) (fa 11) (fa 12) (fa 13) (fa 14) (fa 15) (fa 16) (fa 17) (fa 18) (fa 19) (fa 20) (fa 21) o0 (u.1 0) (u.1 1) (u.1 2) (u.1 3) (u.1 4) (u.1 5) (u.2.1 0) (u.2.1 1) (u.2.2 0) (u.2.2 1) (u.2.2 2) (u.2.2 3) (u.2.2 4) (u.2.2 5) (u.2.2 6) (u.2.2 7) (u.2.2 8) (u.2.2 9) (u.2.2 10) (u.2.2 11) (u.2.2 12) (u.2.2 13) g hn ht (xs (i + 1))) cx hK hX hP hD hA [0, 1, 2, 3, 4, 5, 6, 7, 8, 9, 10, 11, 12, 13, 14, 15, 16, 17, 18, 19, 20, 21, 34] [22, 23, 24, 25, 26, 27, 28, 29, 30, 31, 32, 33] [12, 13, 14, 15, 16, 17, 18, 19, 20, 21, 22, 23, 24, 25, 26, 27, 28, 29, 30, 31, 32, 33, 0, 1, 2, 3, 4, 5, 6, 7, 8, 9, 10, 11, 34] rfl rfl (by decide) (fun _ => rfl) hS rfl hl.1 rfl (Nat.le_of_ble_eq_true rfl) dL_law_217 hf (fun H locs k9 uu hw1 hP hD hS => ?_)
  refine lv_istore (lv' := [(5, .int k9), (4, .int (nI i)), (3, .ref o0), (2, .ref (ma 0)), (1, .ref (fa 0)), (0, .ref b)]) hx hb dL_law_220 hl (by decide) rfl (fun ls hl => ?_)
  refine lv_aload_n hx hb dL_law_222 rfl (lv_at hl 3 rfl) ?_
  refine lv_aload_n hx hb dL_law_223 rfl (lv_at hl 5 rfl) ?_
  refine lv_iload hx hb dL_law_224 (lv_at hl 1 rfl) ?_
  refine lv_iconst (v := nI 1) hx hb dL_law_226 (by decide) ?_
  refine lv_iadd hx hb dL_law_227 ?_
  refine lv_asi (nI_add _ _) ?_
  refine sld hx hb hXb hbl hbA hS (k := i + 1) (by omega) hL dL_law_228 ?_
  refine Ci.callV (As := [.int (xs (i + 1))]) (rest := []) (wr := lwF cI fa uu.1 ++ [(o0, .inl (cJ, 1, .inr (.inl uu.2)))]) (wn := fun vv => lwW cI cJ fa ma o0 uu.1 vv uu.2) (cv_L_94 hg ⟨Nat.le_of_ble_eq_true rfl, Nat.le_of_ble_eq_true rfl⟩) (c_drop l D cI (ma 0) (ma 1) (ma 2) (ma 3) (ma 4) (ma 5) (ma 6) (ma 7) (ma 8) (ma 9) (ma 10) (ma 11) (v.2.1 0) (v.2.1 1) (v.1 0) (v.1 1) (v.1 2) (v.1 3) (v.1 4) (v.2.2 0) (v.2.2 1) (v.2.2 2) (v.2.2 3) (v.2.2 4) (v.2.2 5) (v.2.2 6) (v.2.2 7) (v.2.2 8) (v.2.2 9) (v.2.2 10) (by omega) (by omega) (xs (i + 1))) cx hKI hP hD hA [22, 23, 24, 25, 26, 27, 28, 29, 30, 31, 32, 33] [0, 1, 2, 3, 4, 5, 6, 7, 8, 9, 10, 11, 12, 13, 14, 15, 16, 17, 18, 19, 20, 21, 34] [0, 1, 2, 3, 4, 5, 6, 7, 8, 9, 10, 11, 12, 13, 14, 15, 16, 17, 18, 19, 20, 21, 23, 24, 25, 26, 27, 28, 29, 30, 31, 32, 33, 34, 22] rfl rfl (by decide) (fun _ => rfl) (rq := 0) rfl rfl rfl hS rfl hl.1 rfl (Nat.le_of_ble_eq_true rfl) dL_law_229 ⟨hf.1, hf.2⟩ (fun H locs r9 vv hw2 hP hD hS => ?_)
  refine lv_istore (lv' := [(6, .int r9), (5, .int k9), (4, .int (nI i)), (3, .ref o0), (2, .ref (ma 0)), (1, .ref (fa 0)), (0, .ref b)]) hx hb dL_law_232 hl (by decide) rfl (fun ls hl => ?_)
  refine lv_aload_n hx hb dL_law_234 rfl (lv_at hl 4 rfl) ?_
  have hfin := rl_drop hR (xs (i + 1)) k9 uu r9 vv hw1 hw2
  obtain ⟨e1, e2, hR1⟩ := hfin
  refine Cp.callV (As := []) (rest := []) (cv_L_88 hg ⟨Nat.le_of_ble_eq_true rfl, Nat.le_of_ble_eq_true rfl⟩) (k_thrown l D cI (ma 0) (ma 1) (ma 2) (ma 3) (ma 4) (ma 5) (ma 6) (ma 7) (ma 8) (ma 9) (ma 10) (ma 11) (vv.2.1 0) (vv.2.1 1) (vv.1 0) (vv.1 1) (vv.1 2) (vv.1 3) (vv.1 4)) cx hKI hP [22] rfl (rq := 0) rfl rfl rfl hS rfl hl.1 rfl (Nat.le_of_ble_eq_true rfl) dL_law_235 ⟨hf.1, hf.2⟩ (fun H locs hP hS => ?_)
  refine lv_iload hx hb dL_law_238 (lv_at hl 1 rfl) ?_
  refine lv_icmp_eq (tgt := 245) hx hb dL_law_240 (by decide) (fun _ => ?_) (fun c9 => absurd e1 c9)
  have kend : W p l e room_1 s m #[Value.ref b] below meth c H locs (cells + 1) (slots + 6) Q (F0 m 262 ls []) := lv_goto (tgt := 1353) hx hb dL_law_262 (by decide) (kk H locs ls uu.1 vv uu.2 hR1 hP hD hS (lv_sub hl [2, 3, 4, 5, 6] rfl))
  refine lv_iload hx hb dL_law_245 (lv_at hl 1 rfl) ?_
  refine lv_if_ne (tgt := 262) hx hb dL_law_247 (by decide) (fun _ => kend) (fun c9 => ?_)
  refine lv_aload_n hx hb dL_law_250 rfl (lv_at hl 3 rfl) ?_
  refine lv_iconst (v := nI 0) hx hb dL_law_251 (by decide) ?_
  refine va_lald hx hb hK hP 34 1 rfl rfl (vp_in_nI (by decide) (by decide)) dL_law_252 ?_
  refine lv_iload hx hb dL_law_253 (lv_at hl 0 rfl) ?_
  refine lv_i2l hx hb dL_law_255 rfl ?_
  refine W.lcmp hx hb dL_law_256 ?_
  refine lv_if_eq (tgt := 262) hx hb dL_law_257 (by decide) (fun _ => kend) (fun d9 => absurd (lc_eq.mpr (e2 (c9.trans nI_0.symm))) d9)

set_option maxHeartbeats 4000000 in
set_option maxRecDepth 100000 in
theorem lq_items (hst : l.stackTraces = false) {cI cJ : ClassId} (C0 : lwC p s m c D cI cJ b L xs) (hL : L ≤ 2560) {i : Nat} (hi : i + 5 ≤ L) (hf : cells + 1 ≤ 1082 ∧ slots + 6 ≤ 17720) {fa ma : Nat → Nat} {o0 : Nat} {u v : ff_S} {g : Nat → Int64} (hR : ff_Rel u v) (hP : va_P D vwCl (lwW cI cJ fa ma o0 u v g) H) (hD : va_D (lwA s) (lwW cI cJ fa ma o0 u v g)) (hS : va_S (lwA s) s.heap H locs) (hl : lv_has ls 7 [(4, .int (nI i)), (3, .ref o0), (2, .ref (ma 0)), (1, .ref (fa 0)), (0, .ref b)])
    (kk : ∀ (H1 : Heap) (locs1 : List Loc) (ls1 : Array Slot) (u1 v1 : ff_S) (g1 : Nat → Int64), ff_Rel u1 v1 → va_P D vwCl (lwW cI cJ fa ma o0 u1 v1 g1) H1 → va_D (lwA s) (lwW cI cJ fa ma o0 u1 v1 g1) → va_S (lwA s) s.heap H1 locs1 → lv_has ls1 7 [(4, .int (nI i)), (3, .ref o0), (2, .ref (ma 0)), (1, .ref (fa 0)), (0, .ref b)] → W p l e room_1 s m #[Value.ref b] below meth c H1 locs1 (cells + 1) (slots + 6) Q (F0 m 1353 ls1 [])) : W p l e room_1 s m #[Value.ref b] below meth c H locs cells slots Q (F0 m 265 ls []) := by
  obtain ⟨cx, hK, hXb, hbl, hX⟩ := C0
  obtain ⟨hx, hb, hml, hown, hg⟩ := id cx
  have hKI : va_K D vwCl (tI cI) s := hK.sub [0] rfl
  have hA : ∀ q : Nat, s.heap.size ≤ q → lwA s q := fun _ h => h
  have hbA : ¬ lwA s b := Nat.not_le.mpr hbl
  obtain ⟨⟨hn, en, hN2⟩, ⟨ht, et, hT2⟩, ⟨hg1, eg, hG2⟩, ⟨hp1, ep, hP2⟩, ⟨hq1, eq1, ec, hQ2⟩⟩ := id hR
  refine lv_aload_n hx hb dL_law_265 rfl (lv_at hl 3 rfl) ?_
  refine lv_aload_n hx hb dL_law_266 rfl (lv_at hl 4 rfl) ?_
  refine lv_iload hx hb dL_law_267 (lv_at hl 0 rfl) ?_
  refine lv_iconst (v := nI 1) hx hb dL_law_269 (by decide) ?_
  refine lv_iadd hx hb dL_law_270 ?_
  refine lv_asi (nI_add _ _) ?_
  refine sld hx hb hXb hbl hbA hS (k := i + 1) (by omega) hL dL_law_271 ?_
  refine lv_aload_n hx hb dL_law_272 rfl (lv_at hl 1 rfl) ?_
  refine Cw.callS (As := [.ref (fa 0), .int (xs (i + 1)), .ref o0]) (rest := []) (wr := lwM cI ma v) (wn := fun uu => lwW cI cJ fa ma o0 uu.1 v uu.2) (cv_L_95 hg ⟨Nat.le_of_ble_eq_true rfl, Nat.le_of_ble_eq_true rfl⟩) (w_items l hst D cI cJ (fa 0) (fa 1) (fa 2) (fa 3) (fa 4) (fa 5) (fa 6) (fa 7) (fa 8) (fa 9) (fa 10) (fa 11) (fa 12) (fa 13) (fa 14) (fa 15) (fa 16) (fa 17) (fa 18) (fa 19) (fa 20) (fa 21) o0 (u.1 0) (u.1 1) (u.1 2) (u.1 3) (u.1 4) (u.1 5) (u.2.1 0) (u.2.1 1) (u.2.2 0) (u.2.2 1) (u.2.2 2) (u.2.2 3) (u.2.2 4) (u.2.2 5) (u.2.2 6) (u.2.2 7) (u.2.2 8) (u.2.2 9) (u.2.2 10) (u.2.2 11) (u.2.2 12) (u.2.2 13) g hn ht (xs (i + 1))) cx hK hX hP hD hA [0, 1, 2, 3, 4, 5, 6, 7, 8, 9, 10, 11, 12, 13, 14, 15, 16, 17, 18, 19, 20, 21, 34] [22, 23, 24, 25, 26, 27, 28, 29, 30, 31, 32, 33] [12, 13, 14, 15, 16, 17, 18, 19, 20, 21, 22, 23, 24, 25, 26, 27, 28, 29, 30, 31, 32, 33, 0, 1, 2, 3, 4, 5, 6, 7, 8, 9, 10, 11, 34] rfl rfl (by decide) (fun _ => rfl) hS rfl hl.1 rfl (Nat.le_of_ble_eq_true rfl) dL_law_273 hf (fun H locs k9 uu hw1 hP hD hS => ?_)
  refine lv_istore (lv' := [(5, .int k9), (4, .int (nI i)), (3, .ref o0), (2, .ref (ma 0)), (1, .ref (fa 0)), (0, .ref b)]) hx hb dL_law_276 hl (by decide) rfl (fun ls hl => ?_)
  refine lv_aload_n hx hb dL_law_278 rfl (lv_at hl 3 rfl) ?_
  refine lv_aload_n hx hb dL_law_279 rfl (lv_at hl 5 rfl) ?_
  refine lv_iload hx hb dL_law_280 (lv_at hl 1 rfl) ?_
  refine lv_iconst (v := nI 1) hx hb dL_law_282 (by decide) ?_
  refine lv_iadd hx hb dL_law_283 ?_
  refine lv_asi (nI_add _ _) ?_
  refine sld hx hb hXb hbl hbA hS (k := i + 1) (by omega) hL dL_law_284 ?_
  refine Ci.callV (As := [.int (xs (i + 1))]) (rest := []) (wr := lwF cI fa uu.1 ++ [(o0, .inl (cJ, 1, .inr (.inl uu.2)))]) (wn := fun vv => lwW cI cJ fa ma o0 uu.1 vv uu.2) (cv_L_97 hg ⟨Nat.le_of_ble_eq_true rfl, Nat.le_of_ble_eq_true rfl⟩) (c_items l D cI (ma 0) (ma 1) (ma 2) (ma 3) (ma 4) (ma 5) (ma 6) (ma 7) (ma 8) (ma 9) (ma 10) (ma 11) (v.2.1 0) (v.2.1 1) (v.1 0) (v.1 1) (v.1 2) (v.1 3) (v.1 4) (v.2.2 0) (v.2.2 1) (v.2.2 2) (v.2.2 3) (v.2.2 4) (v.2.2 5) (v.2.2 6) (v.2.2 7) (v.2.2 8) (v.2.2 9) (v.2.2 10) (by omega) (by omega) (xs (i + 1))) cx hKI hP hD hA [22, 23, 24, 25, 26, 27, 28, 29, 30, 31, 32, 33] [0, 1, 2, 3, 4, 5, 6, 7, 8, 9, 10, 11, 12, 13, 14, 15, 16, 17, 18, 19, 20, 21, 34] [0, 1, 2, 3, 4, 5, 6, 7, 8, 9, 10, 11, 12, 13, 14, 15, 16, 17, 18, 19, 20, 21, 23, 24, 25, 26, 27, 28, 29, 30, 31, 32, 33, 34, 22] rfl rfl (by decide) (fun _ => rfl) (rq := 0) rfl rfl rfl hS rfl hl.1 rfl (Nat.le_of_ble_eq_true rfl) dL_law_285 ⟨hf.1, hf.2⟩ (fun H locs r9 vv hw2 hP hD hS => ?_)
  refine lv_istore (lv' := [(6, .int r9), (5, .int k9), (4, .int (nI i)), (3, .ref o0), (2, .ref (ma 0)), (1, .ref (fa 0)), (0, .ref b)]) hx hb dL_law_288 hl (by decide) rfl (fun ls hl => ?_)
  refine lv_aload_n hx hb dL_law_290 rfl (lv_at hl 4 rfl) ?_
  have hfin := rl_items hR (xs (i + 1)) k9 uu r9 vv hw1 hw2
  obtain ⟨e1, e2, hR1⟩ := hfin
  refine Cp.callV (As := []) (rest := []) (cv_L_88 hg ⟨Nat.le_of_ble_eq_true rfl, Nat.le_of_ble_eq_true rfl⟩) (k_thrown l D cI (ma 0) (ma 1) (ma 2) (ma 3) (ma 4) (ma 5) (ma 6) (ma 7) (ma 8) (ma 9) (ma 10) (ma 11) (vv.2.1 0) (vv.2.1 1) (vv.1 0) (vv.1 1) (vv.1 2) (vv.1 3) (vv.1 4)) cx hKI hP [22] rfl (rq := 0) rfl rfl rfl hS rfl hl.1 rfl (Nat.le_of_ble_eq_true rfl) dL_law_291 ⟨hf.1, hf.2⟩ (fun H locs hP hS => ?_)
  refine lv_iload hx hb dL_law_294 (lv_at hl 1 rfl) ?_
  refine lv_icmp_eq (tgt := 301) hx hb dL_law_296 (by decide) (fun _ => ?_) (fun c9 => absurd e1 c9)
  have kend : W p l e room_1 s m #[Value.ref b] below meth c H locs (cells + 1) (slots + 6) Q (F0 m 318 ls []) := lv_goto (tgt := 1353) hx hb dL_law_318 (by decide) (kk H locs ls uu.1 vv uu.2 hR1 hP hD hS (lv_sub hl [2, 3, 4, 5, 6] rfl))
  refine lv_iload hx hb dL_law_301 (lv_at hl 1 rfl) ?_
  refine lv_if_ne (tgt := 318) hx hb dL_law_303 (by decide) (fun _ => kend) (fun c9 => ?_)
  refine lv_aload_n hx hb dL_law_306 rfl (lv_at hl 3 rfl) ?_
  refine lv_iconst (v := nI 0) hx hb dL_law_307 (by decide) ?_
  refine va_lald hx hb hK hP 34 1 rfl rfl (vp_in_nI (by decide) (by decide)) dL_law_308 ?_
  refine lv_iload hx hb dL_law_309 (lv_at hl 0 rfl) ?_
  refine lv_i2l hx hb dL_law_311 rfl ?_
  refine W.lcmp hx hb dL_law_312 ?_
  refine lv_if_eq (tgt := 318) hx hb dL_law_313 (by decide) (fun _ => kend) (fun d9 => absurd (lc_eq.mpr (e2 (c9.trans nI_0.symm))) d9)

set_option maxHeartbeats 4000000 in
set_option maxRecDepth 100000 in
theorem lq_item (hst : l.stackTraces = false) {cI cJ : ClassId} (C0 : lwC p s m c D cI cJ b L xs) (hL : L ≤ 2560) {i : Nat} (hi : i + 5 ≤ L) (hf : cells + 1 ≤ 1082 ∧ slots + 6 ≤ 17720) {fa ma : Nat → Nat} {o0 : Nat} {u v : ff_S} {g : Nat → Int64} (hR : ff_Rel u v) (hP : va_P D vwCl (lwW cI cJ fa ma o0 u v g) H) (hD : va_D (lwA s) (lwW cI cJ fa ma o0 u v g)) (hS : va_S (lwA s) s.heap H locs) (hl : lv_has ls 7 [(4, .int (nI i)), (3, .ref o0), (2, .ref (ma 0)), (1, .ref (fa 0)), (0, .ref b)])
    (kk : ∀ (H1 : Heap) (locs1 : List Loc) (ls1 : Array Slot) (u1 v1 : ff_S) (g1 : Nat → Int64), ff_Rel u1 v1 → va_P D vwCl (lwW cI cJ fa ma o0 u1 v1 g1) H1 → va_D (lwA s) (lwW cI cJ fa ma o0 u1 v1 g1) → va_S (lwA s) s.heap H1 locs1 → lv_has ls1 7 [(4, .int (nI i)), (3, .ref o0), (2, .ref (ma 0)), (1, .ref (fa 0)), (0, .ref b)] → W p l e room_1 s m #[Value.ref b] below meth c H1 locs1 (cells + 1) (slots + 6) Q (F0 m 1353 ls1 [])) : W p l e room_1 s m #[Value.ref b] below meth c H locs cells slots Q (F0 m 321 ls []) := by
  obtain ⟨cx, hK, hXb, hbl, hX⟩ := C0
  obtain ⟨hx, hb, hml, hown, hg⟩ := id cx
  have hKI : va_K D vwCl (tI cI) s := hK.sub [0] rfl
  have hA : ∀ q : Nat, s.heap.size ≤ q → lwA s q := fun _ h => h
  have hbA : ¬ lwA s b := Nat.not_le.mpr hbl
  obtain ⟨⟨hn, en, hN2⟩, ⟨ht, et, hT2⟩, ⟨hg1, eg, hG2⟩, ⟨hp1, ep, hP2⟩, ⟨hq1, eq1, ec, hQ2⟩⟩ := id hR
  refine lv_aload_n hx hb dL_law_321 rfl (lv_at hl 3 rfl) ?_
  refine lv_aload_n hx hb dL_law_322 rfl (lv_at hl 4 rfl) ?_
  refine lv_iload hx hb dL_law_323 (lv_at hl 0 rfl) ?_
  refine lv_iconst (v := nI 1) hx hb dL_law_325 (by decide) ?_
  refine lv_iadd hx hb dL_law_326 ?_
  refine lv_asi (nI_add _ _) ?_
  refine sld hx hb hXb hbl hbA hS (k := i + 1) (by omega) hL dL_law_327 ?_
  refine lv_aload_n hx hb dL_law_328 rfl (lv_at hl 4 rfl) ?_
  refine lv_iload hx hb dL_law_329 (lv_at hl 0 rfl) ?_
  refine lv_iconst (v := nI 2) hx hb dL_law_331 (by decide) ?_
  refine lv_iadd hx hb dL_law_332 ?_
  refine lv_asi (nI_add _ _) ?_
  refine sld hx hb hXb hbl hbA hS (k := i + 2) (by omega) hL dL_law_333 ?_
  refine lv_aload_n hx hb dL_law_334 rfl (lv_at hl 1 rfl) ?_
  refine Cw.callS (As := [.ref (fa 0), .int (xs (i + 1)), .int (xs (i + 2)), .ref o0]) (rest := []) (wr := lwM cI ma v) (wn := fun uu => lwW cI cJ fa ma o0 uu.1 v uu.2) (cv_L_98 hg ⟨Nat.le_of_ble_eq_true rfl, Nat.le_of_ble_eq_true rfl⟩) (w_item l hst D cI cJ (fa 0) (fa 1) (fa 2) (fa 3) (fa 4) (fa 5) (fa 6) (fa 7) (fa 8) (fa 9) (fa 10) (fa 11) (fa 12) (fa 13) (fa 14) (fa 15) (fa 16) (fa 17) (fa 18) (fa 19) (fa 20) (fa 21) o0 (u.1 0) (u.1 1) (u.1 2) (u.1 3) (u.1 4) (u.1 5) (u.2.1 0) (u.2.1 1) (u.2.2 0) (u.2.2 1) (u.2.2 2) (u.2.2 3) (u.2.2 4) (u.2.2 5) (u.2.2 6) (u.2.2 7) (u.2.2 8) (u.2.2 9) (u.2.2 10) (u.2.2 11) (u.2.2 12) (u.2.2 13) g hn ht (xs (i + 1)) (xs (i + 2))) cx hK hX hP hD hA [0, 1, 2, 3, 4, 5, 6, 7, 8, 9, 10, 11, 12, 13, 14, 15, 16, 17, 18, 19, 20, 21, 34] [22, 23, 24, 25, 26, 27, 28, 29, 30, 31, 32, 33] [12, 13, 14, 15, 16, 17, 18, 19, 20, 21, 22, 23, 24, 25, 26, 27, 28, 29, 30, 31, 32, 33, 0, 1, 2, 3, 4, 5, 6, 7, 8, 9, 10, 11, 34] rfl rfl (by decide) (fun _ => rfl) hS rfl hl.1 rfl (Nat.le_of_ble_eq_true rfl) dL_law_335 hf (fun H locs k9 uu hw1 hP hD hS => ?_)
  refine lv_istore (lv' := [(5, .int k9), (4, .int (nI i)), (3, .ref o0), (2, .ref (ma 0)), (1, .ref (fa 0)), (0, .ref b)]) hx hb dL_law_338 hl (by decide) rfl (fun ls hl => ?_)
  refine lv_aload_n hx hb dL_law_340 rfl (lv_at hl 3 rfl) ?_
  refine lv_aload_n hx hb dL_law_341 rfl (lv_at hl 5 rfl) ?_
  refine lv_iload hx hb dL_law_342 (lv_at hl 1 rfl) ?_
  refine lv_iconst (v := nI 1) hx hb dL_law_344 (by decide) ?_
  refine lv_iadd hx hb dL_law_345 ?_
  refine lv_asi (nI_add _ _) ?_
  refine sld hx hb hXb hbl hbA hS (k := i + 1) (by omega) hL dL_law_346 ?_
  refine lv_aload_n hx hb dL_law_347 rfl (lv_at hl 5 rfl) ?_
  refine lv_iload hx hb dL_law_348 (lv_at hl 1 rfl) ?_
  refine lv_iconst (v := nI 2) hx hb dL_law_350 (by decide) ?_
  refine lv_iadd hx hb dL_law_351 ?_
  refine lv_asi (nI_add _ _) ?_
  refine sld hx hb hXb hbl hbA hS (k := i + 2) (by omega) hL dL_law_352 ?_
  refine Ci.callV (As := [.int (xs (i + 1)), .int (xs (i + 2))]) (rest := []) (wr := lwF cI fa uu.1 ++ [(o0, .inl (cJ, 1, .inr (.inl uu.2)))]) (wn := fun vv => lwW cI cJ fa ma o0 uu.1 vv uu.2) (cv_L_100 hg ⟨Nat.le_of_ble_eq_true rfl, Nat.le_of_ble_eq_true rfl⟩) (c_item l D cI (ma 0) (ma 1) (ma 2) (ma 3) (ma 4) (ma 5) (ma 6) (ma 7) (ma 8) (ma 9) (ma 10) (ma 11) (v.2.1 0) (v.2.1 1) (v.1 0) (v.1 1) (v.1 2) (v.1 3) (v.1 4) (v.2.2 0) (v.2.2 1) (v.2.2 2) (v.2.2 3) (v.2.2 4) (v.2.2 5) (v.2.2 6) (v.2.2 7) (v.2.2 8) (v.2.2 9) (v.2.2 10) (by omega) (by omega) (xs (i + 1)) (xs (i + 2)) (fun t h => by rw [(hN2 t (by omega)).1]; exact (hN2 t (by omega)).2.2)) cx hKI hP hD hA [22, 23, 24, 25, 26, 27, 28, 29, 30, 31, 32, 33] [0, 1, 2, 3, 4, 5, 6, 7, 8, 9, 10, 11, 12, 13, 14, 15, 16, 17, 18, 19, 20, 21, 34] [0, 1, 2, 3, 4, 5, 6, 7, 8, 9, 10, 11, 12, 13, 14, 15, 16, 17, 18, 19, 20, 21, 23, 24, 25, 26, 27, 28, 29, 30, 31, 32, 33, 34, 22] rfl rfl (by decide) (fun _ => rfl) (rq := 0) rfl rfl rfl hS rfl hl.1 rfl (Nat.le_of_ble_eq_true rfl) dL_law_353 ⟨hf.1, hf.2⟩ (fun H locs r9 vv hw2 hP hD hS => ?_)
  refine lv_istore (lv' := [(6, .int r9), (5, .int k9), (4, .int (nI i)), (3, .ref o0), (2, .ref (ma 0)), (1, .ref (fa 0)), (0, .ref b)]) hx hb dL_law_356 hl (by decide) rfl (fun ls hl => ?_)
  refine lv_aload_n hx hb dL_law_358 rfl (lv_at hl 4 rfl) ?_
  have hfin := rl_item hR (xs (i + 1)) (xs (i + 2)) k9 uu r9 vv hw1 hw2
  obtain ⟨e1, e2, hR1⟩ := hfin
  refine Cp.callV (As := []) (rest := []) (cv_L_88 hg ⟨Nat.le_of_ble_eq_true rfl, Nat.le_of_ble_eq_true rfl⟩) (k_thrown l D cI (ma 0) (ma 1) (ma 2) (ma 3) (ma 4) (ma 5) (ma 6) (ma 7) (ma 8) (ma 9) (ma 10) (ma 11) (vv.2.1 0) (vv.2.1 1) (vv.1 0) (vv.1 1) (vv.1 2) (vv.1 3) (vv.1 4)) cx hKI hP [22] rfl (rq := 0) rfl rfl rfl hS rfl hl.1 rfl (Nat.le_of_ble_eq_true rfl) dL_law_359 ⟨hf.1, hf.2⟩ (fun H locs hP hS => ?_)
  refine lv_iload hx hb dL_law_362 (lv_at hl 1 rfl) ?_
  refine lv_icmp_eq (tgt := 369) hx hb dL_law_364 (by decide) (fun _ => ?_) (fun c9 => absurd e1 c9)
  have kend : W p l e room_1 s m #[Value.ref b] below meth c H locs (cells + 1) (slots + 6) Q (F0 m 386 ls []) := lv_goto (tgt := 1353) hx hb dL_law_386 (by decide) (kk H locs ls uu.1 vv uu.2 hR1 hP hD hS (lv_sub hl [2, 3, 4, 5, 6] rfl))
  refine lv_iload hx hb dL_law_369 (lv_at hl 1 rfl) ?_
  refine lv_if_ne (tgt := 386) hx hb dL_law_371 (by decide) (fun _ => kend) (fun c9 => ?_)
  refine lv_aload_n hx hb dL_law_374 rfl (lv_at hl 3 rfl) ?_
  refine lv_iconst (v := nI 0) hx hb dL_law_375 (by decide) ?_
  refine va_lald hx hb hK hP 34 1 rfl rfl (vp_in_nI (by decide) (by decide)) dL_law_376 ?_
  refine lv_iload hx hb dL_law_377 (lv_at hl 0 rfl) ?_
  refine lv_i2l hx hb dL_law_379 rfl ?_
  refine W.lcmp hx hb dL_law_380 ?_
  refine lv_if_eq (tgt := 386) hx hb dL_law_381 (by decide) (fun _ => kend) (fun d9 => absurd (lc_eq.mpr (e2 (c9.trans nI_0.symm))) d9)

set_option maxHeartbeats 4000000 in
set_option maxRecDepth 100000 in
theorem lq_repeats (hst : l.stackTraces = false) {cI cJ : ClassId} (C0 : lwC p s m c D cI cJ b L xs) (hL : L ≤ 2560) {i : Nat} (hi : i + 5 ≤ L) (hf : cells + 1 ≤ 1082 ∧ slots + 6 ≤ 17720) {fa ma : Nat → Nat} {o0 : Nat} {u v : ff_S} {g : Nat → Int64} (hR : ff_Rel u v) (hP : va_P D vwCl (lwW cI cJ fa ma o0 u v g) H) (hD : va_D (lwA s) (lwW cI cJ fa ma o0 u v g)) (hS : va_S (lwA s) s.heap H locs) (hl : lv_has ls 7 [(4, .int (nI i)), (3, .ref o0), (2, .ref (ma 0)), (1, .ref (fa 0)), (0, .ref b)])
    (kk : ∀ (H1 : Heap) (locs1 : List Loc) (ls1 : Array Slot) (u1 v1 : ff_S) (g1 : Nat → Int64), ff_Rel u1 v1 → va_P D vwCl (lwW cI cJ fa ma o0 u1 v1 g1) H1 → va_D (lwA s) (lwW cI cJ fa ma o0 u1 v1 g1) → va_S (lwA s) s.heap H1 locs1 → lv_has ls1 7 [(4, .int (nI i)), (3, .ref o0), (2, .ref (ma 0)), (1, .ref (fa 0)), (0, .ref b)] → W p l e room_1 s m #[Value.ref b] below meth c H1 locs1 (cells + 1) (slots + 6) Q (F0 m 1353 ls1 [])) : W p l e room_1 s m #[Value.ref b] below meth c H locs cells slots Q (F0 m 389 ls []) := by
  obtain ⟨cx, hK, hXb, hbl, hX⟩ := C0
  obtain ⟨hx, hb, hml, hown, hg⟩ := id cx
  have hKI : va_K D vwCl (tI cI) s := hK.sub [0] rfl
  have hA : ∀ q : Nat, s.heap.size ≤ q → lwA s q := fun _ h => h
  have hbA : ¬ lwA s b := Nat.not_le.mpr hbl
  obtain ⟨⟨hn, en, hN2⟩, ⟨ht, et, hT2⟩, ⟨hg1, eg, hG2⟩, ⟨hp1, ep, hP2⟩, ⟨hq1, eq1, ec, hQ2⟩⟩ := id hR
  refine lv_aload_n hx hb dL_law_389 rfl (lv_at hl 3 rfl) ?_
  refine lv_aload_n hx hb dL_law_390 rfl (lv_at hl 4 rfl) ?_
  refine lv_iload hx hb dL_law_391 (lv_at hl 0 rfl) ?_
  refine lv_iconst (v := nI 1) hx hb dL_law_393 (by decide) ?_
  refine lv_iadd hx hb dL_law_394 ?_
  refine lv_asi (nI_add _ _) ?_
  refine sld hx hb hXb hbl hbA hS (k := i + 1) (by omega) hL dL_law_395 ?_
  refine lv_aload_n hx hb dL_law_396 rfl (lv_at hl 4 rfl) ?_
  refine lv_iload hx hb dL_law_397 (lv_at hl 0 rfl) ?_
  refine lv_iconst (v := nI 2) hx hb dL_law_399 (by decide) ?_
  refine lv_iadd hx hb dL_law_400 ?_
  refine lv_asi (nI_add _ _) ?_
  refine sld hx hb hXb hbl hbA hS (k := i + 2) (by omega) hL dL_law_401 ?_
  refine lv_aload_n hx hb dL_law_402 rfl (lv_at hl 1 rfl) ?_
  refine Cw.callS (As := [.ref (fa 0), .int (xs (i + 1)), .int (xs (i + 2)), .ref o0]) (rest := []) (wr := lwM cI ma v) (wn := fun uu => lwW cI cJ fa ma o0 uu.1 v uu.2) (cv_L_101 hg ⟨Nat.le_of_ble_eq_true rfl, Nat.le_of_ble_eq_true rfl⟩) (w_repeats l hst D cI cJ (fa 0) (fa 1) (fa 2) (fa 3) (fa 4) (fa 5) (fa 6) (fa 7) (fa 8) (fa 9) (fa 10) (fa 11) (fa 12) (fa 13) (fa 14) (fa 15) (fa 16) (fa 17) (fa 18) (fa 19) (fa 20) (fa 21) o0 (u.1 0) (u.1 1) (u.1 2) (u.1 3) (u.1 4) (u.1 5) (u.2.1 0) (u.2.1 1) (u.2.2 0) (u.2.2 1) (u.2.2 2) (u.2.2 3) (u.2.2 4) (u.2.2 5) (u.2.2 6) (u.2.2 7) (u.2.2 8) (u.2.2 9) (u.2.2 10) (u.2.2 11) (u.2.2 12) (u.2.2 13) g hn ht (xs (i + 1)) (xs (i + 2))) cx hK hX hP hD hA [0, 1, 2, 3, 4, 5, 6, 7, 8, 9, 10, 11, 12, 13, 14, 15, 16, 17, 18, 19, 20, 21, 34] [22, 23, 24, 25, 26, 27, 28, 29, 30, 31, 32, 33] [12, 13, 14, 15, 16, 17, 18, 19, 20, 21, 22, 23, 24, 25, 26, 27, 28, 29, 30, 31, 32, 33, 0, 1, 2, 3, 4, 5, 6, 7, 8, 9, 10, 11, 34] rfl rfl (by decide) (fun _ => rfl) hS rfl hl.1 rfl (Nat.le_of_ble_eq_true rfl) dL_law_403 hf (fun H locs k9 uu hw1 hP hD hS => ?_)
  refine lv_istore (lv' := [(5, .int k9), (4, .int (nI i)), (3, .ref o0), (2, .ref (ma 0)), (1, .ref (fa 0)), (0, .ref b)]) hx hb dL_law_406 hl (by decide) rfl (fun ls hl => ?_)
  refine lv_aload_n hx hb dL_law_408 rfl (lv_at hl 3 rfl) ?_
  refine lv_aload_n hx hb dL_law_409 rfl (lv_at hl 5 rfl) ?_
  refine lv_iload hx hb dL_law_410 (lv_at hl 1 rfl) ?_
  refine lv_iconst (v := nI 1) hx hb dL_law_412 (by decide) ?_
  refine lv_iadd hx hb dL_law_413 ?_
  refine lv_asi (nI_add _ _) ?_
  refine sld hx hb hXb hbl hbA hS (k := i + 1) (by omega) hL dL_law_414 ?_
  refine lv_aload_n hx hb dL_law_415 rfl (lv_at hl 5 rfl) ?_
  refine lv_iload hx hb dL_law_416 (lv_at hl 1 rfl) ?_
  refine lv_iconst (v := nI 2) hx hb dL_law_418 (by decide) ?_
  refine lv_iadd hx hb dL_law_419 ?_
  refine lv_asi (nI_add _ _) ?_
  refine sld hx hb hXb hbl hbA hS (k := i + 2) (by omega) hL dL_law_420 ?_
  refine Ci.callV (As := [.int (xs (i + 1)), .int (xs (i + 2))]) (rest := []) (wr := lwF cI fa uu.1 ++ [(o0, .inl (cJ, 1, .inr (.inl uu.2)))]) (wn := fun vv => lwW cI cJ fa ma o0 uu.1 vv uu.2) (cv_L_103 hg ⟨Nat.le_of_ble_eq_true rfl, Nat.le_of_ble_eq_true rfl⟩) (c_repeats l D cI (ma 0) (ma 1) (ma 2) (ma 3) (ma 4) (ma 5) (ma 6) (ma 7) (ma 8) (ma 9) (ma 10) (ma 11) (v.2.1 0) (v.2.1 1) (v.1 0) (v.1 1) (v.1 2) (v.1 3) (v.1 4) (v.2.2 0) (v.2.2 1) (v.2.2 2) (v.2.2 3) (v.2.2 4) (v.2.2 5) (v.2.2 6) (v.2.2 7) (v.2.2 8) (v.2.2 9) (v.2.2 10) (by omega) (by omega) (xs (i + 1)) (xs (i + 2)) (fun t h => by rw [(hN2 t (by omega)).1]; exact (hN2 t (by omega)).2.2)) cx hKI hP hD hA [22, 23, 24, 25, 26, 27, 28, 29, 30, 31, 32, 33] [0, 1, 2, 3, 4, 5, 6, 7, 8, 9, 10, 11, 12, 13, 14, 15, 16, 17, 18, 19, 20, 21, 34] [0, 1, 2, 3, 4, 5, 6, 7, 8, 9, 10, 11, 12, 13, 14, 15, 16, 17, 18, 19, 20, 21, 23, 24, 25, 26, 27, 28, 29, 30, 31, 32, 33, 34, 22] rfl rfl (by decide) (fun _ => rfl) (rq := 0) rfl rfl rfl hS rfl hl.1 rfl (Nat.le_of_ble_eq_true rfl) dL_law_421 ⟨hf.1, hf.2⟩ (fun H locs r9 vv hw2 hP hD hS => ?_)
  refine lv_istore (lv' := [(6, .int r9), (5, .int k9), (4, .int (nI i)), (3, .ref o0), (2, .ref (ma 0)), (1, .ref (fa 0)), (0, .ref b)]) hx hb dL_law_424 hl (by decide) rfl (fun ls hl => ?_)
  refine lv_aload_n hx hb dL_law_426 rfl (lv_at hl 4 rfl) ?_
  have hfin := rl_repeats hR (xs (i + 1)) (xs (i + 2)) k9 uu r9 vv hw1 hw2
  obtain ⟨e1, e2, hR1⟩ := hfin
  refine Cp.callV (As := []) (rest := []) (cv_L_88 hg ⟨Nat.le_of_ble_eq_true rfl, Nat.le_of_ble_eq_true rfl⟩) (k_thrown l D cI (ma 0) (ma 1) (ma 2) (ma 3) (ma 4) (ma 5) (ma 6) (ma 7) (ma 8) (ma 9) (ma 10) (ma 11) (vv.2.1 0) (vv.2.1 1) (vv.1 0) (vv.1 1) (vv.1 2) (vv.1 3) (vv.1 4)) cx hKI hP [22] rfl (rq := 0) rfl rfl rfl hS rfl hl.1 rfl (Nat.le_of_ble_eq_true rfl) dL_law_427 ⟨hf.1, hf.2⟩ (fun H locs hP hS => ?_)
  refine lv_iload hx hb dL_law_430 (lv_at hl 1 rfl) ?_
  refine lv_icmp_eq (tgt := 437) hx hb dL_law_432 (by decide) (fun _ => ?_) (fun c9 => absurd e1 c9)
  have kend : W p l e room_1 s m #[Value.ref b] below meth c H locs (cells + 1) (slots + 6) Q (F0 m 454 ls []) := lv_goto (tgt := 1353) hx hb dL_law_454 (by decide) (kk H locs ls uu.1 vv uu.2 hR1 hP hD hS (lv_sub hl [2, 3, 4, 5, 6] rfl))
  refine lv_iload hx hb dL_law_437 (lv_at hl 1 rfl) ?_
  refine lv_if_ne (tgt := 454) hx hb dL_law_439 (by decide) (fun _ => kend) (fun c9 => ?_)
  refine lv_aload_n hx hb dL_law_442 rfl (lv_at hl 3 rfl) ?_
  refine lv_iconst (v := nI 0) hx hb dL_law_443 (by decide) ?_
  refine va_lald hx hb hK hP 34 1 rfl rfl (vp_in_nI (by decide) (by decide)) dL_law_444 ?_
  refine lv_iload hx hb dL_law_445 (lv_at hl 0 rfl) ?_
  refine lv_i2l hx hb dL_law_447 rfl ?_
  refine W.lcmp hx hb dL_law_448 ?_
  refine lv_if_eq (tgt := 454) hx hb dL_law_449 (by decide) (fun _ => kend) (fun d9 => absurd (lc_eq.mpr (e2 (c9.trans nI_0.symm))) d9)

set_option maxHeartbeats 4000000 in
set_option maxRecDepth 100000 in
theorem lq_repeat (hst : l.stackTraces = false) {cI cJ : ClassId} (C0 : lwC p s m c D cI cJ b L xs) (hL : L ≤ 2560) {i : Nat} (hi : i + 5 ≤ L) (hf : cells + 1 ≤ 1082 ∧ slots + 6 ≤ 17720) {fa ma : Nat → Nat} {o0 : Nat} {u v : ff_S} {g : Nat → Int64} (hR : ff_Rel u v) (hP : va_P D vwCl (lwW cI cJ fa ma o0 u v g) H) (hD : va_D (lwA s) (lwW cI cJ fa ma o0 u v g)) (hS : va_S (lwA s) s.heap H locs) (hl : lv_has ls 7 [(4, .int (nI i)), (3, .ref o0), (2, .ref (ma 0)), (1, .ref (fa 0)), (0, .ref b)])
    (kk : ∀ (H1 : Heap) (locs1 : List Loc) (ls1 : Array Slot) (u1 v1 : ff_S) (g1 : Nat → Int64), ff_Rel u1 v1 → va_P D vwCl (lwW cI cJ fa ma o0 u1 v1 g1) H1 → va_D (lwA s) (lwW cI cJ fa ma o0 u1 v1 g1) → va_S (lwA s) s.heap H1 locs1 → lv_has ls1 7 [(4, .int (nI i)), (3, .ref o0), (2, .ref (ma 0)), (1, .ref (fa 0)), (0, .ref b)] → W p l e room_1 s m #[Value.ref b] below meth c H1 locs1 (cells + 1) (slots + 6) Q (F0 m 1353 ls1 [])) : W p l e room_1 s m #[Value.ref b] below meth c H locs cells slots Q (F0 m 457 ls []) := by
  obtain ⟨cx, hK, hXb, hbl, hX⟩ := C0
  obtain ⟨hx, hb, hml, hown, hg⟩ := id cx
  have hKI : va_K D vwCl (tI cI) s := hK.sub [0] rfl
  have hA : ∀ q : Nat, s.heap.size ≤ q → lwA s q := fun _ h => h
  have hbA : ¬ lwA s b := Nat.not_le.mpr hbl
  obtain ⟨⟨hn, en, hN2⟩, ⟨ht, et, hT2⟩, ⟨hg1, eg, hG2⟩, ⟨hp1, ep, hP2⟩, ⟨hq1, eq1, ec, hQ2⟩⟩ := id hR
  refine lv_aload_n hx hb dL_law_457 rfl (lv_at hl 3 rfl) ?_
  refine lv_aload_n hx hb dL_law_458 rfl (lv_at hl 4 rfl) ?_
  refine lv_iload hx hb dL_law_459 (lv_at hl 0 rfl) ?_
  refine lv_iconst (v := nI 1) hx hb dL_law_461 (by decide) ?_
  refine lv_iadd hx hb dL_law_462 ?_
  refine lv_asi (nI_add _ _) ?_
  refine sld hx hb hXb hbl hbA hS (k := i + 1) (by omega) hL dL_law_463 ?_
  refine lv_aload_n hx hb dL_law_464 rfl (lv_at hl 4 rfl) ?_
  refine lv_iload hx hb dL_law_465 (lv_at hl 0 rfl) ?_
  refine lv_iconst (v := nI 2) hx hb dL_law_467 (by decide) ?_
  refine lv_iadd hx hb dL_law_468 ?_
  refine lv_asi (nI_add _ _) ?_
  refine sld hx hb hXb hbl hbA hS (k := i + 2) (by omega) hL dL_law_469 ?_
  refine lv_aload_n hx hb dL_law_470 rfl (lv_at hl 1 rfl) ?_
  refine Cw.callS (As := [.ref (fa 0), .int (xs (i + 1)), .int (xs (i + 2)), .ref o0]) (rest := []) (wr := lwM cI ma v) (wn := fun uu => lwW cI cJ fa ma o0 uu.1 v uu.2) (cv_L_104 hg ⟨Nat.le_of_ble_eq_true rfl, Nat.le_of_ble_eq_true rfl⟩) (w_repeat l hst D cI cJ (fa 0) (fa 1) (fa 2) (fa 3) (fa 4) (fa 5) (fa 6) (fa 7) (fa 8) (fa 9) (fa 10) (fa 11) (fa 12) (fa 13) (fa 14) (fa 15) (fa 16) (fa 17) (fa 18) (fa 19) (fa 20) (fa 21) o0 (u.1 0) (u.1 1) (u.1 2) (u.1 3) (u.1 4) (u.1 5) (u.2.1 0) (u.2.1 1) (u.2.2 0) (u.2.2 1) (u.2.2 2) (u.2.2 3) (u.2.2 4) (u.2.2 5) (u.2.2 6) (u.2.2 7) (u.2.2 8) (u.2.2 9) (u.2.2 10) (u.2.2 11) (u.2.2 12) (u.2.2 13) g hn ht (xs (i + 1)) (xs (i + 2)) hg1) cx hK hX hP hD hA [0, 1, 2, 3, 4, 5, 6, 7, 8, 9, 10, 11, 12, 13, 14, 15, 16, 17, 18, 19, 20, 21, 34] [22, 23, 24, 25, 26, 27, 28, 29, 30, 31, 32, 33] [12, 13, 14, 15, 16, 17, 18, 19, 20, 21, 22, 23, 24, 25, 26, 27, 28, 29, 30, 31, 32, 33, 0, 1, 2, 3, 4, 5, 6, 7, 8, 9, 10, 11, 34] rfl rfl (by decide) (fun _ => rfl) hS rfl hl.1 rfl (Nat.le_of_ble_eq_true rfl) dL_law_471 hf (fun H locs k9 uu hw1 hP hD hS => ?_)
  refine lv_istore (lv' := [(5, .int k9), (4, .int (nI i)), (3, .ref o0), (2, .ref (ma 0)), (1, .ref (fa 0)), (0, .ref b)]) hx hb dL_law_474 hl (by decide) rfl (fun ls hl => ?_)
  refine lv_aload_n hx hb dL_law_476 rfl (lv_at hl 3 rfl) ?_
  refine lv_aload_n hx hb dL_law_477 rfl (lv_at hl 5 rfl) ?_
  refine lv_iload hx hb dL_law_478 (lv_at hl 1 rfl) ?_
  refine lv_iconst (v := nI 1) hx hb dL_law_480 (by decide) ?_
  refine lv_iadd hx hb dL_law_481 ?_
  refine lv_asi (nI_add _ _) ?_
  refine sld hx hb hXb hbl hbA hS (k := i + 1) (by omega) hL dL_law_482 ?_
  refine lv_aload_n hx hb dL_law_483 rfl (lv_at hl 5 rfl) ?_
  refine lv_iload hx hb dL_law_484 (lv_at hl 1 rfl) ?_
  refine lv_iconst (v := nI 2) hx hb dL_law_486 (by decide) ?_
  refine lv_iadd hx hb dL_law_487 ?_
  refine lv_asi (nI_add _ _) ?_
  refine sld hx hb hXb hbl hbA hS (k := i + 2) (by omega) hL dL_law_488 ?_
  refine Ci.callV (As := [.int (xs (i + 1)), .int (xs (i + 2))]) (rest := []) (wr := lwF cI fa uu.1 ++ [(o0, .inl (cJ, 1, .inr (.inl uu.2)))]) (wn := fun vv => lwW cI cJ fa ma o0 uu.1 vv uu.2) (cv_L_106 hg ⟨Nat.le_of_ble_eq_true rfl, Nat.le_of_ble_eq_true rfl⟩) (c_repeat l D cI (ma 0) (ma 1) (ma 2) (ma 3) (ma 4) (ma 5) (ma 6) (ma 7) (ma 8) (ma 9) (ma 10) (ma 11) (v.2.1 0) (v.2.1 1) (v.1 0) (v.1 1) (v.1 2) (v.1 3) (v.1 4) (v.2.2 0) (v.2.2 1) (v.2.2 2) (v.2.2 3) (v.2.2 4) (v.2.2 5) (v.2.2 6) (v.2.2 7) (v.2.2 8) (v.2.2 9) (v.2.2 10) (by omega) (by omega) (xs (i + 1)) (xs (i + 2)) (by omega)) cx hKI hP hD hA [22, 23, 24, 25, 26, 27, 28, 29, 30, 31, 32, 33] [0, 1, 2, 3, 4, 5, 6, 7, 8, 9, 10, 11, 12, 13, 14, 15, 16, 17, 18, 19, 20, 21, 34] [0, 1, 2, 3, 4, 5, 6, 7, 8, 9, 10, 11, 12, 13, 14, 15, 16, 17, 18, 19, 20, 21, 23, 24, 25, 26, 27, 28, 29, 30, 31, 32, 33, 34, 22] rfl rfl (by decide) (fun _ => rfl) (rq := 0) rfl rfl rfl hS rfl hl.1 rfl (Nat.le_of_ble_eq_true rfl) dL_law_489 ⟨hf.1, hf.2⟩ (fun H locs r9 vv hw2 hP hD hS => ?_)
  refine lv_istore (lv' := [(6, .int r9), (5, .int k9), (4, .int (nI i)), (3, .ref o0), (2, .ref (ma 0)), (1, .ref (fa 0)), (0, .ref b)]) hx hb dL_law_492 hl (by decide) rfl (fun ls hl => ?_)
  refine lv_aload_n hx hb dL_law_494 rfl (lv_at hl 4 rfl) ?_
  have hfin := rl_repeat hR (xs (i + 1)) (xs (i + 2)) k9 uu r9 vv hw1 hw2
  obtain ⟨e1, e2, hR1⟩ := hfin
  refine Cp.callV (As := []) (rest := []) (cv_L_88 hg ⟨Nat.le_of_ble_eq_true rfl, Nat.le_of_ble_eq_true rfl⟩) (k_thrown l D cI (ma 0) (ma 1) (ma 2) (ma 3) (ma 4) (ma 5) (ma 6) (ma 7) (ma 8) (ma 9) (ma 10) (ma 11) (vv.2.1 0) (vv.2.1 1) (vv.1 0) (vv.1 1) (vv.1 2) (vv.1 3) (vv.1 4)) cx hKI hP [22] rfl (rq := 0) rfl rfl rfl hS rfl hl.1 rfl (Nat.le_of_ble_eq_true rfl) dL_law_495 ⟨hf.1, hf.2⟩ (fun H locs hP hS => ?_)
  refine lv_iload hx hb dL_law_498 (lv_at hl 1 rfl) ?_
  refine lv_icmp_eq (tgt := 505) hx hb dL_law_500 (by decide) (fun _ => ?_) (fun c9 => absurd e1 c9)
  have kend : W p l e room_1 s m #[Value.ref b] below meth c H locs (cells + 1) (slots + 6) Q (F0 m 522 ls []) := lv_goto (tgt := 1353) hx hb dL_law_522 (by decide) (kk H locs ls uu.1 vv uu.2 hR1 hP hD hS (lv_sub hl [2, 3, 4, 5, 6] rfl))
  refine lv_iload hx hb dL_law_505 (lv_at hl 1 rfl) ?_
  refine lv_if_ne (tgt := 522) hx hb dL_law_507 (by decide) (fun _ => kend) (fun c9 => ?_)
  refine lv_aload_n hx hb dL_law_510 rfl (lv_at hl 3 rfl) ?_
  refine lv_iconst (v := nI 0) hx hb dL_law_511 (by decide) ?_
  refine va_lald hx hb hK hP 34 1 rfl rfl (vp_in_nI (by decide) (by decide)) dL_law_512 ?_
  refine lv_iload hx hb dL_law_513 (lv_at hl 0 rfl) ?_
  refine lv_i2l hx hb dL_law_515 rfl ?_
  refine W.lcmp hx hb dL_law_516 ?_
  refine lv_if_eq (tgt := 522) hx hb dL_law_517 (by decide) (fun _ => kend) (fun d9 => absurd (lc_eq.mpr (e2 (c9.trans nI_0.symm))) d9)

set_option maxHeartbeats 4000000 in
set_option maxRecDepth 100000 in
theorem lq_passages (hst : l.stackTraces = false) {cI cJ : ClassId} (C0 : lwC p s m c D cI cJ b L xs) (hL : L ≤ 2560) {i : Nat} (hi : i + 5 ≤ L) (hf : cells + 1 ≤ 1082 ∧ slots + 6 ≤ 17720) {fa ma : Nat → Nat} {o0 : Nat} {u v : ff_S} {g : Nat → Int64} (hR : ff_Rel u v) (hP : va_P D vwCl (lwW cI cJ fa ma o0 u v g) H) (hD : va_D (lwA s) (lwW cI cJ fa ma o0 u v g)) (hS : va_S (lwA s) s.heap H locs) (hl : lv_has ls 7 [(4, .int (nI i)), (3, .ref o0), (2, .ref (ma 0)), (1, .ref (fa 0)), (0, .ref b)])
    (kk : ∀ (H1 : Heap) (locs1 : List Loc) (ls1 : Array Slot) (u1 v1 : ff_S) (g1 : Nat → Int64), ff_Rel u1 v1 → va_P D vwCl (lwW cI cJ fa ma o0 u1 v1 g1) H1 → va_D (lwA s) (lwW cI cJ fa ma o0 u1 v1 g1) → va_S (lwA s) s.heap H1 locs1 → lv_has ls1 7 [(4, .int (nI i)), (3, .ref o0), (2, .ref (ma 0)), (1, .ref (fa 0)), (0, .ref b)] → W p l e room_1 s m #[Value.ref b] below meth c H1 locs1 (cells + 1) (slots + 6) Q (F0 m 1353 ls1 [])) : W p l e room_1 s m #[Value.ref b] below meth c H locs cells slots Q (F0 m 525 ls []) := by
  obtain ⟨cx, hK, hXb, hbl, hX⟩ := C0
  obtain ⟨hx, hb, hml, hown, hg⟩ := id cx
  have hKI : va_K D vwCl (tI cI) s := hK.sub [0] rfl
  have hA : ∀ q : Nat, s.heap.size ≤ q → lwA s q := fun _ h => h
  have hbA : ¬ lwA s b := Nat.not_le.mpr hbl
  obtain ⟨⟨hn, en, hN2⟩, ⟨ht, et, hT2⟩, ⟨hg1, eg, hG2⟩, ⟨hp1, ep, hP2⟩, ⟨hq1, eq1, ec, hQ2⟩⟩ := id hR
  refine lv_aload_n hx hb dL_law_525 rfl (lv_at hl 3 rfl) ?_
  refine lv_aload_n hx hb dL_law_526 rfl (lv_at hl 4 rfl) ?_
  refine lv_iload hx hb dL_law_527 (lv_at hl 0 rfl) ?_
  refine lv_iconst (v := nI 1) hx hb dL_law_529 (by decide) ?_
  refine lv_iadd hx hb dL_law_530 ?_
  refine lv_asi (nI_add _ _) ?_
  refine sld hx hb hXb hbl hbA hS (k := i + 1) (by omega) hL dL_law_531 ?_
  refine lv_aload_n hx hb dL_law_532 rfl (lv_at hl 4 rfl) ?_
  refine lv_iload hx hb dL_law_533 (lv_at hl 0 rfl) ?_
  refine lv_iconst (v := nI 2) hx hb dL_law_535 (by decide) ?_
  refine lv_iadd hx hb dL_law_536 ?_
  refine lv_asi (nI_add _ _) ?_
  refine sld hx hb hXb hbl hbA hS (k := i + 2) (by omega) hL dL_law_537 ?_
  refine lv_aload_n hx hb dL_law_538 rfl (lv_at hl 1 rfl) ?_
  refine Cw.callS (As := [.ref (fa 0), .int (xs (i + 1)), .int (xs (i + 2)), .ref o0]) (rest := []) (wr := lwM cI ma v) (wn := fun uu => lwW cI cJ fa ma o0 uu.1 v uu.2) (cv_L_107 hg ⟨Nat.le_of_ble_eq_true rfl, Nat.le_of_ble_eq_true rfl⟩) (w_passages l hst D cI cJ (fa 0) (fa 1) (fa 2) (fa 3) (fa 4) (fa 5) (fa 6) (fa 7) (fa 8) (fa 9) (fa 10) (fa 11) (fa 12) (fa 13) (fa 14) (fa 15) (fa 16) (fa 17) (fa 18) (fa 19) (fa 20) (fa 21) o0 (u.1 0) (u.1 1) (u.1 2) (u.1 3) (u.1 4) (u.1 5) (u.2.1 0) (u.2.1 1) (u.2.2 0) (u.2.2 1) (u.2.2 2) (u.2.2 3) (u.2.2 4) (u.2.2 5) (u.2.2 6) (u.2.2 7) (u.2.2 8) (u.2.2 9) (u.2.2 10) (u.2.2 11) (u.2.2 12) (u.2.2 13) g hn ht (xs (i + 1)) (xs (i + 2))) cx hK hX hP hD hA [0, 1, 2, 3, 4, 5, 6, 7, 8, 9, 10, 11, 12, 13, 14, 15, 16, 17, 18, 19, 20, 21, 34] [22, 23, 24, 25, 26, 27, 28, 29, 30, 31, 32, 33] [12, 13, 14, 15, 16, 17, 18, 19, 20, 21, 22, 23, 24, 25, 26, 27, 28, 29, 30, 31, 32, 33, 0, 1, 2, 3, 4, 5, 6, 7, 8, 9, 10, 11, 34] rfl rfl (by decide) (fun _ => rfl) hS rfl hl.1 rfl (Nat.le_of_ble_eq_true rfl) dL_law_539 hf (fun H locs k9 uu hw1 hP hD hS => ?_)
  refine lv_istore (lv' := [(5, .int k9), (4, .int (nI i)), (3, .ref o0), (2, .ref (ma 0)), (1, .ref (fa 0)), (0, .ref b)]) hx hb dL_law_542 hl (by decide) rfl (fun ls hl => ?_)
  refine lv_aload_n hx hb dL_law_544 rfl (lv_at hl 3 rfl) ?_
  refine lv_aload_n hx hb dL_law_545 rfl (lv_at hl 5 rfl) ?_
  refine lv_iload hx hb dL_law_546 (lv_at hl 1 rfl) ?_
  refine lv_iconst (v := nI 1) hx hb dL_law_548 (by decide) ?_
  refine lv_iadd hx hb dL_law_549 ?_
  refine lv_asi (nI_add _ _) ?_
  refine sld hx hb hXb hbl hbA hS (k := i + 1) (by omega) hL dL_law_550 ?_
  refine lv_aload_n hx hb dL_law_551 rfl (lv_at hl 5 rfl) ?_
  refine lv_iload hx hb dL_law_552 (lv_at hl 1 rfl) ?_
  refine lv_iconst (v := nI 2) hx hb dL_law_554 (by decide) ?_
  refine lv_iadd hx hb dL_law_555 ?_
  refine lv_asi (nI_add _ _) ?_
  refine sld hx hb hXb hbl hbA hS (k := i + 2) (by omega) hL dL_law_556 ?_
  refine Ci.callV (As := [.int (xs (i + 1)), .int (xs (i + 2))]) (rest := []) (wr := lwF cI fa uu.1 ++ [(o0, .inl (cJ, 1, .inr (.inl uu.2)))]) (wn := fun vv => lwW cI cJ fa ma o0 uu.1 vv uu.2) (cv_L_109 hg ⟨Nat.le_of_ble_eq_true rfl, Nat.le_of_ble_eq_true rfl⟩) (c_passages l D cI (ma 0) (ma 1) (ma 2) (ma 3) (ma 4) (ma 5) (ma 6) (ma 7) (ma 8) (ma 9) (ma 10) (ma 11) (v.2.1 0) (v.2.1 1) (v.1 0) (v.1 1) (v.1 2) (v.1 3) (v.1 4) (v.2.2 0) (v.2.2 1) (v.2.2 2) (v.2.2 3) (v.2.2 4) (v.2.2 5) (v.2.2 6) (v.2.2 7) (v.2.2 8) (v.2.2 9) (v.2.2 10) (by omega) (by omega) (xs (i + 1)) (xs (i + 2)) (fun t h => by rw [(hN2 t (by omega)).1]; exact (hN2 t (by omega)).2.2)) cx hKI hP hD hA [22, 23, 24, 25, 26, 27, 28, 29, 30, 31, 32, 33] [0, 1, 2, 3, 4, 5, 6, 7, 8, 9, 10, 11, 12, 13, 14, 15, 16, 17, 18, 19, 20, 21, 34] [0, 1, 2, 3, 4, 5, 6, 7, 8, 9, 10, 11, 12, 13, 14, 15, 16, 17, 18, 19, 20, 21, 23, 24, 25, 26, 27, 28, 29, 30, 31, 32, 33, 34, 22] rfl rfl (by decide) (fun _ => rfl) (rq := 0) rfl rfl rfl hS rfl hl.1 rfl (Nat.le_of_ble_eq_true rfl) dL_law_557 ⟨hf.1, hf.2⟩ (fun H locs r9 vv hw2 hP hD hS => ?_)
  refine lv_istore (lv' := [(6, .int r9), (5, .int k9), (4, .int (nI i)), (3, .ref o0), (2, .ref (ma 0)), (1, .ref (fa 0)), (0, .ref b)]) hx hb dL_law_560 hl (by decide) rfl (fun ls hl => ?_)
  refine lv_aload_n hx hb dL_law_562 rfl (lv_at hl 4 rfl) ?_
  have hfin := rl_passages hR (xs (i + 1)) (xs (i + 2)) k9 uu r9 vv hw1 hw2
  obtain ⟨e1, e2, hR1⟩ := hfin
  refine Cp.callV (As := []) (rest := []) (cv_L_88 hg ⟨Nat.le_of_ble_eq_true rfl, Nat.le_of_ble_eq_true rfl⟩) (k_thrown l D cI (ma 0) (ma 1) (ma 2) (ma 3) (ma 4) (ma 5) (ma 6) (ma 7) (ma 8) (ma 9) (ma 10) (ma 11) (vv.2.1 0) (vv.2.1 1) (vv.1 0) (vv.1 1) (vv.1 2) (vv.1 3) (vv.1 4)) cx hKI hP [22] rfl (rq := 0) rfl rfl rfl hS rfl hl.1 rfl (Nat.le_of_ble_eq_true rfl) dL_law_563 ⟨hf.1, hf.2⟩ (fun H locs hP hS => ?_)
  refine lv_iload hx hb dL_law_566 (lv_at hl 1 rfl) ?_
  refine lv_icmp_eq (tgt := 573) hx hb dL_law_568 (by decide) (fun _ => ?_) (fun c9 => absurd e1 c9)
  have kend : W p l e room_1 s m #[Value.ref b] below meth c H locs (cells + 1) (slots + 6) Q (F0 m 590 ls []) := lv_goto (tgt := 1353) hx hb dL_law_590 (by decide) (kk H locs ls uu.1 vv uu.2 hR1 hP hD hS (lv_sub hl [2, 3, 4, 5, 6] rfl))
  refine lv_iload hx hb dL_law_573 (lv_at hl 1 rfl) ?_
  refine lv_if_ne (tgt := 590) hx hb dL_law_575 (by decide) (fun _ => kend) (fun c9 => ?_)
  refine lv_aload_n hx hb dL_law_578 rfl (lv_at hl 3 rfl) ?_
  refine lv_iconst (v := nI 0) hx hb dL_law_579 (by decide) ?_
  refine va_lald hx hb hK hP 34 1 rfl rfl (vp_in_nI (by decide) (by decide)) dL_law_580 ?_
  refine lv_iload hx hb dL_law_581 (lv_at hl 0 rfl) ?_
  refine lv_i2l hx hb dL_law_583 rfl ?_
  refine W.lcmp hx hb dL_law_584 ?_
  refine lv_if_eq (tgt := 590) hx hb dL_law_585 (by decide) (fun _ => kend) (fun d9 => absurd (lc_eq.mpr (e2 (c9.trans nI_0.symm))) d9)

set_option maxHeartbeats 4000000 in
set_option maxRecDepth 100000 in
theorem lq_period (hst : l.stackTraces = false) {cI cJ : ClassId} (C0 : lwC p s m c D cI cJ b L xs) (hL : L ≤ 2560) {i : Nat} (hi : i + 5 ≤ L) (hf : cells + 1 ≤ 1082 ∧ slots + 6 ≤ 17720) {fa ma : Nat → Nat} {o0 : Nat} {u v : ff_S} {g : Nat → Int64} (hR : ff_Rel u v) (hP : va_P D vwCl (lwW cI cJ fa ma o0 u v g) H) (hD : va_D (lwA s) (lwW cI cJ fa ma o0 u v g)) (hS : va_S (lwA s) s.heap H locs) (hl : lv_has ls 7 [(4, .int (nI i)), (3, .ref o0), (2, .ref (ma 0)), (1, .ref (fa 0)), (0, .ref b)])
    (kk : ∀ (H1 : Heap) (locs1 : List Loc) (ls1 : Array Slot) (u1 v1 : ff_S) (g1 : Nat → Int64), ff_Rel u1 v1 → va_P D vwCl (lwW cI cJ fa ma o0 u1 v1 g1) H1 → va_D (lwA s) (lwW cI cJ fa ma o0 u1 v1 g1) → va_S (lwA s) s.heap H1 locs1 → lv_has ls1 7 [(4, .int (nI i)), (3, .ref o0), (2, .ref (ma 0)), (1, .ref (fa 0)), (0, .ref b)] → W p l e room_1 s m #[Value.ref b] below meth c H1 locs1 (cells + 1) (slots + 6) Q (F0 m 1353 ls1 [])) : W p l e room_1 s m #[Value.ref b] below meth c H locs cells slots Q (F0 m 593 ls []) := by
  obtain ⟨cx, hK, hXb, hbl, hX⟩ := C0
  obtain ⟨hx, hb, hml, hown, hg⟩ := id cx
  have hKI : va_K D vwCl (tI cI) s := hK.sub [0] rfl
  have hA : ∀ q : Nat, s.heap.size ≤ q → lwA s q := fun _ h => h
  have hbA : ¬ lwA s b := Nat.not_le.mpr hbl
  obtain ⟨⟨hn, en, hN2⟩, ⟨ht, et, hT2⟩, ⟨hg1, eg, hG2⟩, ⟨hp1, ep, hP2⟩, ⟨hq1, eq1, ec, hQ2⟩⟩ := id hR
  refine lv_aload_n hx hb dL_law_593 rfl (lv_at hl 3 rfl) ?_
  refine lv_aload_n hx hb dL_law_594 rfl (lv_at hl 4 rfl) ?_
  refine lv_iload hx hb dL_law_595 (lv_at hl 0 rfl) ?_
  refine lv_iconst (v := nI 1) hx hb dL_law_597 (by decide) ?_
  refine lv_iadd hx hb dL_law_598 ?_
  refine lv_asi (nI_add _ _) ?_
  refine sld hx hb hXb hbl hbA hS (k := i + 1) (by omega) hL dL_law_599 ?_
  refine lv_aload_n hx hb dL_law_600 rfl (lv_at hl 1 rfl) ?_
  refine Cw.callS (As := [.ref (fa 0), .int (xs (i + 1)), .ref o0]) (rest := []) (wr := lwM cI ma v) (wn := fun uu => lwW cI cJ fa ma o0 uu.1 v uu.2) (cv_L_110 hg ⟨Nat.le_of_ble_eq_true rfl, Nat.le_of_ble_eq_true rfl⟩) (w_period l hst D cI cJ (fa 0) (fa 1) (fa 2) (fa 3) (fa 4) (fa 5) (fa 6) (fa 7) (fa 8) (fa 9) (fa 10) (fa 11) (fa 12) (fa 13) (fa 14) (fa 15) (fa 16) (fa 17) (fa 18) (fa 19) (fa 20) (fa 21) o0 (u.1 0) (u.1 1) (u.1 2) (u.1 3) (u.1 4) (u.1 5) (u.2.1 0) (u.2.1 1) (u.2.2 0) (u.2.2 1) (u.2.2 2) (u.2.2 3) (u.2.2 4) (u.2.2 5) (u.2.2 6) (u.2.2 7) (u.2.2 8) (u.2.2 9) (u.2.2 10) (u.2.2 11) (u.2.2 12) (u.2.2 13) g hn ht (xs (i + 1))) cx hK hX hP hD hA [0, 1, 2, 3, 4, 5, 6, 7, 8, 9, 10, 11, 12, 13, 14, 15, 16, 17, 18, 19, 20, 21, 34] [22, 23, 24, 25, 26, 27, 28, 29, 30, 31, 32, 33] [12, 13, 14, 15, 16, 17, 18, 19, 20, 21, 22, 23, 24, 25, 26, 27, 28, 29, 30, 31, 32, 33, 0, 1, 2, 3, 4, 5, 6, 7, 8, 9, 10, 11, 34] rfl rfl (by decide) (fun _ => rfl) hS rfl hl.1 rfl (Nat.le_of_ble_eq_true rfl) dL_law_601 hf (fun H locs k9 uu hw1 hP hD hS => ?_)
  refine lv_istore (lv' := [(5, .int k9), (4, .int (nI i)), (3, .ref o0), (2, .ref (ma 0)), (1, .ref (fa 0)), (0, .ref b)]) hx hb dL_law_604 hl (by decide) rfl (fun ls hl => ?_)
  refine lv_aload_n hx hb dL_law_606 rfl (lv_at hl 3 rfl) ?_
  refine lv_aload_n hx hb dL_law_607 rfl (lv_at hl 5 rfl) ?_
  refine lv_iload hx hb dL_law_608 (lv_at hl 1 rfl) ?_
  refine lv_iconst (v := nI 1) hx hb dL_law_610 (by decide) ?_
  refine lv_iadd hx hb dL_law_611 ?_
  refine lv_asi (nI_add _ _) ?_
  refine sld hx hb hXb hbl hbA hS (k := i + 1) (by omega) hL dL_law_612 ?_
  refine Ci.callV (As := [.int (xs (i + 1))]) (rest := []) (wr := lwF cI fa uu.1 ++ [(o0, .inl (cJ, 1, .inr (.inl uu.2)))]) (wn := fun vv => lwW cI cJ fa ma o0 uu.1 vv uu.2) (cv_L_112 hg ⟨Nat.le_of_ble_eq_true rfl, Nat.le_of_ble_eq_true rfl⟩) (c_period l D cI (ma 0) (ma 1) (ma 2) (ma 3) (ma 4) (ma 5) (ma 6) (ma 7) (ma 8) (ma 9) (ma 10) (ma 11) (v.2.1 0) (v.2.1 1) (v.1 0) (v.1 1) (v.1 2) (v.1 3) (v.1 4) (v.2.2 0) (v.2.2 1) (v.2.2 2) (v.2.2 3) (v.2.2 4) (v.2.2 5) (v.2.2 6) (v.2.2 7) (v.2.2 8) (v.2.2 9) (v.2.2 10) (by omega) (by omega) (xs (i + 1)) (fun t h => by rw [(hN2 t (by omega)).1]; exact (hN2 t (by omega)).2.2)) cx hKI hP hD hA [22, 23, 24, 25, 26, 27, 28, 29, 30, 31, 32, 33] [0, 1, 2, 3, 4, 5, 6, 7, 8, 9, 10, 11, 12, 13, 14, 15, 16, 17, 18, 19, 20, 21, 34] [0, 1, 2, 3, 4, 5, 6, 7, 8, 9, 10, 11, 12, 13, 14, 15, 16, 17, 18, 19, 20, 21, 23, 24, 25, 26, 27, 28, 29, 30, 31, 32, 33, 34, 22] rfl rfl (by decide) (fun _ => rfl) (rq := 0) rfl rfl rfl hS rfl hl.1 rfl (Nat.le_of_ble_eq_true rfl) dL_law_613 ⟨hf.1, hf.2⟩ (fun H locs r9 vv hw2 hP hD hS => ?_)
  refine lv_istore (lv' := [(6, .int r9), (5, .int k9), (4, .int (nI i)), (3, .ref o0), (2, .ref (ma 0)), (1, .ref (fa 0)), (0, .ref b)]) hx hb dL_law_616 hl (by decide) rfl (fun ls hl => ?_)
  refine lv_aload_n hx hb dL_law_618 rfl (lv_at hl 4 rfl) ?_
  have hfin := rl_period hR (xs (i + 1)) k9 uu r9 vv hw1 hw2
  obtain ⟨e1, e2, hR1⟩ := hfin
  refine Cp.callV (As := []) (rest := []) (cv_L_88 hg ⟨Nat.le_of_ble_eq_true rfl, Nat.le_of_ble_eq_true rfl⟩) (k_thrown l D cI (ma 0) (ma 1) (ma 2) (ma 3) (ma 4) (ma 5) (ma 6) (ma 7) (ma 8) (ma 9) (ma 10) (ma 11) (vv.2.1 0) (vv.2.1 1) (vv.1 0) (vv.1 1) (vv.1 2) (vv.1 3) (vv.1 4)) cx hKI hP [22] rfl (rq := 0) rfl rfl rfl hS rfl hl.1 rfl (Nat.le_of_ble_eq_true rfl) dL_law_619 ⟨hf.1, hf.2⟩ (fun H locs hP hS => ?_)
  refine lv_iload hx hb dL_law_622 (lv_at hl 1 rfl) ?_
  refine lv_icmp_eq (tgt := 629) hx hb dL_law_624 (by decide) (fun _ => ?_) (fun c9 => absurd e1 c9)
  have kend : W p l e room_1 s m #[Value.ref b] below meth c H locs (cells + 1) (slots + 6) Q (F0 m 646 ls []) := lv_goto (tgt := 1353) hx hb dL_law_646 (by decide) (kk H locs ls uu.1 vv uu.2 hR1 hP hD hS (lv_sub hl [2, 3, 4, 5, 6] rfl))
  refine lv_iload hx hb dL_law_629 (lv_at hl 1 rfl) ?_
  refine lv_if_ne (tgt := 646) hx hb dL_law_631 (by decide) (fun _ => kend) (fun c9 => ?_)
  refine lv_aload_n hx hb dL_law_634 rfl (lv_at hl 3 rfl) ?_
  refine lv_iconst (v := nI 0) hx hb dL_law_635 (by decide) ?_
  refine va_lald hx hb hK hP 34 1 rfl rfl (vp_in_nI (by decide) (by decide)) dL_law_636 ?_
  refine lv_iload hx hb dL_law_637 (lv_at hl 0 rfl) ?_
  refine lv_i2l hx hb dL_law_639 rfl ?_
  refine W.lcmp hx hb dL_law_640 ?_
  refine lv_if_eq (tgt := 646) hx hb dL_law_641 (by decide) (fun _ => kend) (fun d9 => absurd (lc_eq.mpr (e2 (c9.trans nI_0.symm))) d9)

set_option maxHeartbeats 4000000 in
set_option maxRecDepth 100000 in
theorem lq_alike (hst : l.stackTraces = false) {cI cJ : ClassId} (C0 : lwC p s m c D cI cJ b L xs) (hL : L ≤ 2560) {i : Nat} (hi : i + 5 ≤ L) (hf : cells + 1 ≤ 1082 ∧ slots + 6 ≤ 17720) {fa ma : Nat → Nat} {o0 : Nat} {u v : ff_S} {g : Nat → Int64} (hR : ff_Rel u v) (hP : va_P D vwCl (lwW cI cJ fa ma o0 u v g) H) (hD : va_D (lwA s) (lwW cI cJ fa ma o0 u v g)) (hS : va_S (lwA s) s.heap H locs) (hl : lv_has ls 7 [(4, .int (nI i)), (3, .ref o0), (2, .ref (ma 0)), (1, .ref (fa 0)), (0, .ref b)])
    (kk : ∀ (H1 : Heap) (locs1 : List Loc) (ls1 : Array Slot) (u1 v1 : ff_S) (g1 : Nat → Int64), ff_Rel u1 v1 → va_P D vwCl (lwW cI cJ fa ma o0 u1 v1 g1) H1 → va_D (lwA s) (lwW cI cJ fa ma o0 u1 v1 g1) → va_S (lwA s) s.heap H1 locs1 → lv_has ls1 7 [(4, .int (nI i)), (3, .ref o0), (2, .ref (ma 0)), (1, .ref (fa 0)), (0, .ref b)] → W p l e room_1 s m #[Value.ref b] below meth c H1 locs1 (cells + 1) (slots + 6) Q (F0 m 1353 ls1 [])) : W p l e room_1 s m #[Value.ref b] below meth c H locs cells slots Q (F0 m 649 ls []) := by
  obtain ⟨cx, hK, hXb, hbl, hX⟩ := C0
  obtain ⟨hx, hb, hml, hown, hg⟩ := id cx
  have hKI : va_K D vwCl (tI cI) s := hK.sub [0] rfl
  have hA : ∀ q : Nat, s.heap.size ≤ q → lwA s q := fun _ h => h
  have hbA : ¬ lwA s b := Nat.not_le.mpr hbl
  obtain ⟨⟨hn, en, hN2⟩, ⟨ht, et, hT2⟩, ⟨hg1, eg, hG2⟩, ⟨hp1, ep, hP2⟩, ⟨hq1, eq1, ec, hQ2⟩⟩ := id hR
  refine lv_aload_n hx hb dL_law_649 rfl (lv_at hl 3 rfl) ?_
  refine lv_aload_n hx hb dL_law_650 rfl (lv_at hl 4 rfl) ?_
  refine lv_iload hx hb dL_law_651 (lv_at hl 0 rfl) ?_
  refine lv_iconst (v := nI 1) hx hb dL_law_653 (by decide) ?_
  refine lv_iadd hx hb dL_law_654 ?_
  refine lv_asi (nI_add _ _) ?_
  refine sld hx hb hXb hbl hbA hS (k := i + 1) (by omega) hL dL_law_655 ?_
  refine lv_aload_n hx hb dL_law_656 rfl (lv_at hl 4 rfl) ?_
  refine lv_iload hx hb dL_law_657 (lv_at hl 0 rfl) ?_
  refine lv_iconst (v := nI 2) hx hb dL_law_659 (by decide) ?_
  refine lv_iadd hx hb dL_law_660 ?_
  refine lv_asi (nI_add _ _) ?_
  refine sld hx hb hXb hbl hbA hS (k := i + 2) (by omega) hL dL_law_661 ?_
  refine lv_aload_n hx hb dL_law_662 rfl (lv_at hl 4 rfl) ?_
  refine lv_iload hx hb dL_law_663 (lv_at hl 0 rfl) ?_
  refine lv_iconst (v := nI 3) hx hb dL_law_665 (by decide) ?_
  refine lv_iadd hx hb dL_law_666 ?_
  refine lv_asi (nI_add _ _) ?_
  refine sld hx hb hXb hbl hbA hS (k := i + 3) (by omega) hL dL_law_667 ?_
  refine lv_aload_n hx hb dL_law_668 rfl (lv_at hl 4 rfl) ?_
  refine lv_iload hx hb dL_law_669 (lv_at hl 0 rfl) ?_
  refine lv_iconst (v := nI 4) hx hb dL_law_671 (by decide) ?_
  refine lv_iadd hx hb dL_law_672 ?_
  refine lv_asi (nI_add _ _) ?_
  refine sld hx hb hXb hbl hbA hS (k := i + 4) (by omega) hL dL_law_673 ?_
  refine lv_aload_n hx hb dL_law_674 rfl (lv_at hl 1 rfl) ?_
  refine Cw.callS (As := [.ref (fa 0), .int (xs (i + 1)), .int (xs (i + 2)), .int (xs (i + 3)), .int (xs (i + 4)), .ref o0]) (rest := []) (wr := lwM cI ma v) (wn := fun uu => lwW cI cJ fa ma o0 uu.1 v uu.2) (cv_L_113 hg ⟨Nat.le_of_ble_eq_true rfl, Nat.le_of_ble_eq_true rfl⟩) (w_alike l hst D cI cJ (fa 0) (fa 1) (fa 2) (fa 3) (fa 4) (fa 5) (fa 6) (fa 7) (fa 8) (fa 9) (fa 10) (fa 11) (fa 12) (fa 13) (fa 14) (fa 15) (fa 16) (fa 17) (fa 18) (fa 19) (fa 20) (fa 21) o0 (u.1 0) (u.1 1) (u.1 2) (u.1 3) (u.1 4) (u.1 5) (u.2.1 0) (u.2.1 1) (u.2.2 0) (u.2.2 1) (u.2.2 2) (u.2.2 3) (u.2.2 4) (u.2.2 5) (u.2.2 6) (u.2.2 7) (u.2.2 8) (u.2.2 9) (u.2.2 10) (u.2.2 11) (u.2.2 12) (u.2.2 13) g hn ht (xs (i + 1)) (xs (i + 2)) (xs (i + 3)) (xs (i + 4))) cx hK hX hP hD hA [0, 1, 2, 3, 4, 5, 6, 7, 8, 9, 10, 11, 12, 13, 14, 15, 16, 17, 18, 19, 20, 21, 34] [22, 23, 24, 25, 26, 27, 28, 29, 30, 31, 32, 33] [12, 13, 14, 15, 16, 17, 18, 19, 20, 21, 22, 23, 24, 25, 26, 27, 28, 29, 30, 31, 32, 33, 0, 1, 2, 3, 4, 5, 6, 7, 8, 9, 10, 11, 34] rfl rfl (by decide) (fun _ => rfl) hS rfl hl.1 rfl (Nat.le_of_ble_eq_true rfl) dL_law_675 hf (fun H locs k9 uu hw1 hP hD hS => ?_)
  refine lv_istore (lv' := [(5, .int k9), (4, .int (nI i)), (3, .ref o0), (2, .ref (ma 0)), (1, .ref (fa 0)), (0, .ref b)]) hx hb dL_law_678 hl (by decide) rfl (fun ls hl => ?_)
  refine lv_aload_n hx hb dL_law_680 rfl (lv_at hl 3 rfl) ?_
  refine lv_aload_n hx hb dL_law_681 rfl (lv_at hl 5 rfl) ?_
  refine lv_iload hx hb dL_law_682 (lv_at hl 1 rfl) ?_
  refine lv_iconst (v := nI 1) hx hb dL_law_684 (by decide) ?_
  refine lv_iadd hx hb dL_law_685 ?_
  refine lv_asi (nI_add _ _) ?_
  refine sld hx hb hXb hbl hbA hS (k := i + 1) (by omega) hL dL_law_686 ?_
  refine lv_aload_n hx hb dL_law_687 rfl (lv_at hl 5 rfl) ?_
  refine lv_iload hx hb dL_law_688 (lv_at hl 1 rfl) ?_
  refine lv_iconst (v := nI 2) hx hb dL_law_690 (by decide) ?_
  refine lv_iadd hx hb dL_law_691 ?_
  refine lv_asi (nI_add _ _) ?_
  refine sld hx hb hXb hbl hbA hS (k := i + 2) (by omega) hL dL_law_692 ?_
  refine lv_aload_n hx hb dL_law_693 rfl (lv_at hl 5 rfl) ?_
  refine lv_iload hx hb dL_law_694 (lv_at hl 1 rfl) ?_
  refine lv_iconst (v := nI 3) hx hb dL_law_696 (by decide) ?_
  refine lv_iadd hx hb dL_law_697 ?_
  refine lv_asi (nI_add _ _) ?_
  refine sld hx hb hXb hbl hbA hS (k := i + 3) (by omega) hL dL_law_698 ?_
  refine lv_aload_n hx hb dL_law_699 rfl (lv_at hl 5 rfl) ?_
  refine lv_iload hx hb dL_law_700 (lv_at hl 1 rfl) ?_
  refine lv_iconst (v := nI 4) hx hb dL_law_702 (by decide) ?_
  refine lv_iadd hx hb dL_law_703 ?_
  refine lv_asi (nI_add _ _) ?_
  refine sld hx hb hXb hbl hbA hS (k := i + 4) (by omega) hL dL_law_704 ?_
  refine Ci.callV (As := [.int (xs (i + 1)), .int (xs (i + 2)), .int (xs (i + 3)), .int (xs (i + 4))]) (rest := []) (wr := lwF cI fa uu.1 ++ [(o0, .inl (cJ, 1, .inr (.inl uu.2)))]) (wn := fun vv => lwW cI cJ fa ma o0 uu.1 vv uu.2) (cv_L_116 hg ⟨Nat.le_of_ble_eq_true rfl, Nat.le_of_ble_eq_true rfl⟩) (c_alike l D cI (ma 0) (ma 1) (ma 2) (ma 3) (ma 4) (ma 5) (ma 6) (ma 7) (ma 8) (ma 9) (ma 10) (ma 11) (v.2.1 0) (v.2.1 1) (v.1 0) (v.1 1) (v.1 2) (v.1 3) (v.1 4) (v.2.2 0) (v.2.2 1) (v.2.2 2) (v.2.2 3) (v.2.2 4) (v.2.2 5) (v.2.2 6) (v.2.2 7) (v.2.2 8) (v.2.2 9) (v.2.2 10) (by omega) (by omega) (xs (i + 1)) (xs (i + 2)) (xs (i + 3)) (xs (i + 4)) (fun t h => by rw [(hN2 t (by omega)).1]; exact (hN2 t (by omega)).2.2)) cx hKI hP hD hA [22, 23, 24, 25, 26, 27, 28, 29, 30, 31, 32, 33] [0, 1, 2, 3, 4, 5, 6, 7, 8, 9, 10, 11, 12, 13, 14, 15, 16, 17, 18, 19, 20, 21, 34] [0, 1, 2, 3, 4, 5, 6, 7, 8, 9, 10, 11, 12, 13, 14, 15, 16, 17, 18, 19, 20, 21, 23, 24, 25, 26, 27, 28, 29, 30, 31, 32, 33, 34, 22] rfl rfl (by decide) (fun _ => rfl) (rq := 0) rfl rfl rfl hS rfl hl.1 rfl (Nat.le_of_ble_eq_true rfl) dL_law_705 ⟨hf.1, hf.2⟩ (fun H locs r9 vv hw2 hP hD hS => ?_)
  refine lv_istore (lv' := [(6, .int r9), (5, .int k9), (4, .int (nI i)), (3, .ref o0), (2, .ref (ma 0)), (1, .ref (fa 0)), (0, .ref b)]) hx hb dL_law_708 hl (by decide) rfl (fun ls hl => ?_)
  refine lv_aload_n hx hb dL_law_710 rfl (lv_at hl 4 rfl) ?_
  have hfin := rl_alike hR (xs (i + 1)) (xs (i + 2)) (xs (i + 3)) (xs (i + 4)) k9 uu r9 vv hw1 hw2
  obtain ⟨e1, e2, hR1⟩ := hfin
  refine Cp.callV (As := []) (rest := []) (cv_L_88 hg ⟨Nat.le_of_ble_eq_true rfl, Nat.le_of_ble_eq_true rfl⟩) (k_thrown l D cI (ma 0) (ma 1) (ma 2) (ma 3) (ma 4) (ma 5) (ma 6) (ma 7) (ma 8) (ma 9) (ma 10) (ma 11) (vv.2.1 0) (vv.2.1 1) (vv.1 0) (vv.1 1) (vv.1 2) (vv.1 3) (vv.1 4)) cx hKI hP [22] rfl (rq := 0) rfl rfl rfl hS rfl hl.1 rfl (Nat.le_of_ble_eq_true rfl) dL_law_711 ⟨hf.1, hf.2⟩ (fun H locs hP hS => ?_)
  refine lv_iload hx hb dL_law_714 (lv_at hl 1 rfl) ?_
  refine lv_icmp_eq (tgt := 721) hx hb dL_law_716 (by decide) (fun _ => ?_) (fun c9 => absurd e1 c9)
  have kend : W p l e room_1 s m #[Value.ref b] below meth c H locs (cells + 1) (slots + 6) Q (F0 m 738 ls []) := lv_goto (tgt := 1353) hx hb dL_law_738 (by decide) (kk H locs ls uu.1 vv uu.2 hR1 hP hD hS (lv_sub hl [2, 3, 4, 5, 6] rfl))
  refine lv_iload hx hb dL_law_721 (lv_at hl 1 rfl) ?_
  refine lv_if_ne (tgt := 738) hx hb dL_law_723 (by decide) (fun _ => kend) (fun c9 => ?_)
  refine lv_aload_n hx hb dL_law_726 rfl (lv_at hl 3 rfl) ?_
  refine lv_iconst (v := nI 0) hx hb dL_law_727 (by decide) ?_
  refine va_lald hx hb hK hP 34 1 rfl rfl (vp_in_nI (by decide) (by decide)) dL_law_728 ?_
  refine lv_iload hx hb dL_law_729 (lv_at hl 0 rfl) ?_
  refine lv_i2l hx hb dL_law_731 rfl ?_
  refine W.lcmp hx hb dL_law_732 ?_
  refine lv_if_eq (tgt := 738) hx hb dL_law_733 (by decide) (fun _ => kend) (fun d9 => absurd (lc_eq.mpr (e2 (c9.trans nI_0.symm))) d9)

set_option maxHeartbeats 4000000 in
set_option maxRecDepth 100000 in
theorem lq_motive (hst : l.stackTraces = false) {cI cJ : ClassId} (C0 : lwC p s m c D cI cJ b L xs) (hL : L ≤ 2560) {i : Nat} (hi : i + 5 ≤ L) (hf : cells + 1 ≤ 1082 ∧ slots + 6 ≤ 17720) {fa ma : Nat → Nat} {o0 : Nat} {u v : ff_S} {g : Nat → Int64} (hR : ff_Rel u v) (hP : va_P D vwCl (lwW cI cJ fa ma o0 u v g) H) (hD : va_D (lwA s) (lwW cI cJ fa ma o0 u v g)) (hS : va_S (lwA s) s.heap H locs) (hl : lv_has ls 7 [(4, .int (nI i)), (3, .ref o0), (2, .ref (ma 0)), (1, .ref (fa 0)), (0, .ref b)])
    (kk : ∀ (H1 : Heap) (locs1 : List Loc) (ls1 : Array Slot) (u1 v1 : ff_S) (g1 : Nat → Int64), ff_Rel u1 v1 → va_P D vwCl (lwW cI cJ fa ma o0 u1 v1 g1) H1 → va_D (lwA s) (lwW cI cJ fa ma o0 u1 v1 g1) → va_S (lwA s) s.heap H1 locs1 → lv_has ls1 7 [(4, .int (nI i)), (3, .ref o0), (2, .ref (ma 0)), (1, .ref (fa 0)), (0, .ref b)] → W p l e room_1 s m #[Value.ref b] below meth c H1 locs1 (cells + 1) (slots + 6) Q (F0 m 1353 ls1 [])) : W p l e room_1 s m #[Value.ref b] below meth c H locs cells slots Q (F0 m 741 ls []) := by
  obtain ⟨cx, hK, hXb, hbl, hX⟩ := C0
  obtain ⟨hx, hb, hml, hown, hg⟩ := id cx
  have hKI : va_K D vwCl (tI cI) s := hK.sub [0] rfl
  have hA : ∀ q : Nat, s.heap.size ≤ q → lwA s q := fun _ h => h
  have hbA : ¬ lwA s b := Nat.not_le.mpr hbl
  obtain ⟨⟨hn, en, hN2⟩, ⟨ht, et, hT2⟩, ⟨hg1, eg, hG2⟩, ⟨hp1, ep, hP2⟩, ⟨hq1, eq1, ec, hQ2⟩⟩ := id hR
  refine lv_aload_n hx hb dL_law_741 rfl (lv_at hl 3 rfl) ?_
  refine lv_aload_n hx hb dL_law_742 rfl (lv_at hl 4 rfl) ?_
  refine lv_iload hx hb dL_law_743 (lv_at hl 0 rfl) ?_
  refine lv_iconst (v := nI 1) hx hb dL_law_745 (by decide) ?_
  refine lv_iadd hx hb dL_law_746 ?_
  refine lv_asi (nI_add _ _) ?_
  refine sld hx hb hXb hbl hbA hS (k := i + 1) (by omega) hL dL_law_747 ?_
  refine lv_aload_n hx hb dL_law_748 rfl (lv_at hl 4 rfl) ?_
  refine lv_iload hx hb dL_law_749 (lv_at hl 0 rfl) ?_
  refine lv_iconst (v := nI 2) hx hb dL_law_751 (by decide) ?_
  refine lv_iadd hx hb dL_law_752 ?_
  refine lv_asi (nI_add _ _) ?_
  refine sld hx hb hXb hbl hbA hS (k := i + 2) (by omega) hL dL_law_753 ?_
  refine lv_aload_n hx hb dL_law_754 rfl (lv_at hl 1 rfl) ?_
  refine Cw.callS (As := [.ref (fa 0), .int (xs (i + 1)), .int (xs (i + 2)), .ref o0]) (rest := []) (wr := lwM cI ma v) (wn := fun uu => lwW cI cJ fa ma o0 uu.1 v uu.2) (cv_L_117 hg ⟨Nat.le_of_ble_eq_true rfl, Nat.le_of_ble_eq_true rfl⟩) (w_motive l hst D cI cJ (fa 0) (fa 1) (fa 2) (fa 3) (fa 4) (fa 5) (fa 6) (fa 7) (fa 8) (fa 9) (fa 10) (fa 11) (fa 12) (fa 13) (fa 14) (fa 15) (fa 16) (fa 17) (fa 18) (fa 19) (fa 20) (fa 21) o0 (u.1 0) (u.1 1) (u.1 2) (u.1 3) (u.1 4) (u.1 5) (u.2.1 0) (u.2.1 1) (u.2.2 0) (u.2.2 1) (u.2.2 2) (u.2.2 3) (u.2.2 4) (u.2.2 5) (u.2.2 6) (u.2.2 7) (u.2.2 8) (u.2.2 9) (u.2.2 10) (u.2.2 11) (u.2.2 12) (u.2.2 13) g hn ht (xs (i + 1)) (xs (i + 2))) cx hK hX hP hD hA [0, 1, 2, 3, 4, 5, 6, 7, 8, 9, 10, 11, 12, 13, 14, 15, 16, 17, 18, 19, 20, 21, 34] [22, 23, 24, 25, 26, 27, 28, 29, 30, 31, 32, 33] [12, 13, 14, 15, 16, 17, 18, 19, 20, 21, 22, 23, 24, 25, 26, 27, 28, 29, 30, 31, 32, 33, 0, 1, 2, 3, 4, 5, 6, 7, 8, 9, 10, 11, 34] rfl rfl (by decide) (fun _ => rfl) hS rfl hl.1 rfl (Nat.le_of_ble_eq_true rfl) dL_law_755 hf (fun H locs k9 uu hw1 hP hD hS => ?_)
  refine lv_istore (lv' := [(5, .int k9), (4, .int (nI i)), (3, .ref o0), (2, .ref (ma 0)), (1, .ref (fa 0)), (0, .ref b)]) hx hb dL_law_758 hl (by decide) rfl (fun ls hl => ?_)
  refine lv_aload_n hx hb dL_law_760 rfl (lv_at hl 3 rfl) ?_
  refine lv_aload_n hx hb dL_law_761 rfl (lv_at hl 5 rfl) ?_
  refine lv_iload hx hb dL_law_762 (lv_at hl 1 rfl) ?_
  refine lv_iconst (v := nI 1) hx hb dL_law_764 (by decide) ?_
  refine lv_iadd hx hb dL_law_765 ?_
  refine lv_asi (nI_add _ _) ?_
  refine sld hx hb hXb hbl hbA hS (k := i + 1) (by omega) hL dL_law_766 ?_
  refine lv_aload_n hx hb dL_law_767 rfl (lv_at hl 5 rfl) ?_
  refine lv_iload hx hb dL_law_768 (lv_at hl 1 rfl) ?_
  refine lv_iconst (v := nI 2) hx hb dL_law_770 (by decide) ?_
  refine lv_iadd hx hb dL_law_771 ?_
  refine lv_asi (nI_add _ _) ?_
  refine sld hx hb hXb hbl hbA hS (k := i + 2) (by omega) hL dL_law_772 ?_
  refine Ci.callV (As := [.int (xs (i + 1)), .int (xs (i + 2))]) (rest := []) (wr := lwF cI fa uu.1 ++ [(o0, .inl (cJ, 1, .inr (.inl uu.2)))]) (wn := fun vv => lwW cI cJ fa ma o0 uu.1 vv uu.2) (cv_L_119 hg ⟨Nat.le_of_ble_eq_true rfl, Nat.le_of_ble_eq_true rfl⟩) (c_motive l D cI (ma 0) (ma 1) (ma 2) (ma 3) (ma 4) (ma 5) (ma 6) (ma 7) (ma 8) (ma 9) (ma 10) (ma 11) (v.2.1 0) (v.2.1 1) (v.1 0) (v.1 1) (v.1 2) (v.1 3) (v.1 4) (v.2.2 0) (v.2.2 1) (v.2.2 2) (v.2.2 3) (v.2.2 4) (v.2.2 5) (v.2.2 6) (v.2.2 7) (v.2.2 8) (v.2.2 9) (v.2.2 10) (by omega) (by omega) (xs (i + 1)) (xs (i + 2))) cx hKI hP hD hA [22, 23, 24, 25, 26, 27, 28, 29, 30, 31, 32, 33] [0, 1, 2, 3, 4, 5, 6, 7, 8, 9, 10, 11, 12, 13, 14, 15, 16, 17, 18, 19, 20, 21, 34] [0, 1, 2, 3, 4, 5, 6, 7, 8, 9, 10, 11, 12, 13, 14, 15, 16, 17, 18, 19, 20, 21, 23, 24, 25, 26, 27, 28, 29, 30, 31, 32, 33, 34, 22] rfl rfl (by decide) (fun _ => rfl) (rq := 0) rfl rfl rfl hS rfl hl.1 rfl (Nat.le_of_ble_eq_true rfl) dL_law_773 ⟨hf.1, hf.2⟩ (fun H locs r9 vv hw2 hP hD hS => ?_)
  refine lv_istore (lv' := [(6, .int r9), (5, .int k9), (4, .int (nI i)), (3, .ref o0), (2, .ref (ma 0)), (1, .ref (fa 0)), (0, .ref b)]) hx hb dL_law_776 hl (by decide) rfl (fun ls hl => ?_)
  refine lv_aload_n hx hb dL_law_778 rfl (lv_at hl 4 rfl) ?_
  have hfin := rl_motive hR (xs (i + 1)) (xs (i + 2)) k9 uu r9 vv hw1 hw2
  obtain ⟨e1, e2, hR1⟩ := hfin
  refine Cp.callV (As := []) (rest := []) (cv_L_88 hg ⟨Nat.le_of_ble_eq_true rfl, Nat.le_of_ble_eq_true rfl⟩) (k_thrown l D cI (ma 0) (ma 1) (ma 2) (ma 3) (ma 4) (ma 5) (ma 6) (ma 7) (ma 8) (ma 9) (ma 10) (ma 11) (vv.2.1 0) (vv.2.1 1) (vv.1 0) (vv.1 1) (vv.1 2) (vv.1 3) (vv.1 4)) cx hKI hP [22] rfl (rq := 0) rfl rfl rfl hS rfl hl.1 rfl (Nat.le_of_ble_eq_true rfl) dL_law_779 ⟨hf.1, hf.2⟩ (fun H locs hP hS => ?_)
  refine lv_iload hx hb dL_law_782 (lv_at hl 1 rfl) ?_
  refine lv_icmp_eq (tgt := 789) hx hb dL_law_784 (by decide) (fun _ => ?_) (fun c9 => absurd e1 c9)
  have kend : W p l e room_1 s m #[Value.ref b] below meth c H locs (cells + 1) (slots + 6) Q (F0 m 806 ls []) := lv_goto (tgt := 1353) hx hb dL_law_806 (by decide) (kk H locs ls uu.1 vv uu.2 hR1 hP hD hS (lv_sub hl [2, 3, 4, 5, 6] rfl))
  refine lv_iload hx hb dL_law_789 (lv_at hl 1 rfl) ?_
  refine lv_if_ne (tgt := 806) hx hb dL_law_791 (by decide) (fun _ => kend) (fun c9 => ?_)
  refine lv_aload_n hx hb dL_law_794 rfl (lv_at hl 3 rfl) ?_
  refine lv_iconst (v := nI 0) hx hb dL_law_795 (by decide) ?_
  refine va_lald hx hb hK hP 34 1 rfl rfl (vp_in_nI (by decide) (by decide)) dL_law_796 ?_
  refine lv_iload hx hb dL_law_797 (lv_at hl 0 rfl) ?_
  refine lv_i2l hx hb dL_law_799 rfl ?_
  refine W.lcmp hx hb dL_law_800 ?_
  refine lv_if_eq (tgt := 806) hx hb dL_law_801 (by decide) (fun _ => kend) (fun d9 => absurd (lc_eq.mpr (e2 (c9.trans nI_0.symm))) d9)

set_option maxHeartbeats 4000000 in
set_option maxRecDepth 100000 in
theorem lq_form (hst : l.stackTraces = false) {cI cJ : ClassId} (C0 : lwC p s m c D cI cJ b L xs) (hL : L ≤ 2560) {i : Nat} (hi : i + 5 ≤ L) (hf : cells + 1 ≤ 1082 ∧ slots + 6 ≤ 17720) {fa ma : Nat → Nat} {o0 : Nat} {u v : ff_S} {g : Nat → Int64} (hR : ff_Rel u v) (hP : va_P D vwCl (lwW cI cJ fa ma o0 u v g) H) (hD : va_D (lwA s) (lwW cI cJ fa ma o0 u v g)) (hS : va_S (lwA s) s.heap H locs) (hl : lv_has ls 7 [(4, .int (nI i)), (3, .ref o0), (2, .ref (ma 0)), (1, .ref (fa 0)), (0, .ref b)])
    (kk : ∀ (H1 : Heap) (locs1 : List Loc) (ls1 : Array Slot) (u1 v1 : ff_S) (g1 : Nat → Int64), ff_Rel u1 v1 → va_P D vwCl (lwW cI cJ fa ma o0 u1 v1 g1) H1 → va_D (lwA s) (lwW cI cJ fa ma o0 u1 v1 g1) → va_S (lwA s) s.heap H1 locs1 → lv_has ls1 7 [(4, .int (nI i)), (3, .ref o0), (2, .ref (ma 0)), (1, .ref (fa 0)), (0, .ref b)] → W p l e room_1 s m #[Value.ref b] below meth c H1 locs1 (cells + 1) (slots + 6) Q (F0 m 1353 ls1 [])) : W p l e room_1 s m #[Value.ref b] below meth c H locs cells slots Q (F0 m 809 ls []) := by
  obtain ⟨cx, hK, hXb, hbl, hX⟩ := C0
  obtain ⟨hx, hb, hml, hown, hg⟩ := id cx
  have hKI : va_K D vwCl (tI cI) s := hK.sub [0] rfl
  have hA : ∀ q : Nat, s.heap.size ≤ q → lwA s q := fun _ h => h
  have hbA : ¬ lwA s b := Nat.not_le.mpr hbl
  obtain ⟨⟨hn, en, hN2⟩, ⟨ht, et, hT2⟩, ⟨hg1, eg, hG2⟩, ⟨hp1, ep, hP2⟩, ⟨hq1, eq1, ec, hQ2⟩⟩ := id hR
  refine lv_aload_n hx hb dL_law_809 rfl (lv_at hl 3 rfl) ?_
  refine lv_aload_n hx hb dL_law_810 rfl (lv_at hl 4 rfl) ?_
  refine lv_iload hx hb dL_law_811 (lv_at hl 0 rfl) ?_
  refine lv_iconst (v := nI 1) hx hb dL_law_813 (by decide) ?_
  refine lv_iadd hx hb dL_law_814 ?_
  refine lv_asi (nI_add _ _) ?_
  refine sld hx hb hXb hbl hbA hS (k := i + 1) (by omega) hL dL_law_815 ?_
  refine lv_aload_n hx hb dL_law_816 rfl (lv_at hl 4 rfl) ?_
  refine lv_iload hx hb dL_law_817 (lv_at hl 0 rfl) ?_
  refine lv_iconst (v := nI 2) hx hb dL_law_819 (by decide) ?_
  refine lv_iadd hx hb dL_law_820 ?_
  refine lv_asi (nI_add _ _) ?_
  refine sld hx hb hXb hbl hbA hS (k := i + 2) (by omega) hL dL_law_821 ?_
  refine lv_aload_n hx hb dL_law_822 rfl (lv_at hl 4 rfl) ?_
  refine lv_iload hx hb dL_law_823 (lv_at hl 0 rfl) ?_
  refine lv_iconst (v := nI 3) hx hb dL_law_825 (by decide) ?_
  refine lv_iadd hx hb dL_law_826 ?_
  refine lv_asi (nI_add _ _) ?_
  refine sld hx hb hXb hbl hbA hS (k := i + 3) (by omega) hL dL_law_827 ?_
  refine lv_aload_n hx hb dL_law_828 rfl (lv_at hl 1 rfl) ?_
  refine Cw.callS (As := [.ref (fa 0), .int (xs (i + 1)), .int (xs (i + 2)), .int (xs (i + 3)), .ref o0]) (rest := []) (wr := lwM cI ma v) (wn := fun uu => lwW cI cJ fa ma o0 uu.1 v uu.2) (cv_L_120 hg ⟨Nat.le_of_ble_eq_true rfl, Nat.le_of_ble_eq_true rfl⟩) (w_form l hst D cI cJ (fa 0) (fa 1) (fa 2) (fa 3) (fa 4) (fa 5) (fa 6) (fa 7) (fa 8) (fa 9) (fa 10) (fa 11) (fa 12) (fa 13) (fa 14) (fa 15) (fa 16) (fa 17) (fa 18) (fa 19) (fa 20) (fa 21) o0 (u.1 0) (u.1 1) (u.1 2) (u.1 3) (u.1 4) (u.1 5) (u.2.1 0) (u.2.1 1) (u.2.2 0) (u.2.2 1) (u.2.2 2) (u.2.2 3) (u.2.2 4) (u.2.2 5) (u.2.2 6) (u.2.2 7) (u.2.2 8) (u.2.2 9) (u.2.2 10) (u.2.2 11) (u.2.2 12) (u.2.2 13) g hn ht (xs (i + 1)) (xs (i + 2)) (xs (i + 3))) cx hK hX hP hD hA [0, 1, 2, 3, 4, 5, 6, 7, 8, 9, 10, 11, 12, 13, 14, 15, 16, 17, 18, 19, 20, 21, 34] [22, 23, 24, 25, 26, 27, 28, 29, 30, 31, 32, 33] [12, 13, 14, 15, 16, 17, 18, 19, 20, 21, 22, 23, 24, 25, 26, 27, 28, 29, 30, 31, 32, 33, 0, 1, 2, 3, 4, 5, 6, 7, 8, 9, 10, 11, 34] rfl rfl (by decide) (fun _ => rfl) hS rfl hl.1 rfl (Nat.le_of_ble_eq_true rfl) dL_law_829 hf (fun H locs k9 uu hw1 hP hD hS => ?_)
  refine lv_istore (lv' := [(5, .int k9), (4, .int (nI i)), (3, .ref o0), (2, .ref (ma 0)), (1, .ref (fa 0)), (0, .ref b)]) hx hb dL_law_832 hl (by decide) rfl (fun ls hl => ?_)
  refine lv_aload_n hx hb dL_law_834 rfl (lv_at hl 3 rfl) ?_
  refine lv_aload_n hx hb dL_law_835 rfl (lv_at hl 5 rfl) ?_
  refine lv_iload hx hb dL_law_836 (lv_at hl 1 rfl) ?_
  refine lv_iconst (v := nI 1) hx hb dL_law_838 (by decide) ?_
  refine lv_iadd hx hb dL_law_839 ?_
  refine lv_asi (nI_add _ _) ?_
  refine sld hx hb hXb hbl hbA hS (k := i + 1) (by omega) hL dL_law_840 ?_
  refine lv_aload_n hx hb dL_law_841 rfl (lv_at hl 5 rfl) ?_
  refine lv_iload hx hb dL_law_842 (lv_at hl 1 rfl) ?_
  refine lv_iconst (v := nI 2) hx hb dL_law_844 (by decide) ?_
  refine lv_iadd hx hb dL_law_845 ?_
  refine lv_asi (nI_add _ _) ?_
  refine sld hx hb hXb hbl hbA hS (k := i + 2) (by omega) hL dL_law_846 ?_
  refine lv_aload_n hx hb dL_law_847 rfl (lv_at hl 5 rfl) ?_
  refine lv_iload hx hb dL_law_848 (lv_at hl 1 rfl) ?_
  refine lv_iconst (v := nI 3) hx hb dL_law_850 (by decide) ?_
  refine lv_iadd hx hb dL_law_851 ?_
  refine lv_asi (nI_add _ _) ?_
  refine sld hx hb hXb hbl hbA hS (k := i + 3) (by omega) hL dL_law_852 ?_
  refine Ci.callV (As := [.int (xs (i + 1)), .int (xs (i + 2)), .int (xs (i + 3))]) (rest := []) (wr := lwF cI fa uu.1 ++ [(o0, .inl (cJ, 1, .inr (.inl uu.2)))]) (wn := fun vv => lwW cI cJ fa ma o0 uu.1 vv uu.2) (cv_L_123 hg ⟨Nat.le_of_ble_eq_true rfl, Nat.le_of_ble_eq_true rfl⟩) (c_form l D cI (ma 0) (ma 1) (ma 2) (ma 3) (ma 4) (ma 5) (ma 6) (ma 7) (ma 8) (ma 9) (ma 10) (ma 11) (v.2.1 0) (v.2.1 1) (v.1 0) (v.1 1) (v.1 2) (v.1 3) (v.1 4) (v.2.2 0) (v.2.2 1) (v.2.2 2) (v.2.2 3) (v.2.2 4) (v.2.2 5) (v.2.2 6) (v.2.2 7) (v.2.2 8) (v.2.2 9) (v.2.2 10) (by omega) (by omega) (xs (i + 1)) (xs (i + 2)) (xs (i + 3))) cx hKI hP hD hA [22, 23, 24, 25, 26, 27, 28, 29, 30, 31, 32, 33] [0, 1, 2, 3, 4, 5, 6, 7, 8, 9, 10, 11, 12, 13, 14, 15, 16, 17, 18, 19, 20, 21, 34] [0, 1, 2, 3, 4, 5, 6, 7, 8, 9, 10, 11, 12, 13, 14, 15, 16, 17, 18, 19, 20, 21, 23, 24, 25, 26, 27, 28, 29, 30, 31, 32, 33, 34, 22] rfl rfl (by decide) (fun _ => rfl) (rq := 0) rfl rfl rfl hS rfl hl.1 rfl (Nat.le_of_ble_eq_true rfl) dL_law_853 ⟨hf.1, hf.2⟩ (fun H locs r9 vv hw2 hP hD hS => ?_)
  refine lv_istore (lv' := [(6, .int r9), (5, .int k9), (4, .int (nI i)), (3, .ref o0), (2, .ref (ma 0)), (1, .ref (fa 0)), (0, .ref b)]) hx hb dL_law_856 hl (by decide) rfl (fun ls hl => ?_)
  refine lv_aload_n hx hb dL_law_858 rfl (lv_at hl 4 rfl) ?_
  have hfin := rl_form hR (xs (i + 1)) (xs (i + 2)) (xs (i + 3)) k9 uu r9 vv hw1 hw2
  obtain ⟨e1, e2, hR1⟩ := hfin
  refine Cp.callV (As := []) (rest := []) (cv_L_88 hg ⟨Nat.le_of_ble_eq_true rfl, Nat.le_of_ble_eq_true rfl⟩) (k_thrown l D cI (ma 0) (ma 1) (ma 2) (ma 3) (ma 4) (ma 5) (ma 6) (ma 7) (ma 8) (ma 9) (ma 10) (ma 11) (vv.2.1 0) (vv.2.1 1) (vv.1 0) (vv.1 1) (vv.1 2) (vv.1 3) (vv.1 4)) cx hKI hP [22] rfl (rq := 0) rfl rfl rfl hS rfl hl.1 rfl (Nat.le_of_ble_eq_true rfl) dL_law_859 ⟨hf.1, hf.2⟩ (fun H locs hP hS => ?_)
  refine lv_iload hx hb dL_law_862 (lv_at hl 1 rfl) ?_
  refine lv_icmp_eq (tgt := 869) hx hb dL_law_864 (by decide) (fun _ => ?_) (fun c9 => absurd e1 c9)
  have kend : W p l e room_1 s m #[Value.ref b] below meth c H locs (cells + 1) (slots + 6) Q (F0 m 886 ls []) := lv_goto (tgt := 1353) hx hb dL_law_886 (by decide) (kk H locs ls uu.1 vv uu.2 hR1 hP hD hS (lv_sub hl [2, 3, 4, 5, 6] rfl))
  refine lv_iload hx hb dL_law_869 (lv_at hl 1 rfl) ?_
  refine lv_if_ne (tgt := 886) hx hb dL_law_871 (by decide) (fun _ => kend) (fun c9 => ?_)
  refine lv_aload_n hx hb dL_law_874 rfl (lv_at hl 3 rfl) ?_
  refine lv_iconst (v := nI 0) hx hb dL_law_875 (by decide) ?_
  refine va_lald hx hb hK hP 34 1 rfl rfl (vp_in_nI (by decide) (by decide)) dL_law_876 ?_
  refine lv_iload hx hb dL_law_877 (lv_at hl 0 rfl) ?_
  refine lv_i2l hx hb dL_law_879 rfl ?_
  refine W.lcmp hx hb dL_law_880 ?_
  refine lv_if_eq (tgt := 886) hx hb dL_law_881 (by decide) (fun _ => kend) (fun d9 => absurd (lc_eq.mpr (e2 (c9.trans nI_0.symm))) d9)

set_option maxHeartbeats 4000000 in
set_option maxRecDepth 100000 in
theorem lq_find (hst : l.stackTraces = false) {cI cJ : ClassId} (C0 : lwC p s m c D cI cJ b L xs) (hL : L ≤ 2560) {i : Nat} (hi : i + 5 ≤ L) (hf : cells + 1 ≤ 1082 ∧ slots + 6 ≤ 17720) {fa ma : Nat → Nat} {o0 : Nat} {u v : ff_S} {g : Nat → Int64} (hR : ff_Rel u v) (hP : va_P D vwCl (lwW cI cJ fa ma o0 u v g) H) (hD : va_D (lwA s) (lwW cI cJ fa ma o0 u v g)) (hS : va_S (lwA s) s.heap H locs) (hl : lv_has ls 7 [(4, .int (nI i)), (3, .ref o0), (2, .ref (ma 0)), (1, .ref (fa 0)), (0, .ref b)])
    (kk : ∀ (H1 : Heap) (locs1 : List Loc) (ls1 : Array Slot) (u1 v1 : ff_S) (g1 : Nat → Int64), ff_Rel u1 v1 → va_P D vwCl (lwW cI cJ fa ma o0 u1 v1 g1) H1 → va_D (lwA s) (lwW cI cJ fa ma o0 u1 v1 g1) → va_S (lwA s) s.heap H1 locs1 → lv_has ls1 7 [(4, .int (nI i)), (3, .ref o0), (2, .ref (ma 0)), (1, .ref (fa 0)), (0, .ref b)] → W p l e room_1 s m #[Value.ref b] below meth c H1 locs1 (cells + 1) (slots + 6) Q (F0 m 1353 ls1 [])) : W p l e room_1 s m #[Value.ref b] below meth c H locs cells slots Q (F0 m 889 ls []) := by
  obtain ⟨cx, hK, hXb, hbl, hX⟩ := C0
  obtain ⟨hx, hb, hml, hown, hg⟩ := id cx
  have hKI : va_K D vwCl (tI cI) s := hK.sub [0] rfl
  have hA : ∀ q : Nat, s.heap.size ≤ q → lwA s q := fun _ h => h
  have hbA : ¬ lwA s b := Nat.not_le.mpr hbl
  obtain ⟨⟨hn, en, hN2⟩, ⟨ht, et, hT2⟩, ⟨hg1, eg, hG2⟩, ⟨hp1, ep, hP2⟩, ⟨hq1, eq1, ec, hQ2⟩⟩ := id hR
  refine lv_aload_n hx hb dL_law_889 rfl (lv_at hl 3 rfl) ?_
  refine lv_aload_n hx hb dL_law_890 rfl (lv_at hl 4 rfl) ?_
  refine lv_iload hx hb dL_law_891 (lv_at hl 0 rfl) ?_
  refine lv_iconst (v := nI 1) hx hb dL_law_893 (by decide) ?_
  refine lv_iadd hx hb dL_law_894 ?_
  refine lv_asi (nI_add _ _) ?_
  refine sld hx hb hXb hbl hbA hS (k := i + 1) (by omega) hL dL_law_895 ?_
  refine lv_aload_n hx hb dL_law_896 rfl (lv_at hl 4 rfl) ?_
  refine lv_iload hx hb dL_law_897 (lv_at hl 0 rfl) ?_
  refine lv_iconst (v := nI 2) hx hb dL_law_899 (by decide) ?_
  refine lv_iadd hx hb dL_law_900 ?_
  refine lv_asi (nI_add _ _) ?_
  refine sld hx hb hXb hbl hbA hS (k := i + 2) (by omega) hL dL_law_901 ?_
  refine lv_aload_n hx hb dL_law_902 rfl (lv_at hl 4 rfl) ?_
  refine lv_iload hx hb dL_law_903 (lv_at hl 0 rfl) ?_
  refine lv_iconst (v := nI 3) hx hb dL_law_905 (by decide) ?_
  refine lv_iadd hx hb dL_law_906 ?_
  refine lv_asi (nI_add _ _) ?_
  refine sld hx hb hXb hbl hbA hS (k := i + 3) (by omega) hL dL_law_907 ?_
  refine lv_aload_n hx hb dL_law_908 rfl (lv_at hl 1 rfl) ?_
  refine Cw.callS (As := [.ref (fa 0), .int (xs (i + 1)), .int (xs (i + 2)), .int (xs (i + 3)), .ref o0]) (rest := []) (wr := lwM cI ma v) (wn := fun uu => lwW cI cJ fa ma o0 uu.1 v uu.2) (cv_L_124 hg ⟨Nat.le_of_ble_eq_true rfl, Nat.le_of_ble_eq_true rfl⟩) (w_find l hst D cI cJ (fa 0) (fa 1) (fa 2) (fa 3) (fa 4) (fa 5) (fa 6) (fa 7) (fa 8) (fa 9) (fa 10) (fa 11) (fa 12) (fa 13) (fa 14) (fa 15) (fa 16) (fa 17) (fa 18) (fa 19) (fa 20) (fa 21) o0 (u.1 0) (u.1 1) (u.1 2) (u.1 3) (u.1 4) (u.1 5) (u.2.1 0) (u.2.1 1) (u.2.2 0) (u.2.2 1) (u.2.2 2) (u.2.2 3) (u.2.2 4) (u.2.2 5) (u.2.2 6) (u.2.2 7) (u.2.2 8) (u.2.2 9) (u.2.2 10) (u.2.2 11) (u.2.2 12) (u.2.2 13) g hn ht (xs (i + 1)) (xs (i + 2)) (xs (i + 3))) cx hK hX hP hD hA [0, 1, 2, 3, 4, 5, 6, 7, 8, 9, 10, 11, 12, 13, 14, 15, 16, 17, 18, 19, 20, 21, 34] [22, 23, 24, 25, 26, 27, 28, 29, 30, 31, 32, 33] [12, 13, 14, 15, 16, 17, 18, 19, 20, 21, 22, 23, 24, 25, 26, 27, 28, 29, 30, 31, 32, 33, 0, 1, 2, 3, 4, 5, 6, 7, 8, 9, 10, 11, 34] rfl rfl (by decide) (fun _ => rfl) hS rfl hl.1 rfl (Nat.le_of_ble_eq_true rfl) dL_law_909 hf (fun H locs k9 uu hw1 hP hD hS => ?_)
  refine lv_istore (lv' := [(5, .int k9), (4, .int (nI i)), (3, .ref o0), (2, .ref (ma 0)), (1, .ref (fa 0)), (0, .ref b)]) hx hb dL_law_912 hl (by decide) rfl (fun ls hl => ?_)
  refine lv_aload_n hx hb dL_law_914 rfl (lv_at hl 3 rfl) ?_
  refine lv_aload_n hx hb dL_law_915 rfl (lv_at hl 5 rfl) ?_
  refine lv_iload hx hb dL_law_916 (lv_at hl 1 rfl) ?_
  refine lv_iconst (v := nI 1) hx hb dL_law_918 (by decide) ?_
  refine lv_iadd hx hb dL_law_919 ?_
  refine lv_asi (nI_add _ _) ?_
  refine sld hx hb hXb hbl hbA hS (k := i + 1) (by omega) hL dL_law_920 ?_
  refine lv_aload_n hx hb dL_law_921 rfl (lv_at hl 5 rfl) ?_
  refine lv_iload hx hb dL_law_922 (lv_at hl 1 rfl) ?_
  refine lv_iconst (v := nI 2) hx hb dL_law_924 (by decide) ?_
  refine lv_iadd hx hb dL_law_925 ?_
  refine lv_asi (nI_add _ _) ?_
  refine sld hx hb hXb hbl hbA hS (k := i + 2) (by omega) hL dL_law_926 ?_
  refine lv_aload_n hx hb dL_law_927 rfl (lv_at hl 5 rfl) ?_
  refine lv_iload hx hb dL_law_928 (lv_at hl 1 rfl) ?_
  refine lv_iconst (v := nI 3) hx hb dL_law_930 (by decide) ?_
  refine lv_iadd hx hb dL_law_931 ?_
  refine lv_asi (nI_add _ _) ?_
  refine sld hx hb hXb hbl hbA hS (k := i + 3) (by omega) hL dL_law_932 ?_
  refine Ci.callV (As := [.int (xs (i + 1)), .int (xs (i + 2)), .int (xs (i + 3))]) (rest := []) (wr := lwF cI fa uu.1 ++ [(o0, .inl (cJ, 1, .inr (.inl uu.2)))]) (wn := fun vv => lwW cI cJ fa ma o0 uu.1 vv uu.2) (cv_L_126 hg ⟨Nat.le_of_ble_eq_true rfl, Nat.le_of_ble_eq_true rfl⟩) (c_find l D cI (ma 0) (ma 1) (ma 2) (ma 3) (ma 4) (ma 5) (ma 6) (ma 7) (ma 8) (ma 9) (ma 10) (ma 11) (v.2.1 0) (v.2.1 1) (v.1 0) (v.1 1) (v.1 2) (v.1 3) (v.1 4) (v.2.2 0) (v.2.2 1) (v.2.2 2) (v.2.2 3) (v.2.2 4) (v.2.2 5) (v.2.2 6) (v.2.2 7) (v.2.2 8) (v.2.2 9) (v.2.2 10) (by omega) (by omega) (xs (i + 1)) (xs (i + 2)) (xs (i + 3))) cx hKI hP hD hA [22, 23, 24, 25, 26, 27, 28, 29, 30, 31, 32, 33] [0, 1, 2, 3, 4, 5, 6, 7, 8, 9, 10, 11, 12, 13, 14, 15, 16, 17, 18, 19, 20, 21, 34] [0, 1, 2, 3, 4, 5, 6, 7, 8, 9, 10, 11, 12, 13, 14, 15, 16, 17, 18, 19, 20, 21, 23, 24, 25, 26, 27, 28, 29, 30, 31, 32, 33, 34, 22] rfl rfl (by decide) (fun _ => rfl) (rq := 0) rfl rfl rfl hS rfl hl.1 rfl (Nat.le_of_ble_eq_true rfl) dL_law_933 ⟨hf.1, hf.2⟩ (fun H locs r9 vv hw2 hP hD hS => ?_)
  refine lv_istore (lv' := [(6, .int r9), (5, .int k9), (4, .int (nI i)), (3, .ref o0), (2, .ref (ma 0)), (1, .ref (fa 0)), (0, .ref b)]) hx hb dL_law_936 hl (by decide) rfl (fun ls hl => ?_)
  refine lv_aload_n hx hb dL_law_938 rfl (lv_at hl 4 rfl) ?_
  have hfin := rl_find hR (xs (i + 1)) (xs (i + 2)) (xs (i + 3)) k9 uu r9 vv hw1 hw2
  obtain ⟨e1, e2, hR1⟩ := hfin
  refine Cp.callV (As := []) (rest := []) (cv_L_88 hg ⟨Nat.le_of_ble_eq_true rfl, Nat.le_of_ble_eq_true rfl⟩) (k_thrown l D cI (ma 0) (ma 1) (ma 2) (ma 3) (ma 4) (ma 5) (ma 6) (ma 7) (ma 8) (ma 9) (ma 10) (ma 11) (vv.2.1 0) (vv.2.1 1) (vv.1 0) (vv.1 1) (vv.1 2) (vv.1 3) (vv.1 4)) cx hKI hP [22] rfl (rq := 0) rfl rfl rfl hS rfl hl.1 rfl (Nat.le_of_ble_eq_true rfl) dL_law_939 ⟨hf.1, hf.2⟩ (fun H locs hP hS => ?_)
  refine lv_iload hx hb dL_law_942 (lv_at hl 1 rfl) ?_
  refine lv_icmp_eq (tgt := 949) hx hb dL_law_944 (by decide) (fun _ => ?_) (fun c9 => absurd e1 c9)
  have kend : W p l e room_1 s m #[Value.ref b] below meth c H locs (cells + 1) (slots + 6) Q (F0 m 966 ls []) := lv_goto (tgt := 1353) hx hb dL_law_966 (by decide) (kk H locs ls uu.1 vv uu.2 hR1 hP hD hS (lv_sub hl [2, 3, 4, 5, 6] rfl))
  refine lv_iload hx hb dL_law_949 (lv_at hl 1 rfl) ?_
  refine lv_if_ne (tgt := 966) hx hb dL_law_951 (by decide) (fun _ => kend) (fun c9 => ?_)
  refine lv_aload_n hx hb dL_law_954 rfl (lv_at hl 3 rfl) ?_
  refine lv_iconst (v := nI 0) hx hb dL_law_955 (by decide) ?_
  refine va_lald hx hb hK hP 34 1 rfl rfl (vp_in_nI (by decide) (by decide)) dL_law_956 ?_
  refine lv_iload hx hb dL_law_957 (lv_at hl 0 rfl) ?_
  refine lv_i2l hx hb dL_law_959 rfl ?_
  refine W.lcmp hx hb dL_law_960 ?_
  refine lv_if_eq (tgt := 966) hx hb dL_law_961 (by decide) (fun _ => kend) (fun d9 => absurd (lc_eq.mpr (e2 (c9.trans nI_0.symm))) d9)

set_option maxHeartbeats 4000000 in
set_option maxRecDepth 100000 in
theorem lq_answer (hst : l.stackTraces = false) {cI cJ : ClassId} (C0 : lwC p s m c D cI cJ b L xs) (hL : L ≤ 2560) {i : Nat} (hi : i + 5 ≤ L) (hf : cells + 1 ≤ 1082 ∧ slots + 6 ≤ 17720) {fa ma : Nat → Nat} {o0 : Nat} {u v : ff_S} {g : Nat → Int64} (hR : ff_Rel u v) (hP : va_P D vwCl (lwW cI cJ fa ma o0 u v g) H) (hD : va_D (lwA s) (lwW cI cJ fa ma o0 u v g)) (hS : va_S (lwA s) s.heap H locs) (hl : lv_has ls 7 [(4, .int (nI i)), (3, .ref o0), (2, .ref (ma 0)), (1, .ref (fa 0)), (0, .ref b)])
    (kk : ∀ (H1 : Heap) (locs1 : List Loc) (ls1 : Array Slot) (u1 v1 : ff_S) (g1 : Nat → Int64), ff_Rel u1 v1 → va_P D vwCl (lwW cI cJ fa ma o0 u1 v1 g1) H1 → va_D (lwA s) (lwW cI cJ fa ma o0 u1 v1 g1) → va_S (lwA s) s.heap H1 locs1 → lv_has ls1 7 [(4, .int (nI i)), (3, .ref o0), (2, .ref (ma 0)), (1, .ref (fa 0)), (0, .ref b)] → W p l e room_1 s m #[Value.ref b] below meth c H1 locs1 (cells + 1) (slots + 6) Q (F0 m 1353 ls1 [])) : W p l e room_1 s m #[Value.ref b] below meth c H locs cells slots Q (F0 m 969 ls []) := by
  obtain ⟨cx, hK, hXb, hbl, hX⟩ := C0
  obtain ⟨hx, hb, hml, hown, hg⟩ := id cx
  have hKI : va_K D vwCl (tI cI) s := hK.sub [0] rfl
  have hA : ∀ q : Nat, s.heap.size ≤ q → lwA s q := fun _ h => h
  have hbA : ¬ lwA s b := Nat.not_le.mpr hbl
  obtain ⟨⟨hn, en, hN2⟩, ⟨ht, et, hT2⟩, ⟨hg1, eg, hG2⟩, ⟨hp1, ep, hP2⟩, ⟨hq1, eq1, ec, hQ2⟩⟩ := id hR
  refine lv_aload_n hx hb dL_law_969 rfl (lv_at hl 3 rfl) ?_
  refine lv_aload_n hx hb dL_law_970 rfl (lv_at hl 4 rfl) ?_
  refine lv_iload hx hb dL_law_971 (lv_at hl 0 rfl) ?_
  refine lv_iconst (v := nI 1) hx hb dL_law_973 (by decide) ?_
  refine lv_iadd hx hb dL_law_974 ?_
  refine lv_asi (nI_add _ _) ?_
  refine sld hx hb hXb hbl hbA hS (k := i + 1) (by omega) hL dL_law_975 ?_
  refine lv_aload_n hx hb dL_law_976 rfl (lv_at hl 4 rfl) ?_
  refine lv_iload hx hb dL_law_977 (lv_at hl 0 rfl) ?_
  refine lv_iconst (v := nI 2) hx hb dL_law_979 (by decide) ?_
  refine lv_iadd hx hb dL_law_980 ?_
  refine lv_asi (nI_add _ _) ?_
  refine sld hx hb hXb hbl hbA hS (k := i + 2) (by omega) hL dL_law_981 ?_
  refine lv_aload_n hx hb dL_law_982 rfl (lv_at hl 4 rfl) ?_
  refine lv_iload hx hb dL_law_983 (lv_at hl 0 rfl) ?_
  refine lv_iconst (v := nI 3) hx hb dL_law_985 (by decide) ?_
  refine lv_iadd hx hb dL_law_986 ?_
  refine lv_asi (nI_add _ _) ?_
  refine sld hx hb hXb hbl hbA hS (k := i + 3) (by omega) hL dL_law_987 ?_
  refine lv_aload_n hx hb dL_law_988 rfl (lv_at hl 1 rfl) ?_
  refine Cw.callS (As := [.ref (fa 0), .int (xs (i + 1)), .int (xs (i + 2)), .int (xs (i + 3)), .ref o0]) (rest := []) (wr := lwM cI ma v) (wn := fun uu => lwW cI cJ fa ma o0 uu.1 v uu.2) (cv_L_127 hg ⟨Nat.le_of_ble_eq_true rfl, Nat.le_of_ble_eq_true rfl⟩) (w_answer l hst D cI cJ (fa 0) (fa 1) (fa 2) (fa 3) (fa 4) (fa 5) (fa 6) (fa 7) (fa 8) (fa 9) (fa 10) (fa 11) (fa 12) (fa 13) (fa 14) (fa 15) (fa 16) (fa 17) (fa 18) (fa 19) (fa 20) (fa 21) o0 (u.1 0) (u.1 1) (u.1 2) (u.1 3) (u.1 4) (u.1 5) (u.2.1 0) (u.2.1 1) (u.2.2 0) (u.2.2 1) (u.2.2 2) (u.2.2 3) (u.2.2 4) (u.2.2 5) (u.2.2 6) (u.2.2 7) (u.2.2 8) (u.2.2 9) (u.2.2 10) (u.2.2 11) (u.2.2 12) (u.2.2 13) g hn ht (xs (i + 1)) (xs (i + 2)) (xs (i + 3)) (fun t h => (hT2 t h).2.2)) cx hK hX hP hD hA [0, 1, 2, 3, 4, 5, 6, 7, 8, 9, 10, 11, 12, 13, 14, 15, 16, 17, 18, 19, 20, 21, 34] [22, 23, 24, 25, 26, 27, 28, 29, 30, 31, 32, 33] [12, 13, 14, 15, 16, 17, 18, 19, 20, 21, 22, 23, 24, 25, 26, 27, 28, 29, 30, 31, 32, 33, 0, 1, 2, 3, 4, 5, 6, 7, 8, 9, 10, 11, 34] rfl rfl (by decide) (fun _ => rfl) hS rfl hl.1 rfl (Nat.le_of_ble_eq_true rfl) dL_law_989 hf (fun H locs k9 uu hw1 hP hD hS => ?_)
  refine lv_istore (lv' := [(5, .int k9), (4, .int (nI i)), (3, .ref o0), (2, .ref (ma 0)), (1, .ref (fa 0)), (0, .ref b)]) hx hb dL_law_992 hl (by decide) rfl (fun ls hl => ?_)
  refine lv_aload_n hx hb dL_law_994 rfl (lv_at hl 3 rfl) ?_
  refine lv_aload_n hx hb dL_law_995 rfl (lv_at hl 5 rfl) ?_
  refine lv_iload hx hb dL_law_996 (lv_at hl 1 rfl) ?_
  refine lv_iconst (v := nI 1) hx hb dL_law_998 (by decide) ?_
  refine lv_iadd hx hb dL_law_999 ?_
  refine lv_asi (nI_add _ _) ?_
  refine sld hx hb hXb hbl hbA hS (k := i + 1) (by omega) hL dL_law_1000 ?_
  refine lv_aload_n hx hb dL_law_1001 rfl (lv_at hl 5 rfl) ?_
  refine lv_iload hx hb dL_law_1002 (lv_at hl 1 rfl) ?_
  refine lv_iconst (v := nI 2) hx hb dL_law_1004 (by decide) ?_
  refine lv_iadd hx hb dL_law_1005 ?_
  refine lv_asi (nI_add _ _) ?_
  refine sld hx hb hXb hbl hbA hS (k := i + 2) (by omega) hL dL_law_1006 ?_
  refine lv_aload_n hx hb dL_law_1007 rfl (lv_at hl 5 rfl) ?_
  refine lv_iload hx hb dL_law_1008 (lv_at hl 1 rfl) ?_
  refine lv_iconst (v := nI 3) hx hb dL_law_1010 (by decide) ?_
  refine lv_iadd hx hb dL_law_1011 ?_
  refine lv_asi (nI_add _ _) ?_
  refine sld hx hb hXb hbl hbA hS (k := i + 3) (by omega) hL dL_law_1012 ?_
  refine Ci.callV (As := [.int (xs (i + 1)), .int (xs (i + 2)), .int (xs (i + 3))]) (rest := []) (wr := lwF cI fa uu.1 ++ [(o0, .inl (cJ, 1, .inr (.inl uu.2)))]) (wn := fun vv => lwW cI cJ fa ma o0 uu.1 vv uu.2) (cv_L_129 hg ⟨Nat.le_of_ble_eq_true rfl, Nat.le_of_ble_eq_true rfl⟩) (c_answer l D cI (ma 0) (ma 1) (ma 2) (ma 3) (ma 4) (ma 5) (ma 6) (ma 7) (ma 8) (ma 9) (ma 10) (ma 11) (v.2.1 0) (v.2.1 1) (v.1 0) (v.1 1) (v.1 2) (v.1 3) (v.1 4) (v.2.2 0) (v.2.2 1) (v.2.2 2) (v.2.2 3) (v.2.2 4) (v.2.2 5) (v.2.2 6) (v.2.2 7) (v.2.2 8) (v.2.2 9) (v.2.2 10) (by omega) (by omega) (xs (i + 1)) (xs (i + 2)) (xs (i + 3)) (fun t h => by rw [(hT2 t (by omega)).1]; exact (hT2 t (by omega)).2.2)) cx hKI hP hD hA [22, 23, 24, 25, 26, 27, 28, 29, 30, 31, 32, 33] [0, 1, 2, 3, 4, 5, 6, 7, 8, 9, 10, 11, 12, 13, 14, 15, 16, 17, 18, 19, 20, 21, 34] [0, 1, 2, 3, 4, 5, 6, 7, 8, 9, 10, 11, 12, 13, 14, 15, 16, 17, 18, 19, 20, 21, 23, 24, 25, 26, 27, 28, 29, 30, 31, 32, 33, 34, 22] rfl rfl (by decide) (fun _ => rfl) (rq := 0) rfl rfl rfl hS rfl hl.1 rfl (Nat.le_of_ble_eq_true rfl) dL_law_1013 ⟨hf.1, hf.2⟩ (fun H locs r9 vv hw2 hP hD hS => ?_)
  refine lv_istore (lv' := [(6, .int r9), (5, .int k9), (4, .int (nI i)), (3, .ref o0), (2, .ref (ma 0)), (1, .ref (fa 0)), (0, .ref b)]) hx hb dL_law_1016 hl (by decide) rfl (fun ls hl => ?_)
  refine lv_aload_n hx hb dL_law_1018 rfl (lv_at hl 4 rfl) ?_
  have hfin := rl_answer hR (xs (i + 1)) (xs (i + 2)) (xs (i + 3)) k9 uu r9 vv hw1 hw2
  obtain ⟨e1, e2, hR1⟩ := hfin
  refine Cp.callV (As := []) (rest := []) (cv_L_88 hg ⟨Nat.le_of_ble_eq_true rfl, Nat.le_of_ble_eq_true rfl⟩) (k_thrown l D cI (ma 0) (ma 1) (ma 2) (ma 3) (ma 4) (ma 5) (ma 6) (ma 7) (ma 8) (ma 9) (ma 10) (ma 11) (vv.2.1 0) (vv.2.1 1) (vv.1 0) (vv.1 1) (vv.1 2) (vv.1 3) (vv.1 4)) cx hKI hP [22] rfl (rq := 0) rfl rfl rfl hS rfl hl.1 rfl (Nat.le_of_ble_eq_true rfl) dL_law_1019 ⟨hf.1, hf.2⟩ (fun H locs hP hS => ?_)
  refine lv_iload hx hb dL_law_1022 (lv_at hl 1 rfl) ?_
  refine lv_icmp_eq (tgt := 1029) hx hb dL_law_1024 (by decide) (fun _ => ?_) (fun c9 => absurd e1 c9)
  have kend : W p l e room_1 s m #[Value.ref b] below meth c H locs (cells + 1) (slots + 6) Q (F0 m 1046 ls []) := lv_goto (tgt := 1353) hx hb dL_law_1046 (by decide) (kk H locs ls uu.1 vv uu.2 hR1 hP hD hS (lv_sub hl [2, 3, 4, 5, 6] rfl))
  refine lv_iload hx hb dL_law_1029 (lv_at hl 1 rfl) ?_
  refine lv_if_ne (tgt := 1046) hx hb dL_law_1031 (by decide) (fun _ => kend) (fun c9 => ?_)
  refine lv_aload_n hx hb dL_law_1034 rfl (lv_at hl 3 rfl) ?_
  refine lv_iconst (v := nI 0) hx hb dL_law_1035 (by decide) ?_
  refine va_lald hx hb hK hP 34 1 rfl rfl (vp_in_nI (by decide) (by decide)) dL_law_1036 ?_
  refine lv_iload hx hb dL_law_1037 (lv_at hl 0 rfl) ?_
  refine lv_i2l hx hb dL_law_1039 rfl ?_
  refine W.lcmp hx hb dL_law_1040 ?_
  refine lv_if_eq (tgt := 1046) hx hb dL_law_1041 (by decide) (fun _ => kend) (fun d9 => absurd (lc_eq.mpr (e2 (c9.trans nI_0.symm))) d9)

set_option maxHeartbeats 4000000 in
set_option maxRecDepth 100000 in
theorem lq_entries (hst : l.stackTraces = false) {cI cJ : ClassId} (C0 : lwC p s m c D cI cJ b L xs) (hL : L ≤ 2560) {i : Nat} (hi : i + 5 ≤ L) (hf : cells + 1 ≤ 1082 ∧ slots + 6 ≤ 17720) {fa ma : Nat → Nat} {o0 : Nat} {u v : ff_S} {g : Nat → Int64} (hR : ff_Rel u v) (hP : va_P D vwCl (lwW cI cJ fa ma o0 u v g) H) (hD : va_D (lwA s) (lwW cI cJ fa ma o0 u v g)) (hS : va_S (lwA s) s.heap H locs) (hl : lv_has ls 7 [(4, .int (nI i)), (3, .ref o0), (2, .ref (ma 0)), (1, .ref (fa 0)), (0, .ref b)])
    (kk : ∀ (H1 : Heap) (locs1 : List Loc) (ls1 : Array Slot) (u1 v1 : ff_S) (g1 : Nat → Int64), ff_Rel u1 v1 → va_P D vwCl (lwW cI cJ fa ma o0 u1 v1 g1) H1 → va_D (lwA s) (lwW cI cJ fa ma o0 u1 v1 g1) → va_S (lwA s) s.heap H1 locs1 → lv_has ls1 7 [(4, .int (nI i)), (3, .ref o0), (2, .ref (ma 0)), (1, .ref (fa 0)), (0, .ref b)] → W p l e room_1 s m #[Value.ref b] below meth c H1 locs1 (cells + 1) (slots + 6) Q (F0 m 1353 ls1 [])) : W p l e room_1 s m #[Value.ref b] below meth c H locs cells slots Q (F0 m 1049 ls []) := by
  obtain ⟨cx, hK, hXb, hbl, hX⟩ := C0
  obtain ⟨hx, hb, hml, hown, hg⟩ := id cx
  have hKI : va_K D vwCl (tI cI) s := hK.sub [0] rfl
  have hA : ∀ q : Nat, s.heap.size ≤ q → lwA s q := fun _ h => h
  have hbA : ¬ lwA s b := Nat.not_le.mpr hbl
  obtain ⟨⟨hn, en, hN2⟩, ⟨ht, et, hT2⟩, ⟨hg1, eg, hG2⟩, ⟨hp1, ep, hP2⟩, ⟨hq1, eq1, ec, hQ2⟩⟩ := id hR
  refine lv_aload_n hx hb dL_law_1049 rfl (lv_at hl 3 rfl) ?_
  refine lv_aload_n hx hb dL_law_1050 rfl (lv_at hl 4 rfl) ?_
  refine lv_iload hx hb dL_law_1051 (lv_at hl 0 rfl) ?_
  refine lv_iconst (v := nI 1) hx hb dL_law_1053 (by decide) ?_
  refine lv_iadd hx hb dL_law_1054 ?_
  refine lv_asi (nI_add _ _) ?_
  refine sld hx hb hXb hbl hbA hS (k := i + 1) (by omega) hL dL_law_1055 ?_
  refine lv_aload_n hx hb dL_law_1056 rfl (lv_at hl 4 rfl) ?_
  refine lv_iload hx hb dL_law_1057 (lv_at hl 0 rfl) ?_
  refine lv_iconst (v := nI 2) hx hb dL_law_1059 (by decide) ?_
  refine lv_iadd hx hb dL_law_1060 ?_
  refine lv_asi (nI_add _ _) ?_
  refine sld hx hb hXb hbl hbA hS (k := i + 2) (by omega) hL dL_law_1061 ?_
  refine lv_aload_n hx hb dL_law_1062 rfl (lv_at hl 1 rfl) ?_
  refine Cw.callS (As := [.ref (fa 0), .int (xs (i + 1)), .int (xs (i + 2)), .ref o0]) (rest := []) (wr := lwM cI ma v) (wn := fun uu => lwW cI cJ fa ma o0 uu.1 v uu.2) (cv_L_130 hg ⟨Nat.le_of_ble_eq_true rfl, Nat.le_of_ble_eq_true rfl⟩) (w_entries l hst D cI cJ (fa 0) (fa 1) (fa 2) (fa 3) (fa 4) (fa 5) (fa 6) (fa 7) (fa 8) (fa 9) (fa 10) (fa 11) (fa 12) (fa 13) (fa 14) (fa 15) (fa 16) (fa 17) (fa 18) (fa 19) (fa 20) (fa 21) o0 (u.1 0) (u.1 1) (u.1 2) (u.1 3) (u.1 4) (u.1 5) (u.2.1 0) (u.2.1 1) (u.2.2 0) (u.2.2 1) (u.2.2 2) (u.2.2 3) (u.2.2 4) (u.2.2 5) (u.2.2 6) (u.2.2 7) (u.2.2 8) (u.2.2 9) (u.2.2 10) (u.2.2 11) (u.2.2 12) (u.2.2 13) g hn ht (xs (i + 1)) (xs (i + 2)) (fun t h => (hT2 t h).2.2)) cx hK hX hP hD hA [0, 1, 2, 3, 4, 5, 6, 7, 8, 9, 10, 11, 12, 13, 14, 15, 16, 17, 18, 19, 20, 21, 34] [22, 23, 24, 25, 26, 27, 28, 29, 30, 31, 32, 33] [12, 13, 14, 15, 16, 17, 18, 19, 20, 21, 22, 23, 24, 25, 26, 27, 28, 29, 30, 31, 32, 33, 0, 1, 2, 3, 4, 5, 6, 7, 8, 9, 10, 11, 34] rfl rfl (by decide) (fun _ => rfl) hS rfl hl.1 rfl (Nat.le_of_ble_eq_true rfl) dL_law_1063 hf (fun H locs k9 uu hw1 hP hD hS => ?_)
  refine lv_istore (lv' := [(5, .int k9), (4, .int (nI i)), (3, .ref o0), (2, .ref (ma 0)), (1, .ref (fa 0)), (0, .ref b)]) hx hb dL_law_1066 hl (by decide) rfl (fun ls hl => ?_)
  refine lv_aload_n hx hb dL_law_1068 rfl (lv_at hl 3 rfl) ?_
  refine lv_aload_n hx hb dL_law_1069 rfl (lv_at hl 5 rfl) ?_
  refine lv_iload hx hb dL_law_1070 (lv_at hl 1 rfl) ?_
  refine lv_iconst (v := nI 1) hx hb dL_law_1072 (by decide) ?_
  refine lv_iadd hx hb dL_law_1073 ?_
  refine lv_asi (nI_add _ _) ?_
  refine sld hx hb hXb hbl hbA hS (k := i + 1) (by omega) hL dL_law_1074 ?_
  refine lv_aload_n hx hb dL_law_1075 rfl (lv_at hl 5 rfl) ?_
  refine lv_iload hx hb dL_law_1076 (lv_at hl 1 rfl) ?_
  refine lv_iconst (v := nI 2) hx hb dL_law_1078 (by decide) ?_
  refine lv_iadd hx hb dL_law_1079 ?_
  refine lv_asi (nI_add _ _) ?_
  refine sld hx hb hXb hbl hbA hS (k := i + 2) (by omega) hL dL_law_1080 ?_
  refine Ci.callV (As := [.int (xs (i + 1)), .int (xs (i + 2))]) (rest := []) (wr := lwF cI fa uu.1 ++ [(o0, .inl (cJ, 1, .inr (.inl uu.2)))]) (wn := fun vv => lwW cI cJ fa ma o0 uu.1 vv uu.2) (cv_L_132 hg ⟨Nat.le_of_ble_eq_true rfl, Nat.le_of_ble_eq_true rfl⟩) (c_entries l D cI (ma 0) (ma 1) (ma 2) (ma 3) (ma 4) (ma 5) (ma 6) (ma 7) (ma 8) (ma 9) (ma 10) (ma 11) (v.2.1 0) (v.2.1 1) (v.1 0) (v.1 1) (v.1 2) (v.1 3) (v.1 4) (v.2.2 0) (v.2.2 1) (v.2.2 2) (v.2.2 3) (v.2.2 4) (v.2.2 5) (v.2.2 6) (v.2.2 7) (v.2.2 8) (v.2.2 9) (v.2.2 10) (by omega) (by omega) (xs (i + 1)) (xs (i + 2)) (fun t h => by rw [(hT2 t (by omega)).1]; exact (hT2 t (by omega)).2.2)) cx hKI hP hD hA [22, 23, 24, 25, 26, 27, 28, 29, 30, 31, 32, 33] [0, 1, 2, 3, 4, 5, 6, 7, 8, 9, 10, 11, 12, 13, 14, 15, 16, 17, 18, 19, 20, 21, 34] [0, 1, 2, 3, 4, 5, 6, 7, 8, 9, 10, 11, 12, 13, 14, 15, 16, 17, 18, 19, 20, 21, 23, 24, 25, 26, 27, 28, 29, 30, 31, 32, 33, 34, 22] rfl rfl (by decide) (fun _ => rfl) (rq := 0) rfl rfl rfl hS rfl hl.1 rfl (Nat.le_of_ble_eq_true rfl) dL_law_1081 ⟨hf.1, hf.2⟩ (fun H locs r9 vv hw2 hP hD hS => ?_)
  refine lv_istore (lv' := [(6, .int r9), (5, .int k9), (4, .int (nI i)), (3, .ref o0), (2, .ref (ma 0)), (1, .ref (fa 0)), (0, .ref b)]) hx hb dL_law_1084 hl (by decide) rfl (fun ls hl => ?_)
  refine lv_aload_n hx hb dL_law_1086 rfl (lv_at hl 4 rfl) ?_
  have hfin := rl_entries hR (xs (i + 1)) (xs (i + 2)) k9 uu r9 vv hw1 hw2
  obtain ⟨e1, e2, hR1⟩ := hfin
  refine Cp.callV (As := []) (rest := []) (cv_L_88 hg ⟨Nat.le_of_ble_eq_true rfl, Nat.le_of_ble_eq_true rfl⟩) (k_thrown l D cI (ma 0) (ma 1) (ma 2) (ma 3) (ma 4) (ma 5) (ma 6) (ma 7) (ma 8) (ma 9) (ma 10) (ma 11) (vv.2.1 0) (vv.2.1 1) (vv.1 0) (vv.1 1) (vv.1 2) (vv.1 3) (vv.1 4)) cx hKI hP [22] rfl (rq := 0) rfl rfl rfl hS rfl hl.1 rfl (Nat.le_of_ble_eq_true rfl) dL_law_1087 ⟨hf.1, hf.2⟩ (fun H locs hP hS => ?_)
  refine lv_iload hx hb dL_law_1090 (lv_at hl 1 rfl) ?_
  refine lv_icmp_eq (tgt := 1097) hx hb dL_law_1092 (by decide) (fun _ => ?_) (fun c9 => absurd e1 c9)
  have kend : W p l e room_1 s m #[Value.ref b] below meth c H locs (cells + 1) (slots + 6) Q (F0 m 1114 ls []) := lv_goto (tgt := 1353) hx hb dL_law_1114 (by decide) (kk H locs ls uu.1 vv uu.2 hR1 hP hD hS (lv_sub hl [2, 3, 4, 5, 6] rfl))
  refine lv_iload hx hb dL_law_1097 (lv_at hl 1 rfl) ?_
  refine lv_if_ne (tgt := 1114) hx hb dL_law_1099 (by decide) (fun _ => kend) (fun c9 => ?_)
  refine lv_aload_n hx hb dL_law_1102 rfl (lv_at hl 3 rfl) ?_
  refine lv_iconst (v := nI 0) hx hb dL_law_1103 (by decide) ?_
  refine va_lald hx hb hK hP 34 1 rfl rfl (vp_in_nI (by decide) (by decide)) dL_law_1104 ?_
  refine lv_iload hx hb dL_law_1105 (lv_at hl 0 rfl) ?_
  refine lv_i2l hx hb dL_law_1107 rfl ?_
  refine W.lcmp hx hb dL_law_1108 ?_
  refine lv_if_eq (tgt := 1114) hx hb dL_law_1109 (by decide) (fun _ => kend) (fun d9 => absurd (lc_eq.mpr (e2 (c9.trans nI_0.symm))) d9)

set_option maxHeartbeats 4000000 in
set_option maxRecDepth 100000 in
theorem lq_found (hst : l.stackTraces = false) {cI cJ : ClassId} (C0 : lwC p s m c D cI cJ b L xs) (hL : L ≤ 2560) {i : Nat} (hi : i + 5 ≤ L) (hf : cells + 1 ≤ 1082 ∧ slots + 6 ≤ 17720) {fa ma : Nat → Nat} {o0 : Nat} {u v : ff_S} {g : Nat → Int64} (hR : ff_Rel u v) (hP : va_P D vwCl (lwW cI cJ fa ma o0 u v g) H) (hD : va_D (lwA s) (lwW cI cJ fa ma o0 u v g)) (hS : va_S (lwA s) s.heap H locs) (hl : lv_has ls 7 [(4, .int (nI i)), (3, .ref o0), (2, .ref (ma 0)), (1, .ref (fa 0)), (0, .ref b)])
    (kk : ∀ (H1 : Heap) (locs1 : List Loc) (ls1 : Array Slot) (u1 v1 : ff_S) (g1 : Nat → Int64), ff_Rel u1 v1 → va_P D vwCl (lwW cI cJ fa ma o0 u1 v1 g1) H1 → va_D (lwA s) (lwW cI cJ fa ma o0 u1 v1 g1) → va_S (lwA s) s.heap H1 locs1 → lv_has ls1 7 [(4, .int (nI i)), (3, .ref o0), (2, .ref (ma 0)), (1, .ref (fa 0)), (0, .ref b)] → W p l e room_1 s m #[Value.ref b] below meth c H1 locs1 (cells + 1) (slots + 6) Q (F0 m 1353 ls1 [])) : W p l e room_1 s m #[Value.ref b] below meth c H locs cells slots Q (F0 m 1117 ls []) := by
  obtain ⟨cx, hK, hXb, hbl, hX⟩ := C0
  obtain ⟨hx, hb, hml, hown, hg⟩ := id cx
  have hKI : va_K D vwCl (tI cI) s := hK.sub [0] rfl
  have hA : ∀ q : Nat, s.heap.size ≤ q → lwA s q := fun _ h => h
  have hbA : ¬ lwA s b := Nat.not_le.mpr hbl
  obtain ⟨⟨hn, en, hN2⟩, ⟨ht, et, hT2⟩, ⟨hg1, eg, hG2⟩, ⟨hp1, ep, hP2⟩, ⟨hq1, eq1, ec, hQ2⟩⟩ := id hR
  refine lv_aload_n hx hb dL_law_1117 rfl (lv_at hl 3 rfl) ?_
  refine lv_aload_n hx hb dL_law_1118 rfl (lv_at hl 4 rfl) ?_
  refine lv_iload hx hb dL_law_1119 (lv_at hl 0 rfl) ?_
  refine lv_iconst (v := nI 1) hx hb dL_law_1121 (by decide) ?_
  refine lv_iadd hx hb dL_law_1122 ?_
  refine lv_asi (nI_add _ _) ?_
  refine sld hx hb hXb hbl hbA hS (k := i + 1) (by omega) hL dL_law_1123 ?_
  refine lv_aload_n hx hb dL_law_1124 rfl (lv_at hl 1 rfl) ?_
  refine Cw.callS (As := [.ref (fa 0), .int (xs (i + 1)), .ref o0]) (rest := []) (wr := lwM cI ma v) (wn := fun uu => lwW cI cJ fa ma o0 uu.1 v uu.2) (cv_L_133 hg ⟨Nat.le_of_ble_eq_true rfl, Nat.le_of_ble_eq_true rfl⟩) (w_found l hst D cI cJ (fa 0) (fa 1) (fa 2) (fa 3) (fa 4) (fa 5) (fa 6) (fa 7) (fa 8) (fa 9) (fa 10) (fa 11) (fa 12) (fa 13) (fa 14) (fa 15) (fa 16) (fa 17) (fa 18) (fa 19) (fa 20) (fa 21) o0 (u.1 0) (u.1 1) (u.1 2) (u.1 3) (u.1 4) (u.1 5) (u.2.1 0) (u.2.1 1) (u.2.2 0) (u.2.2 1) (u.2.2 2) (u.2.2 3) (u.2.2 4) (u.2.2 5) (u.2.2 6) (u.2.2 7) (u.2.2 8) (u.2.2 9) (u.2.2 10) (u.2.2 11) (u.2.2 12) (u.2.2 13) g hn ht (xs (i + 1)) hp1) cx hK hX hP hD hA [0, 1, 2, 3, 4, 5, 6, 7, 8, 9, 10, 11, 12, 13, 14, 15, 16, 17, 18, 19, 20, 21, 34] [22, 23, 24, 25, 26, 27, 28, 29, 30, 31, 32, 33] [12, 13, 14, 15, 16, 17, 18, 19, 20, 21, 22, 23, 24, 25, 26, 27, 28, 29, 30, 31, 32, 33, 0, 1, 2, 3, 4, 5, 6, 7, 8, 9, 10, 11, 34] rfl rfl (by decide) (fun _ => rfl) hS rfl hl.1 rfl (Nat.le_of_ble_eq_true rfl) dL_law_1125 hf (fun H locs k9 uu hw1 hP hD hS => ?_)
  refine lv_istore (lv' := [(5, .int k9), (4, .int (nI i)), (3, .ref o0), (2, .ref (ma 0)), (1, .ref (fa 0)), (0, .ref b)]) hx hb dL_law_1128 hl (by decide) rfl (fun ls hl => ?_)
  refine lv_aload_n hx hb dL_law_1130 rfl (lv_at hl 3 rfl) ?_
  refine lv_aload_n hx hb dL_law_1131 rfl (lv_at hl 5 rfl) ?_
  refine lv_iload hx hb dL_law_1132 (lv_at hl 1 rfl) ?_
  refine lv_iconst (v := nI 1) hx hb dL_law_1134 (by decide) ?_
  refine lv_iadd hx hb dL_law_1135 ?_
  refine lv_asi (nI_add _ _) ?_
  refine sld hx hb hXb hbl hbA hS (k := i + 1) (by omega) hL dL_law_1136 ?_
  refine Ci.callV (As := [.int (xs (i + 1))]) (rest := []) (wr := lwF cI fa uu.1 ++ [(o0, .inl (cJ, 1, .inr (.inl uu.2)))]) (wn := fun vv => lwW cI cJ fa ma o0 uu.1 vv uu.2) (cv_L_135 hg ⟨Nat.le_of_ble_eq_true rfl, Nat.le_of_ble_eq_true rfl⟩) (c_found l D cI (ma 0) (ma 1) (ma 2) (ma 3) (ma 4) (ma 5) (ma 6) (ma 7) (ma 8) (ma 9) (ma 10) (ma 11) (v.2.1 0) (v.2.1 1) (v.1 0) (v.1 1) (v.1 2) (v.1 3) (v.1 4) (v.2.2 0) (v.2.2 1) (v.2.2 2) (v.2.2 3) (v.2.2 4) (v.2.2 5) (v.2.2 6) (v.2.2 7) (v.2.2 8) (v.2.2 9) (v.2.2 10) (by omega) (by omega) (xs (i + 1)) (by omega)) cx hKI hP hD hA [22, 23, 24, 25, 26, 27, 28, 29, 30, 31, 32, 33] [0, 1, 2, 3, 4, 5, 6, 7, 8, 9, 10, 11, 12, 13, 14, 15, 16, 17, 18, 19, 20, 21, 34] [0, 1, 2, 3, 4, 5, 6, 7, 8, 9, 10, 11, 12, 13, 14, 15, 16, 17, 18, 19, 20, 21, 23, 24, 25, 26, 27, 28, 29, 30, 31, 32, 33, 34, 22] rfl rfl (by decide) (fun _ => rfl) (rq := 0) rfl rfl rfl hS rfl hl.1 rfl (Nat.le_of_ble_eq_true rfl) dL_law_1137 ⟨hf.1, hf.2⟩ (fun H locs r9 vv hw2 hP hD hS => ?_)
  refine lv_istore (lv' := [(6, .int r9), (5, .int k9), (4, .int (nI i)), (3, .ref o0), (2, .ref (ma 0)), (1, .ref (fa 0)), (0, .ref b)]) hx hb dL_law_1140 hl (by decide) rfl (fun ls hl => ?_)
  refine lv_aload_n hx hb dL_law_1142 rfl (lv_at hl 4 rfl) ?_
  have hfin := rl_found hR (xs (i + 1)) k9 uu r9 vv hw1 hw2
  obtain ⟨e1, e2, hR1⟩ := hfin
  refine Cp.callV (As := []) (rest := []) (cv_L_88 hg ⟨Nat.le_of_ble_eq_true rfl, Nat.le_of_ble_eq_true rfl⟩) (k_thrown l D cI (ma 0) (ma 1) (ma 2) (ma 3) (ma 4) (ma 5) (ma 6) (ma 7) (ma 8) (ma 9) (ma 10) (ma 11) (vv.2.1 0) (vv.2.1 1) (vv.1 0) (vv.1 1) (vv.1 2) (vv.1 3) (vv.1 4)) cx hKI hP [22] rfl (rq := 0) rfl rfl rfl hS rfl hl.1 rfl (Nat.le_of_ble_eq_true rfl) dL_law_1143 ⟨hf.1, hf.2⟩ (fun H locs hP hS => ?_)
  refine lv_iload hx hb dL_law_1146 (lv_at hl 1 rfl) ?_
  refine lv_icmp_eq (tgt := 1153) hx hb dL_law_1148 (by decide) (fun _ => ?_) (fun c9 => absurd e1 c9)
  have kend : W p l e room_1 s m #[Value.ref b] below meth c H locs (cells + 1) (slots + 6) Q (F0 m 1170 ls []) := lv_goto (tgt := 1353) hx hb dL_law_1170 (by decide) (kk H locs ls uu.1 vv uu.2 hR1 hP hD hS (lv_sub hl [2, 3, 4, 5, 6] rfl))
  refine lv_iload hx hb dL_law_1153 (lv_at hl 1 rfl) ?_
  refine lv_if_ne (tgt := 1170) hx hb dL_law_1155 (by decide) (fun _ => kend) (fun c9 => ?_)
  refine lv_aload_n hx hb dL_law_1158 rfl (lv_at hl 3 rfl) ?_
  refine lv_iconst (v := nI 0) hx hb dL_law_1159 (by decide) ?_
  refine va_lald hx hb hK hP 34 1 rfl rfl (vp_in_nI (by decide) (by decide)) dL_law_1160 ?_
  refine lv_iload hx hb dL_law_1161 (lv_at hl 0 rfl) ?_
  refine lv_i2l hx hb dL_law_1163 rfl ?_
  refine W.lcmp hx hb dL_law_1164 ?_
  refine lv_if_eq (tgt := 1170) hx hb dL_law_1165 (by decide) (fun _ => kend) (fun d9 => absurd (lc_eq.mpr (e2 (c9.trans nI_0.symm))) d9)

set_option maxHeartbeats 4000000 in
set_option maxRecDepth 100000 in
theorem lq_sections (hst : l.stackTraces = false) {cI cJ : ClassId} (C0 : lwC p s m c D cI cJ b L xs) (hL : L ≤ 2560) {i : Nat} (hi : i + 5 ≤ L) (hf : cells + 1 ≤ 1082 ∧ slots + 6 ≤ 17720) {fa ma : Nat → Nat} {o0 : Nat} {u v : ff_S} {g : Nat → Int64} (hR : ff_Rel u v) (hP : va_P D vwCl (lwW cI cJ fa ma o0 u v g) H) (hD : va_D (lwA s) (lwW cI cJ fa ma o0 u v g)) (hS : va_S (lwA s) s.heap H locs) (hl : lv_has ls 7 [(4, .int (nI i)), (3, .ref o0), (2, .ref (ma 0)), (1, .ref (fa 0)), (0, .ref b)])
    (kk : ∀ (H1 : Heap) (locs1 : List Loc) (ls1 : Array Slot) (u1 v1 : ff_S) (g1 : Nat → Int64), ff_Rel u1 v1 → va_P D vwCl (lwW cI cJ fa ma o0 u1 v1 g1) H1 → va_D (lwA s) (lwW cI cJ fa ma o0 u1 v1 g1) → va_S (lwA s) s.heap H1 locs1 → lv_has ls1 7 [(4, .int (nI i)), (3, .ref o0), (2, .ref (ma 0)), (1, .ref (fa 0)), (0, .ref b)] → W p l e room_1 s m #[Value.ref b] below meth c H1 locs1 (cells + 1) (slots + 6) Q (F0 m 1353 ls1 [])) : W p l e room_1 s m #[Value.ref b] below meth c H locs cells slots Q (F0 m 1173 ls []) := by
  obtain ⟨cx, hK, hXb, hbl, hX⟩ := C0
  obtain ⟨hx, hb, hml, hown, hg⟩ := id cx
  have hKI : va_K D vwCl (tI cI) s := hK.sub [0] rfl
  have hA : ∀ q : Nat, s.heap.size ≤ q → lwA s q := fun _ h => h
  have hbA : ¬ lwA s b := Nat.not_le.mpr hbl
  obtain ⟨⟨hn, en, hN2⟩, ⟨ht, et, hT2⟩, ⟨hg1, eg, hG2⟩, ⟨hp1, ep, hP2⟩, ⟨hq1, eq1, ec, hQ2⟩⟩ := id hR
  refine lv_aload_n hx hb dL_law_1173 rfl (lv_at hl 3 rfl) ?_
  refine lv_aload_n hx hb dL_law_1174 rfl (lv_at hl 4 rfl) ?_
  refine lv_iload hx hb dL_law_1175 (lv_at hl 0 rfl) ?_
  refine lv_iconst (v := nI 1) hx hb dL_law_1177 (by decide) ?_
  refine lv_iadd hx hb dL_law_1178 ?_
  refine lv_asi (nI_add _ _) ?_
  refine sld hx hb hXb hbl hbA hS (k := i + 1) (by omega) hL dL_law_1179 ?_
  refine lv_aload_n hx hb dL_law_1180 rfl (lv_at hl 4 rfl) ?_
  refine lv_iload hx hb dL_law_1181 (lv_at hl 0 rfl) ?_
  refine lv_iconst (v := nI 2) hx hb dL_law_1183 (by decide) ?_
  refine lv_iadd hx hb dL_law_1184 ?_
  refine lv_asi (nI_add _ _) ?_
  refine sld hx hb hXb hbl hbA hS (k := i + 2) (by omega) hL dL_law_1185 ?_
  refine lv_aload_n hx hb dL_law_1186 rfl (lv_at hl 1 rfl) ?_
  refine Cw.callS (As := [.ref (fa 0), .int (xs (i + 1)), .int (xs (i + 2)), .ref o0]) (rest := []) (wr := lwM cI ma v) (wn := fun uu => lwW cI cJ fa ma o0 uu.1 v uu.2) (cv_L_136 hg ⟨Nat.le_of_ble_eq_true rfl, Nat.le_of_ble_eq_true rfl⟩) (w_sections l hst D cI cJ (fa 0) (fa 1) (fa 2) (fa 3) (fa 4) (fa 5) (fa 6) (fa 7) (fa 8) (fa 9) (fa 10) (fa 11) (fa 12) (fa 13) (fa 14) (fa 15) (fa 16) (fa 17) (fa 18) (fa 19) (fa 20) (fa 21) o0 (u.1 0) (u.1 1) (u.1 2) (u.1 3) (u.1 4) (u.1 5) (u.2.1 0) (u.2.1 1) (u.2.2 0) (u.2.2 1) (u.2.2 2) (u.2.2 3) (u.2.2 4) (u.2.2 5) (u.2.2 6) (u.2.2 7) (u.2.2 8) (u.2.2 9) (u.2.2 10) (u.2.2 11) (u.2.2 12) (u.2.2 13) g hn ht (xs (i + 1)) (xs (i + 2))) cx hK hX hP hD hA [0, 1, 2, 3, 4, 5, 6, 7, 8, 9, 10, 11, 12, 13, 14, 15, 16, 17, 18, 19, 20, 21, 34] [22, 23, 24, 25, 26, 27, 28, 29, 30, 31, 32, 33] [12, 13, 14, 15, 16, 17, 18, 19, 20, 21, 22, 23, 24, 25, 26, 27, 28, 29, 30, 31, 32, 33, 0, 1, 2, 3, 4, 5, 6, 7, 8, 9, 10, 11, 34] rfl rfl (by decide) (fun _ => rfl) hS rfl hl.1 rfl (Nat.le_of_ble_eq_true rfl) dL_law_1187 hf (fun H locs k9 uu hw1 hP hD hS => ?_)
  refine lv_istore (lv' := [(5, .int k9), (4, .int (nI i)), (3, .ref o0), (2, .ref (ma 0)), (1, .ref (fa 0)), (0, .ref b)]) hx hb dL_law_1190 hl (by decide) rfl (fun ls hl => ?_)
  refine lv_aload_n hx hb dL_law_1192 rfl (lv_at hl 3 rfl) ?_
  refine lv_aload_n hx hb dL_law_1193 rfl (lv_at hl 5 rfl) ?_
  refine lv_iload hx hb dL_law_1194 (lv_at hl 1 rfl) ?_
  refine lv_iconst (v := nI 1) hx hb dL_law_1196 (by decide) ?_
  refine lv_iadd hx hb dL_law_1197 ?_
  refine lv_asi (nI_add _ _) ?_
  refine sld hx hb hXb hbl hbA hS (k := i + 1) (by omega) hL dL_law_1198 ?_
  refine lv_aload_n hx hb dL_law_1199 rfl (lv_at hl 5 rfl) ?_
  refine lv_iload hx hb dL_law_1200 (lv_at hl 1 rfl) ?_
  refine lv_iconst (v := nI 2) hx hb dL_law_1202 (by decide) ?_
  refine lv_iadd hx hb dL_law_1203 ?_
  refine lv_asi (nI_add _ _) ?_
  refine sld hx hb hXb hbl hbA hS (k := i + 2) (by omega) hL dL_law_1204 ?_
  refine Ci.callV (As := [.int (xs (i + 1)), .int (xs (i + 2))]) (rest := []) (wr := lwF cI fa uu.1 ++ [(o0, .inl (cJ, 1, .inr (.inl uu.2)))]) (wn := fun vv => lwW cI cJ fa ma o0 uu.1 vv uu.2) (cv_L_138 hg ⟨Nat.le_of_ble_eq_true rfl, Nat.le_of_ble_eq_true rfl⟩) (c_sections l D cI (ma 0) (ma 1) (ma 2) (ma 3) (ma 4) (ma 5) (ma 6) (ma 7) (ma 8) (ma 9) (ma 10) (ma 11) (v.2.1 0) (v.2.1 1) (v.1 0) (v.1 1) (v.1 2) (v.1 3) (v.1 4) (v.2.2 0) (v.2.2 1) (v.2.2 2) (v.2.2 3) (v.2.2 4) (v.2.2 5) (v.2.2 6) (v.2.2 7) (v.2.2 8) (v.2.2 9) (v.2.2 10) (by omega) (by omega) (xs (i + 1)) (xs (i + 2)) (fun t h => by rw [(hN2 t (by omega)).1]; exact (hN2 t (by omega)).2.2)) cx hKI hP hD hA [22, 23, 24, 25, 26, 27, 28, 29, 30, 31, 32, 33] [0, 1, 2, 3, 4, 5, 6, 7, 8, 9, 10, 11, 12, 13, 14, 15, 16, 17, 18, 19, 20, 21, 34] [0, 1, 2, 3, 4, 5, 6, 7, 8, 9, 10, 11, 12, 13, 14, 15, 16, 17, 18, 19, 20, 21, 23, 24, 25, 26, 27, 28, 29, 30, 31, 32, 33, 34, 22] rfl rfl (by decide) (fun _ => rfl) (rq := 0) rfl rfl rfl hS rfl hl.1 rfl (Nat.le_of_ble_eq_true rfl) dL_law_1205 ⟨hf.1, hf.2⟩ (fun H locs r9 vv hw2 hP hD hS => ?_)
  refine lv_istore (lv' := [(6, .int r9), (5, .int k9), (4, .int (nI i)), (3, .ref o0), (2, .ref (ma 0)), (1, .ref (fa 0)), (0, .ref b)]) hx hb dL_law_1208 hl (by decide) rfl (fun ls hl => ?_)
  refine lv_aload_n hx hb dL_law_1210 rfl (lv_at hl 4 rfl) ?_
  have hfin := rl_sections hR (xs (i + 1)) (xs (i + 2)) k9 uu r9 vv hw1 hw2
  obtain ⟨e1, e2, hR1⟩ := hfin
  refine Cp.callV (As := []) (rest := []) (cv_L_88 hg ⟨Nat.le_of_ble_eq_true rfl, Nat.le_of_ble_eq_true rfl⟩) (k_thrown l D cI (ma 0) (ma 1) (ma 2) (ma 3) (ma 4) (ma 5) (ma 6) (ma 7) (ma 8) (ma 9) (ma 10) (ma 11) (vv.2.1 0) (vv.2.1 1) (vv.1 0) (vv.1 1) (vv.1 2) (vv.1 3) (vv.1 4)) cx hKI hP [22] rfl (rq := 0) rfl rfl rfl hS rfl hl.1 rfl (Nat.le_of_ble_eq_true rfl) dL_law_1211 ⟨hf.1, hf.2⟩ (fun H locs hP hS => ?_)
  refine lv_iload hx hb dL_law_1214 (lv_at hl 1 rfl) ?_
  refine lv_icmp_eq (tgt := 1221) hx hb dL_law_1216 (by decide) (fun _ => ?_) (fun c9 => absurd e1 c9)
  have kend : W p l e room_1 s m #[Value.ref b] below meth c H locs (cells + 1) (slots + 6) Q (F0 m 1238 ls []) := lv_goto (tgt := 1353) hx hb dL_law_1238 (by decide) (kk H locs ls uu.1 vv uu.2 hR1 hP hD hS (lv_sub hl [2, 3, 4, 5, 6] rfl))
  refine lv_iload hx hb dL_law_1221 (lv_at hl 1 rfl) ?_
  refine lv_if_ne (tgt := 1238) hx hb dL_law_1223 (by decide) (fun _ => kend) (fun c9 => ?_)
  refine lv_aload_n hx hb dL_law_1226 rfl (lv_at hl 3 rfl) ?_
  refine lv_iconst (v := nI 0) hx hb dL_law_1227 (by decide) ?_
  refine va_lald hx hb hK hP 34 1 rfl rfl (vp_in_nI (by decide) (by decide)) dL_law_1228 ?_
  refine lv_iload hx hb dL_law_1229 (lv_at hl 0 rfl) ?_
  refine lv_i2l hx hb dL_law_1231 rfl ?_
  refine W.lcmp hx hb dL_law_1232 ?_
  refine lv_if_eq (tgt := 1238) hx hb dL_law_1233 (by decide) (fun _ => kend) (fun d9 => absurd (lc_eq.mpr (e2 (c9.trans nI_0.symm))) d9)

set_option maxHeartbeats 4000000 in
set_option maxRecDepth 100000 in
theorem lq_section (hst : l.stackTraces = false) {cI cJ : ClassId} (C0 : lwC p s m c D cI cJ b L xs) (hL : L ≤ 2560) {i : Nat} (hi : i + 5 ≤ L) (hf : cells + 1 ≤ 1082 ∧ slots + 6 ≤ 17720) {fa ma : Nat → Nat} {o0 : Nat} {u v : ff_S} {g : Nat → Int64} (hR : ff_Rel u v) (hP : va_P D vwCl (lwW cI cJ fa ma o0 u v g) H) (hD : va_D (lwA s) (lwW cI cJ fa ma o0 u v g)) (hS : va_S (lwA s) s.heap H locs) (hl : lv_has ls 7 [(4, .int (nI i)), (3, .ref o0), (2, .ref (ma 0)), (1, .ref (fa 0)), (0, .ref b)])
    (kk : ∀ (H1 : Heap) (locs1 : List Loc) (ls1 : Array Slot) (u1 v1 : ff_S) (g1 : Nat → Int64), ff_Rel u1 v1 → va_P D vwCl (lwW cI cJ fa ma o0 u1 v1 g1) H1 → va_D (lwA s) (lwW cI cJ fa ma o0 u1 v1 g1) → va_S (lwA s) s.heap H1 locs1 → lv_has ls1 7 [(4, .int (nI i)), (3, .ref o0), (2, .ref (ma 0)), (1, .ref (fa 0)), (0, .ref b)] → W p l e room_1 s m #[Value.ref b] below meth c H1 locs1 (cells + 1) (slots + 6) Q (F0 m 1353 ls1 [])) : W p l e room_1 s m #[Value.ref b] below meth c H locs cells slots Q (F0 m 1241 ls []) := by
  obtain ⟨cx, hK, hXb, hbl, hX⟩ := C0
  obtain ⟨hx, hb, hml, hown, hg⟩ := id cx
  have hKI : va_K D vwCl (tI cI) s := hK.sub [0] rfl
  have hA : ∀ q : Nat, s.heap.size ≤ q → lwA s q := fun _ h => h
  have hbA : ¬ lwA s b := Nat.not_le.mpr hbl
  obtain ⟨⟨hn, en, hN2⟩, ⟨ht, et, hT2⟩, ⟨hg1, eg, hG2⟩, ⟨hp1, ep, hP2⟩, ⟨hq1, eq1, ec, hQ2⟩⟩ := id hR
  refine lv_aload_n hx hb dL_law_1241 rfl (lv_at hl 3 rfl) ?_
  refine lv_aload_n hx hb dL_law_1242 rfl (lv_at hl 4 rfl) ?_
  refine lv_iload hx hb dL_law_1243 (lv_at hl 0 rfl) ?_
  refine lv_iconst (v := nI 1) hx hb dL_law_1245 (by decide) ?_
  refine lv_iadd hx hb dL_law_1246 ?_
  refine lv_asi (nI_add _ _) ?_
  refine sld hx hb hXb hbl hbA hS (k := i + 1) (by omega) hL dL_law_1247 ?_
  refine lv_aload_n hx hb dL_law_1248 rfl (lv_at hl 1 rfl) ?_
  refine Cw.callS (As := [.ref (fa 0), .int (xs (i + 1)), .ref o0]) (rest := []) (wr := lwM cI ma v) (wn := fun uu => lwW cI cJ fa ma o0 uu.1 v uu.2) (cv_L_139 hg ⟨Nat.le_of_ble_eq_true rfl, Nat.le_of_ble_eq_true rfl⟩) (w_section l hst D cI cJ (fa 0) (fa 1) (fa 2) (fa 3) (fa 4) (fa 5) (fa 6) (fa 7) (fa 8) (fa 9) (fa 10) (fa 11) (fa 12) (fa 13) (fa 14) (fa 15) (fa 16) (fa 17) (fa 18) (fa 19) (fa 20) (fa 21) o0 (u.1 0) (u.1 1) (u.1 2) (u.1 3) (u.1 4) (u.1 5) (u.2.1 0) (u.2.1 1) (u.2.2 0) (u.2.2 1) (u.2.2 2) (u.2.2 3) (u.2.2 4) (u.2.2 5) (u.2.2 6) (u.2.2 7) (u.2.2 8) (u.2.2 9) (u.2.2 10) (u.2.2 11) (u.2.2 12) (u.2.2 13) g hn ht (xs (i + 1)) hq1) cx hK hX hP hD hA [0, 1, 2, 3, 4, 5, 6, 7, 8, 9, 10, 11, 12, 13, 14, 15, 16, 17, 18, 19, 20, 21, 34] [22, 23, 24, 25, 26, 27, 28, 29, 30, 31, 32, 33] [12, 13, 14, 15, 16, 17, 18, 19, 20, 21, 22, 23, 24, 25, 26, 27, 28, 29, 30, 31, 32, 33, 0, 1, 2, 3, 4, 5, 6, 7, 8, 9, 10, 11, 34] rfl rfl (by decide) (fun _ => rfl) hS rfl hl.1 rfl (Nat.le_of_ble_eq_true rfl) dL_law_1249 hf (fun H locs k9 uu hw1 hP hD hS => ?_)
  refine lv_istore (lv' := [(5, .int k9), (4, .int (nI i)), (3, .ref o0), (2, .ref (ma 0)), (1, .ref (fa 0)), (0, .ref b)]) hx hb dL_law_1252 hl (by decide) rfl (fun ls hl => ?_)
  refine lv_aload_n hx hb dL_law_1254 rfl (lv_at hl 3 rfl) ?_
  refine lv_aload_n hx hb dL_law_1255 rfl (lv_at hl 5 rfl) ?_
  refine lv_iload hx hb dL_law_1256 (lv_at hl 1 rfl) ?_
  refine lv_iconst (v := nI 1) hx hb dL_law_1258 (by decide) ?_
  refine lv_iadd hx hb dL_law_1259 ?_
  refine lv_asi (nI_add _ _) ?_
  refine sld hx hb hXb hbl hbA hS (k := i + 1) (by omega) hL dL_law_1260 ?_
  refine Ci.callV (As := [.int (xs (i + 1))]) (rest := []) (wr := lwF cI fa uu.1 ++ [(o0, .inl (cJ, 1, .inr (.inl uu.2)))]) (wn := fun vv => lwW cI cJ fa ma o0 uu.1 vv uu.2) (cv_L_141 hg ⟨Nat.le_of_ble_eq_true rfl, Nat.le_of_ble_eq_true rfl⟩) (c_section l D cI (ma 0) (ma 1) (ma 2) (ma 3) (ma 4) (ma 5) (ma 6) (ma 7) (ma 8) (ma 9) (ma 10) (ma 11) (v.2.1 0) (v.2.1 1) (v.1 0) (v.1 1) (v.1 2) (v.1 3) (v.1 4) (v.2.2 0) (v.2.2 1) (v.2.2 2) (v.2.2 3) (v.2.2 4) (v.2.2 5) (v.2.2 6) (v.2.2 7) (v.2.2 8) (v.2.2 9) (v.2.2 10) (by omega) (by omega) (xs (i + 1)) (by omega)) cx hKI hP hD hA [22, 23, 24, 25, 26, 27, 28, 29, 30, 31, 32, 33] [0, 1, 2, 3, 4, 5, 6, 7, 8, 9, 10, 11, 12, 13, 14, 15, 16, 17, 18, 19, 20, 21, 34] [0, 1, 2, 3, 4, 5, 6, 7, 8, 9, 10, 11, 12, 13, 14, 15, 16, 17, 18, 19, 20, 21, 23, 24, 25, 26, 27, 28, 29, 30, 31, 32, 33, 34, 22] rfl rfl (by decide) (fun _ => rfl) (rq := 0) rfl rfl rfl hS rfl hl.1 rfl (Nat.le_of_ble_eq_true rfl) dL_law_1261 ⟨hf.1, hf.2⟩ (fun H locs r9 vv hw2 hP hD hS => ?_)
  refine lv_istore (lv' := [(6, .int r9), (5, .int k9), (4, .int (nI i)), (3, .ref o0), (2, .ref (ma 0)), (1, .ref (fa 0)), (0, .ref b)]) hx hb dL_law_1264 hl (by decide) rfl (fun ls hl => ?_)
  refine lv_aload_n hx hb dL_law_1266 rfl (lv_at hl 4 rfl) ?_
  have hfin := rl_section hR (xs (i + 1)) k9 uu r9 vv hw1 hw2
  obtain ⟨e1, e2, hR1⟩ := hfin
  refine Cp.callV (As := []) (rest := []) (cv_L_88 hg ⟨Nat.le_of_ble_eq_true rfl, Nat.le_of_ble_eq_true rfl⟩) (k_thrown l D cI (ma 0) (ma 1) (ma 2) (ma 3) (ma 4) (ma 5) (ma 6) (ma 7) (ma 8) (ma 9) (ma 10) (ma 11) (vv.2.1 0) (vv.2.1 1) (vv.1 0) (vv.1 1) (vv.1 2) (vv.1 3) (vv.1 4)) cx hKI hP [22] rfl (rq := 0) rfl rfl rfl hS rfl hl.1 rfl (Nat.le_of_ble_eq_true rfl) dL_law_1267 ⟨hf.1, hf.2⟩ (fun H locs hP hS => ?_)
  refine lv_iload hx hb dL_law_1270 (lv_at hl 1 rfl) ?_
  refine lv_icmp_eq (tgt := 1277) hx hb dL_law_1272 (by decide) (fun _ => ?_) (fun c9 => absurd e1 c9)
  have kend : W p l e room_1 s m #[Value.ref b] below meth c H locs (cells + 1) (slots + 6) Q (F0 m 1294 ls []) := lv_goto (tgt := 1353) hx hb dL_law_1294 (by decide) (kk H locs ls uu.1 vv uu.2 hR1 hP hD hS (lv_sub hl [2, 3, 4, 5, 6] rfl))
  refine lv_iload hx hb dL_law_1277 (lv_at hl 1 rfl) ?_
  refine lv_if_ne (tgt := 1294) hx hb dL_law_1279 (by decide) (fun _ => kend) (fun c9 => ?_)
  refine lv_aload_n hx hb dL_law_1282 rfl (lv_at hl 3 rfl) ?_
  refine lv_iconst (v := nI 0) hx hb dL_law_1283 (by decide) ?_
  refine va_lald hx hb hK hP 34 1 rfl rfl (vp_in_nI (by decide) (by decide)) dL_law_1284 ?_
  refine lv_iload hx hb dL_law_1285 (lv_at hl 0 rfl) ?_
  refine lv_i2l hx hb dL_law_1287 rfl ?_
  refine W.lcmp hx hb dL_law_1288 ?_
  refine lv_if_eq (tgt := 1294) hx hb dL_law_1289 (by decide) (fun _ => kend) (fun d9 => absurd (lc_eq.mpr (e2 (c9.trans nI_0.symm))) d9)

set_option maxHeartbeats 4000000 in
set_option maxRecDepth 100000 in
theorem lq_of (hst : l.stackTraces = false) {cI cJ : ClassId} (C0 : lwC p s m c D cI cJ b L xs) (hL : L ≤ 2560) {i : Nat} (hi : i + 5 ≤ L) (hf : cells + 1 ≤ 1082 ∧ slots + 6 ≤ 17720) {fa ma : Nat → Nat} {o0 : Nat} {u v : ff_S} {g : Nat → Int64} (hR : ff_Rel u v) (hP : va_P D vwCl (lwW cI cJ fa ma o0 u v g) H) (hD : va_D (lwA s) (lwW cI cJ fa ma o0 u v g)) (hS : va_S (lwA s) s.heap H locs) (hl : lv_has ls 7 [(4, .int (nI i)), (3, .ref o0), (2, .ref (ma 0)), (1, .ref (fa 0)), (0, .ref b)])
    (kk : ∀ (H1 : Heap) (locs1 : List Loc) (ls1 : Array Slot) (u1 v1 : ff_S) (g1 : Nat → Int64), ff_Rel u1 v1 → va_P D vwCl (lwW cI cJ fa ma o0 u1 v1 g1) H1 → va_D (lwA s) (lwW cI cJ fa ma o0 u1 v1 g1) → va_S (lwA s) s.heap H1 locs1 → lv_has ls1 7 [(4, .int (nI i)), (3, .ref o0), (2, .ref (ma 0)), (1, .ref (fa 0)), (0, .ref b)] → W p l e room_1 s m #[Value.ref b] below meth c H1 locs1 (cells + 1) (slots + 6) Q (F0 m 1353 ls1 [])) : W p l e room_1 s m #[Value.ref b] below meth c H locs cells slots Q (F0 m 1297 ls []) := by
  obtain ⟨cx, hK, hXb, hbl, hX⟩ := C0
  obtain ⟨hx, hb, hml, hown, hg⟩ := id cx
  have hKI : va_K D vwCl (tI cI) s := hK.sub [0] rfl
  have hA : ∀ q : Nat, s.heap.size ≤ q → lwA s q := fun _ h => h
  have hbA : ¬ lwA s b := Nat.not_le.mpr hbl
  obtain ⟨⟨hn, en, hN2⟩, ⟨ht, et, hT2⟩, ⟨hg1, eg, hG2⟩, ⟨hp1, ep, hP2⟩, ⟨hq1, eq1, ec, hQ2⟩⟩ := id hR
  refine lv_aload_n hx hb dL_law_1297 rfl (lv_at hl 3 rfl) ?_
  refine lv_aload_n hx hb dL_law_1298 rfl (lv_at hl 4 rfl) ?_
  refine lv_iload hx hb dL_law_1299 (lv_at hl 0 rfl) ?_
  refine lv_iconst (v := nI 1) hx hb dL_law_1301 (by decide) ?_
  refine lv_iadd hx hb dL_law_1302 ?_
  refine lv_asi (nI_add _ _) ?_
  refine sld hx hb hXb hbl hbA hS (k := i + 1) (by omega) hL dL_law_1303 ?_
  refine lv_aload_n hx hb dL_law_1304 rfl (lv_at hl 1 rfl) ?_
  refine Cw.callS (As := [.ref (fa 0), .int (xs (i + 1)), .ref o0]) (rest := []) (wr := lwM cI ma v) (wn := fun uu => lwW cI cJ fa ma o0 uu.1 v uu.2) (cv_L_142 hg ⟨Nat.le_of_ble_eq_true rfl, Nat.le_of_ble_eq_true rfl⟩) (w_of l hst D cI cJ (fa 0) (fa 1) (fa 2) (fa 3) (fa 4) (fa 5) (fa 6) (fa 7) (fa 8) (fa 9) (fa 10) (fa 11) (fa 12) (fa 13) (fa 14) (fa 15) (fa 16) (fa 17) (fa 18) (fa 19) (fa 20) (fa 21) o0 (u.1 0) (u.1 1) (u.1 2) (u.1 3) (u.1 4) (u.1 5) (u.2.1 0) (u.2.1 1) (u.2.2 0) (u.2.2 1) (u.2.2 2) (u.2.2 3) (u.2.2 4) (u.2.2 5) (u.2.2 6) (u.2.2 7) (u.2.2 8) (u.2.2 9) (u.2.2 10) (u.2.2 11) (u.2.2 12) (u.2.2 13) g hn ht (xs (i + 1))) cx hK hX hP hD hA [0, 1, 2, 3, 4, 5, 6, 7, 8, 9, 10, 11, 12, 13, 14, 15, 16, 17, 18, 19, 20, 21, 34] [22, 23, 24, 25, 26, 27, 28, 29, 30, 31, 32, 33] [12, 13, 14, 15, 16, 17, 18, 19, 20, 21, 22, 23, 24, 25, 26, 27, 28, 29, 30, 31, 32, 33, 0, 1, 2, 3, 4, 5, 6, 7, 8, 9, 10, 11, 34] rfl rfl (by decide) (fun _ => rfl) hS rfl hl.1 rfl (Nat.le_of_ble_eq_true rfl) dL_law_1305 hf (fun H locs k9 uu hw1 hP hD hS => ?_)
  refine lv_istore (lv' := [(5, .int k9), (4, .int (nI i)), (3, .ref o0), (2, .ref (ma 0)), (1, .ref (fa 0)), (0, .ref b)]) hx hb dL_law_1308 hl (by decide) rfl (fun ls hl => ?_)
  refine lv_aload_n hx hb dL_law_1310 rfl (lv_at hl 3 rfl) ?_
  refine lv_aload_n hx hb dL_law_1311 rfl (lv_at hl 5 rfl) ?_
  refine lv_iload hx hb dL_law_1312 (lv_at hl 1 rfl) ?_
  refine lv_iconst (v := nI 1) hx hb dL_law_1314 (by decide) ?_
  refine lv_iadd hx hb dL_law_1315 ?_
  refine lv_asi (nI_add _ _) ?_
  refine sld hx hb hXb hbl hbA hS (k := i + 1) (by omega) hL dL_law_1316 ?_
  refine Ci.callV (As := [.int (xs (i + 1))]) (rest := []) (wr := lwF cI fa uu.1 ++ [(o0, .inl (cJ, 1, .inr (.inl uu.2)))]) (wn := fun vv => lwW cI cJ fa ma o0 uu.1 vv uu.2) (cv_L_144 hg ⟨Nat.le_of_ble_eq_true rfl, Nat.le_of_ble_eq_true rfl⟩) (c_of l D cI (ma 0) (ma 1) (ma 2) (ma 3) (ma 4) (ma 5) (ma 6) (ma 7) (ma 8) (ma 9) (ma 10) (ma 11) (v.2.1 0) (v.2.1 1) (v.1 0) (v.1 1) (v.1 2) (v.1 3) (v.1 4) (v.2.2 0) (v.2.2 1) (v.2.2 2) (v.2.2 3) (v.2.2 4) (v.2.2 5) (v.2.2 6) (v.2.2 7) (v.2.2 8) (v.2.2 9) (v.2.2 10) (by omega) (by omega) (xs (i + 1))) cx hKI hP hD hA [22, 23, 24, 25, 26, 27, 28, 29, 30, 31, 32, 33] [0, 1, 2, 3, 4, 5, 6, 7, 8, 9, 10, 11, 12, 13, 14, 15, 16, 17, 18, 19, 20, 21, 34] [0, 1, 2, 3, 4, 5, 6, 7, 8, 9, 10, 11, 12, 13, 14, 15, 16, 17, 18, 19, 20, 21, 23, 24, 25, 26, 27, 28, 29, 30, 31, 32, 33, 34, 22] rfl rfl (by decide) (fun _ => rfl) (rq := 0) rfl rfl rfl hS rfl hl.1 rfl (Nat.le_of_ble_eq_true rfl) dL_law_1317 ⟨hf.1, hf.2⟩ (fun H locs r9 vv hw2 hP hD hS => ?_)
  refine lv_istore (lv' := [(6, .int r9), (5, .int k9), (4, .int (nI i)), (3, .ref o0), (2, .ref (ma 0)), (1, .ref (fa 0)), (0, .ref b)]) hx hb dL_law_1320 hl (by decide) rfl (fun ls hl => ?_)
  refine lv_aload_n hx hb dL_law_1322 rfl (lv_at hl 4 rfl) ?_
  have hfin := rl_of hR (xs (i + 1)) k9 uu r9 vv hw1 hw2
  obtain ⟨e1, e2, hR1⟩ := hfin
  refine Cp.callV (As := []) (rest := []) (cv_L_88 hg ⟨Nat.le_of_ble_eq_true rfl, Nat.le_of_ble_eq_true rfl⟩) (k_thrown l D cI (ma 0) (ma 1) (ma 2) (ma 3) (ma 4) (ma 5) (ma 6) (ma 7) (ma 8) (ma 9) (ma 10) (ma 11) (vv.2.1 0) (vv.2.1 1) (vv.1 0) (vv.1 1) (vv.1 2) (vv.1 3) (vv.1 4)) cx hKI hP [22] rfl (rq := 0) rfl rfl rfl hS rfl hl.1 rfl (Nat.le_of_ble_eq_true rfl) dL_law_1323 ⟨hf.1, hf.2⟩ (fun H locs hP hS => ?_)
  refine lv_iload hx hb dL_law_1326 (lv_at hl 1 rfl) ?_
  refine lv_icmp_eq (tgt := 1333) hx hb dL_law_1328 (by decide) (fun _ => ?_) (fun c9 => absurd e1 c9)
  have kend : W p l e room_1 s m #[Value.ref b] below meth c H locs (cells + 1) (slots + 6) Q (F0 m 1350 ls []) := lv_goto (tgt := 1353) hx hb dL_law_1350 (by decide) (kk H locs ls uu.1 vv uu.2 hR1 hP hD hS (lv_sub hl [2, 3, 4, 5, 6] rfl))
  refine lv_iload hx hb dL_law_1333 (lv_at hl 1 rfl) ?_
  refine lv_if_ne (tgt := 1350) hx hb dL_law_1335 (by decide) (fun _ => kend) (fun c9 => ?_)
  refine lv_aload_n hx hb dL_law_1338 rfl (lv_at hl 3 rfl) ?_
  refine lv_iconst (v := nI 0) hx hb dL_law_1339 (by decide) ?_
  refine va_lald hx hb hK hP 34 1 rfl rfl (vp_in_nI (by decide) (by decide)) dL_law_1340 ?_
  refine lv_iload hx hb dL_law_1341 (lv_at hl 0 rfl) ?_
  refine lv_i2l hx hb dL_law_1343 rfl ?_
  refine W.lcmp hx hb dL_law_1344 ?_
  refine lv_if_eq (tgt := 1350) hx hb dL_law_1345 (by decide) (fun _ => kend) (fun d9 => absurd (lc_eq.mpr (e2 (c9.trans nI_0.symm))) d9)

end LQ
