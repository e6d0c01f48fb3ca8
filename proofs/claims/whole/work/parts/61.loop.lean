/-! THE CLAIM OUT OF ONE WALK OF THE LAW'S BODY. Your part is whole_start (and what it stands on); all else here is the same for every law, but numbers. -/
def R_law : String := "FormFindsLaw"
def lw_P (b : Addr) (xs : List Int32) (args : Array Value) (s : State) : Prop := args = #[.ref b] ∧ s.IntsAt b xs ∧ xs.length ≤ 2560 ∧ (Jvm.Cond.and given_1 narrow_1).before args s = true
def lw_Q (_ : Array Value) (s : State) (o : Outcome) (t : State) : Prop := o = .returned (some (.int 1)) ∧ Framed s o t [] 1082 17720
def lw_Z (below : List Frame) (a : Array Value) (s : State) : State → Prop := fun t => ∃ o, t.status = .running ∧ Ended t below o ∧ lw_Q a s o t
/-- the law's own end, with 1 on the stack, nothing written that was there before, its room as the claim has it -/
theorem lw_ret {p : Program} {l : Launch} {e : Env} {s : State} {m : MethodId} {below : List Frame} {meth : Method} {c : Code} {b : Nat} (hx : p.tables.exec = Jvm.exec) (hb : c.code = code) (hr : meth.sig.returnType = ret) (hlocks : meth.locks = false) {pc : Nat} {H : Heap} {ls : Array Slot} (hdg : decode code pc = .ok (.ireturn, 1)) : W p l e room_1 s m #[Value.ref b] below meth c H [] 1082 17720 (lw_Z below #[Value.ref b] s) (F0 m pc ls [.int 1]) := by
  intro T hT X
  obtain ⟨fs, hret, hrun, hended, hW, hframe⟩ := X.leave (v := some (.int 1)) (hlocks := hlocks) (fun h => by rw [hr] at h; cases h)
  have hmeth' : T.vm.method? m = some meth := X.method'
  refine ⟨T.setFrames fs, ?_, .returned (some (.int 1)), hrun, hended, rfl, ⟨_, rfl⟩, hW, hframe⟩
  jvm_step X.here [X.here.top, hx, hb, hdg, hmeth', hr, ret, narrow_b1]
  (try refine ⟨rfl, ?_⟩); (try refine ⟨rfl, ?_⟩)
  first | (intro acts; rw [hret _ acts rfl rfl rfl]) | rw [hret _ _ rfl rfl rfl]
  exact Steps.refl _
/-- what holds at the law's entry: the machine, the code, the tables' words (any of lw_tbl by 'hts w (by decide +kernel)'), the script of L ints xs at the cell b, what the Statement gives of the start (any of its parts by flat_of_before) -/
def lw_At (p : Program) (s : State) (m : MethodId) (meth : Method) (c : Code) (b L : Nat) (xs : Nat → Int32) : Prop :=
  p.tables.exec = Jvm.exec ∧ c.code = code ∧ meth.sig.returnType = ret ∧ c.maxLocals = 7 ∧ s.vm.findClass R_law = some m.cls ∧ (∀ w ∈ lw_tbl, w.before #[Value.ref b] s = true) ∧ va_X b L xs s s.heap ∧ b < s.heap.size ∧ meth.locks = false ∧ (Jvm.Cond.and given_1 narrow_1).before #[Value.ref b] s = true
set_option maxHeartbeats 4000000 in
set_option maxRecDepth 100000 in
/-- the law's loop: with 5 * j ints read both sides agree -/
theorem law_loop {p : Program} {l : Launch} {e : Env} {s : State} {m : MethodId} {below : List Frame} {meth : Method} {c : Code} {D : va_G} {b L : Nat} {xs : Nat → Int32} (hst : l.stackTraces = false) (hL : L ≤ 2560) {cI cJ : ClassId} (C0 : lwC p s m c D cI cJ b L xs) (hr : meth.sig.returnType = ret) (hlocks : meth.locks = false) {fa ma : Nat → Nat} {o0 : Nat} :
    ∀ (n j : Nat), 5 * j ≤ L → L < 5 * j + 5 * n → ∀ (u v : ff_S) (g : Nat → Int64) (H : Heap) (locs : List Loc) (ls : Array Slot), ff_Rel u v → va_P D vwCl (lwW cI cJ fa ma o0 u v g) H → va_D (lwA s) (lwW cI cJ fa ma o0 u v g) → va_S (lwA s) s.heap H locs → lv_has ls 7 [(4, .int (nI (5 * j))), (3, .ref o0), (2, .ref (ma 0)), (1, .ref (fa 0)), (0, .ref b)] → W p l e room_1 s m #[Value.ref b] below meth c H locs (35 + j) (9390 + 6 * j) (lw_Z below #[Value.ref b] s) (F0 m 23 ls []) := by
  obtain ⟨cx, hK, hXb, hbl, hX⟩ := id C0
  obtain ⟨hx, hb, hml, hown, hg⟩ := id cx
  have hbA : ¬ lwA s b := Nat.not_le.mpr hbl
  intro n
  induction n with
  | zero =>
    intro j h1 h2
    exact absurd h2 (by omega)
  | succ n ih =>
    intro j hj hjn u v g H locs ls hR hP hD hS hl
    refine lv_iload hx hb dL_law_23 (lv_at hl 0 rfl) ?_
    refine lv_aload_n hx hb dL_law_25 rfl (lv_at hl 4 rfl) ?_
    refine va_slen hx hb hXb hbl hbA hS dL_law_26 ?_
    refine lv_iconst (v := nI 5) hx hb dL_law_27 (by decide) ?_
    refine lv_isub hx hb dL_law_28 ?_
    refine lv_icmp_gt (tgt := 1359) hx hb dL_law_29 (by decide) (fun c9 => ?_) (fun c9 => ?_)
    · refine lv_iconst (v := 1) hx hb dL_law_1359 (by decide) ?_
      refine va_forget (fun q hq => hS.2.2 q hq) ?_
      refine W.widen (k := 1082) (n := 17720) (by omega) (by omega) ?_
      exact lw_ret hx hb hr hlocks dL_law_1360
    · have e9 : (nI L - nI 5).toInt = (L : Int) - (5 : Nat) := pk_sub_toInt (by omega) (by decide)
      have hi : 5 * j + 5 ≤ L := by
        rw [Int32.lt_iff_toInt_lt, show Int32.ofNat L - nI 5 = nI L - nI 5 from rfl, e9, nI_toInt (by omega)] at c9
        omega
      have hf : 35 + j + 1 ≤ 1082 ∧ 9390 + 6 * j + 6 ≤ 17720 := ⟨by omega, by omega⟩
      have kend : ∀ (H1 : Heap) (locs1 : List Loc) (ls1 : Array Slot) (u1 v1 : ff_S) (g1 : Nat → Int64), ff_Rel u1 v1 → va_P D vwCl (lwW cI cJ fa ma o0 u1 v1 g1) H1 → va_D (lwA s) (lwW cI cJ fa ma o0 u1 v1 g1) → va_S (lwA s) s.heap H1 locs1 → lv_has ls1 7 [(4, .int (nI (5 * j))), (3, .ref o0), (2, .ref (ma 0)), (1, .ref (fa 0)), (0, .ref b)] → W p l e room_1 s m #[Value.ref b] below meth c H1 locs1 (35 + j + 1) (9390 + 6 * j + 6) (lw_Z below #[Value.ref b] s) (F0 m 1353 ls1 []) := by
        intro H locs ls u v g hR hP hD hS hl
        refine lv_iinc (v := nI (5 * (j + 1))) (lv' := [(4, .int (nI (5 * (j + 1)))), (3, .ref o0), (2, .ref (ma 0)), (1, .ref (fa 0)), (0, .ref b)]) hx hb dL_law_1353 hl (k := 0) rfl (nI_add _ _) (by decide) rfl (fun ls hl => ?_)
        refine lv_goto (tgt := 23) hx hb dL_law_1356 (by decide) ?_
        exact ih (j + 1) (by omega) (by omega) u v g H locs ls hR hP hD hS hl
      refine lv_aload_n hx hb dL_law_32 rfl (lv_at hl 4 rfl) ?_
      refine lv_iload hx hb dL_law_33 (lv_at hl 0 rfl) ?_
      refine sld hx hb hXb hbl hbA hS (k := 5 * j) (by omega) hL dL_law_35 ?_
      refine lv_bipush (v := nI 31) hx hb dL_law_36 (by decide) ?_
      refine lv_iand hx hb dL_law_38 ?_
      refine lv_topi (fun x9 ex9 => ?_)
      by_cases hq : x9.toInt < 0 ∨ 18 < x9.toInt
      · refine lv_tableOut (tgt := 1353) hx hb dL_law_39 hq (by decide) ?_
        refine W.widen (k := 35 + j + 1) (n := 9390 + 6 * j + 6) (by omega) (by omega) ?_
        exact kend H locs ls u v g hR hP hD hS hl
      · obtain ⟨z, hz, hz2⟩ : ∃ z : Nat, z ≤ 18 ∧ x9 = nI z := ⟨x9.toInt.toNat, by omega, Int32.toInt_inj.mp (by rw [nI_toInt (by omega)]; omega)⟩
        clear hq ex9
        subst hz2
        rcases (show z = 0 ∨ z = 1 ∨ z = 2 ∨ z = 3 ∨ z = 4 ∨ z = 5 ∨ z = 6 ∨ z = 7 ∨ z = 8 ∨ z = 9 ∨ z = 10 ∨ z = 11 ∨ z = 12 ∨ z = 13 ∨ z = 14 ∨ z = 15 ∨ z = 16 ∨ z = 17 ∨ z = 18 by omega) with rfl | rfl | rfl | rfl | rfl | rfl | rfl | rfl | rfl | rfl | rfl | rfl | rfl | rfl | rfl | rfl | rfl | rfl | rfl
        · refine lv_tableIn (off := 89) (tgt := 128) hx hb dL_law_39 (by decide) (by decide) (by decide) (by decide) ?_
          exact lq_clear hst C0 hL hi hf hR hP hD hS hl kend
        · refine lv_tableIn (off := 102) (tgt := 141) hx hb dL_law_39 (by decide) (by decide) (by decide) (by decide) ?_
          exact lq_note hst C0 hL hi hf hR hP hD hS hl kend
        · refine lv_tableIn (off := 170) (tgt := 209) hx hb dL_law_39 (by decide) (by decide) (by decide) (by decide) ?_
          exact lq_drop hst C0 hL hi hf hR hP hD hS hl kend
        · refine lv_tableIn (off := 226) (tgt := 265) hx hb dL_law_39 (by decide) (by decide) (by decide) (by decide) ?_
          exact lq_items hst C0 hL hi hf hR hP hD hS hl kend
        · refine lv_tableIn (off := 282) (tgt := 321) hx hb dL_law_39 (by decide) (by decide) (by decide) (by decide) ?_
          exact lq_item hst C0 hL hi hf hR hP hD hS hl kend
        · refine lv_tableIn (off := 350) (tgt := 389) hx hb dL_law_39 (by decide) (by decide) (by decide) (by decide) ?_
          exact lq_repeats hst C0 hL hi hf hR hP hD hS hl kend
        · refine lv_tableIn (off := 418) (tgt := 457) hx hb dL_law_39 (by decide) (by decide) (by decide) (by decide) ?_
          exact lq_repeat hst C0 hL hi hf hR hP hD hS hl kend
        · refine lv_tableIn (off := 486) (tgt := 525) hx hb dL_law_39 (by decide) (by decide) (by decide) (by decide) ?_
          exact lq_passages hst C0 hL hi hf hR hP hD hS hl kend
        · refine lv_tableIn (off := 554) (tgt := 593) hx hb dL_law_39 (by decide) (by decide) (by decide) (by decide) ?_
          exact lq_period hst C0 hL hi hf hR hP hD hS hl kend
        · refine lv_tableIn (off := 610) (tgt := 649) hx hb dL_law_39 (by decide) (by decide) (by decide) (by decide) ?_
          exact lq_alike hst C0 hL hi hf hR hP hD hS hl kend
        · refine lv_tableIn (off := 702) (tgt := 741) hx hb dL_law_39 (by decide) (by decide) (by decide) (by decide) ?_
          exact lq_motive hst C0 hL hi hf hR hP hD hS hl kend
        · refine lv_tableIn (off := 770) (tgt := 809) hx hb dL_law_39 (by decide) (by decide) (by decide) (by decide) ?_
          exact lq_form hst C0 hL hi hf hR hP hD hS hl kend
        · refine lv_tableIn (off := 850) (tgt := 889) hx hb dL_law_39 (by decide) (by decide) (by decide) (by decide) ?_
          exact lq_find hst C0 hL hi hf hR hP hD hS hl kend
        · refine lv_tableIn (off := 930) (tgt := 969) hx hb dL_law_39 (by decide) (by decide) (by decide) (by decide) ?_
          exact lq_answer hst C0 hL hi hf hR hP hD hS hl kend
        · refine lv_tableIn (off := 1010) (tgt := 1049) hx hb dL_law_39 (by decide) (by decide) (by decide) (by decide) ?_
          exact lq_entries hst C0 hL hi hf hR hP hD hS hl kend
        · refine lv_tableIn (off := 1078) (tgt := 1117) hx hb dL_law_39 (by decide) (by decide) (by decide) (by decide) ?_
          exact lq_found hst C0 hL hi hf hR hP hD hS hl kend
        · refine lv_tableIn (off := 1134) (tgt := 1173) hx hb dL_law_39 (by decide) (by decide) (by decide) (by decide) ?_
          exact lq_sections hst C0 hL hi hf hR hP hD hS hl kend
        · refine lv_tableIn (off := 1202) (tgt := 1241) hx hb dL_law_39 (by decide) (by decide) (by decide) (by decide) ?_
          exact lq_section hst C0 hL hi hf hR hP hD hS hl kend
        · refine lv_tableIn (off := 1258) (tgt := 1297) hx hb dL_law_39 (by decide) (by decide) (by decide) (by decide) ?_
          exact lq_of hst C0 hL hi hf hR hP hD hS hl kend
