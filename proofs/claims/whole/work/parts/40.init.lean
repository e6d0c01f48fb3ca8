theorem wd_oi : Cond.instanceMethod Lib.objectInit ∈ GW := gw_at 47 (by decide +kernel) (by decide +kernel)
theorem wd_oc : Cond.code Lib.objectInit ⟨#[0xb1]⟩ 1 none ∈ GW := gw_at 48 (by decide +kernel) (by decide +kernel)
theorem wd_ai : Cond.arrayClass .int ∈ GW := gw_at 73 (by decide +kernel) (by decide +kernel)
theorem wd_al : Cond.arrayClass .long ∈ GW := gw_at 753 (by decide +kernel) (by decide +kernel)
theorem wd_om_X5 : Cond.methodLink RX5 1 Lib.objectInit ∈ GW := gw_at 46 (by decide +kernel) (by decide +kernel)
theorem wd_om_X1 : Cond.methodLink RX1 3 Lib.objectInit ∈ GW := gw_at 54 (by decide +kernel) (by decide +kernel)
theorem wd_om_X0 : Cond.methodLink RX0 3 Lib.objectInit ∈ GW := gw_at 79 (by decide +kernel) (by decide +kernel)
theorem wd_om_X4 : Cond.methodLink RX4 3 Lib.objectInit ∈ GW := gw_at 93 (by decide +kernel) (by decide +kernel)
theorem wd_om_X3 : Cond.methodLink RX3 3 Lib.objectInit ∈ GW := gw_at 110 (by decide +kernel) (by decide +kernel)
theorem wd_om_X2 : Cond.methodLink RX2 3 Lib.objectInit ∈ GW := gw_at 125 (by decide +kernel) (by decide +kernel)
theorem wd_om_X6 : Cond.methodLink RX6 1 Lib.objectInit ∈ GW := gw_at 560 (by decide +kernel) (by decide +kernel)
section INI
variable {p : Program} {l : Launch} {e : Env} {R : Room} {s : State} {m : MethodId} {args : Array Value} {below : List Frame} {meth : Method} {c : Code} {H : Heap} {locs : List Loc} {cells slots : Nat} {Q : State → Prop}
variable {cc bytes : ByteArray} {pc nL maxL ix nn k mc ms : Nat} {ls : Array Slot} {rest st As : List Value} {D : va_G} {A : Nat → Prop} {b : Nat} {tys : List (ClassId × FieldType)} {ws wc wr : va_W} {H0 : Heap} {own host : String} {y : MethodName} {cI : ClassId}
/-- a new array of ints -/
theorem newI (hx : p.tables.exec = Jvm.exec) (hb : c.code = cc) (hg : ∀ w ∈ GW, w.before args s = true) (hK : va_K D vwCl (tI cI) s) (hP : va_P D vwCl ws H) (hD : va_D A ws) (hS : va_S A H0 H locs) (hA : ∀ q, H0.size ≤ q → A q) {n : Nat} (hn : n < 2 ^ 20) (hcells : cells + 1 ≤ R.cells) (hslots : slots + n ≤ R.slots) (hdg : decode cc pc = .ok (.newarray .int, 2))
    (kk : ∀ (q : Nat) (H1 : Heap), va_P D vwCl (ws ++ [(q, oI cI n (fun _ => 0))]) H1 → va_D A (ws ++ [(q, oI cI n (fun _ => 0))]) → va_S A H0 H1 locs → W p l e R s m args below meth c H1 locs (cells + 1) (slots + n) Q (F0 m (pc + 2) ls (.ref q :: rest))) : W p l e R s m args below meth c H locs cells slots Q (F0 m pc ls (.int (nI n) :: rest)) := by
  refine va_newa (atype := .int) (ty := .int) (a0 := (n, .inl (fun _ => 0))) hx hb (hg _ wd_ai) rfl hK hP hD hS hA (fun cA => rfl) (nI_pos (by omega)) (nI_clamp (by omega)) ?_ hcells hslots hdg (fun q cA H1 hK1 hP1 hD1 hS1 => ?_)
  · show n * 4 ≤ 536870912
    omega
  · have h1 := (hK.2 0 _ rfl).2
    have h2 := (hK1.2 1 _ rfl).2
    have e : cA = cI := Option.some.inj (h2.symm.trans h1)
    subst e
    exact kk q H1 hP1 hD1 hS1
theorem Cv.callIN {S : Type} {post : S → Prop} {W1 : S → va_W} (hcw : va_CN R s args own ix y host bytes maxL none (ww y bytes maxL none) (rr k mc ms) mc ms nn ∧ y.name = "<init>" ∧ (Cond.instanceMethod y).before args s = true) (hM : Cv l y bytes maxL k mc ms D tys (.ref b :: As) wc post W1) (cx : CallFix p m c cc nL s args GW own) (hK : va_K D vwCl tys s) (hP : va_P D vwCl ws H) (hD : va_D A ws) (hA : ∀ q, H0.size ≤ q → A q) (isC isR : List Nat) (hC : isC.map (fun i => ws[i]?) = wc.map some) (hRr : isR.map (fun i => ws[i]?) = wr.map some) (hnd : va_nd isC = true ∧ va_nd isR = true ∧ ∀ i ∈ isR, i ∉ isC) (hS : va_S A H0 H locs) (hn : As.length = nn) (hls : ls.size = nL) (hst : st = As.reverse ++ .ref b :: rest) (hW : (rest.map fun v => v.category).sum ≤ 8) (hdg : decode cc pc = .ok (.invokespecial ix, 3)) (hf : cells + mc ≤ R.cells ∧ slots + ms ≤ R.slots)
    (kk : ∀ (H1 : Heap) (locs1 : List Loc) (u : S), post u → va_P D vwCl (wr ++ W1 u) H1 → va_D A (wr ++ W1 u) → va_S A H0 H1 locs1 → W p l e R s m args below meth c H1 locs1 (cells + mc) (slots + ms) Q (F0 m (pc + 3) ls rest)) : W p l e R s m args below meth c H locs cells slots Q (F0 m pc ls st) := by
  have hPc := hP.sub isC (sub_of_map hC)
  have hDc := hD.sub isC hnd.1 hC
  have hFc := va_free (wc := wc) hD hS hA isC hC
  refine va_callv (va_runIN (As := As) (rest := rest) cx (hM H.size) hcw ⟨fun a U g mk q => ⟨q.1, q.2.1, q.2.2.1, va_K.moved (u := U) (U := U.calling g mk a) (Vm.Alike.refl U.vm) q.2.2.2.1, q.2.2.2.2⟩, fun U hU hW => ⟨rfl, by rw [hU], by rw [hU]; exact hPc, va_K.moved hW.alike hK, hDc.weaken (fun _ _ _ _ => trivial)⟩⟩ rfl hn hls hst (lv_room hW) hdg hf) hS (fun q _ h => hFc q h) hFc (fun u t H1 locs1 ht hvm hw hB hz1 hk1 hS1 => ?_)
  obtain ⟨hP1, -, hD1⟩ := hB
  rw [ht] at hP1
  obtain ⟨h1, h2⟩ := va_join hP hD isC isR hC hRr hnd.2.1 hnd.2.2 hk1 hFc hP1 hD1
  exact kk H1 locs1 u hw h1 h2 hS1
theorem Cv.callI {S : Type} {post : S → Prop} {W1 : S → va_W} (hcw : CallB R s args own ix y bytes maxL none (ww y bytes maxL none) (rr k mc ms) mc ms nn ∧ y.name = "<init>" ∧ (Cond.instanceMethod y).before args s = true) (hM : Cv l y bytes maxL k mc ms D tys (.ref b :: As) wc post W1) (cx : CallFix p m c cc nL s args GW own) (hK : va_K D vwCl tys s) (hP : va_P D vwCl ws H) (hD : va_D A ws) (hA : ∀ q, H0.size ≤ q → A q) (isC isR : List Nat) (hC : isC.map (fun i => ws[i]?) = wc.map some) (hRr : isR.map (fun i => ws[i]?) = wr.map some) (hnd : va_nd isC = true ∧ va_nd isR = true ∧ ∀ i ∈ isR, i ∉ isC) (hS : va_S A H0 H locs) (hn : As.length = nn) (hls : ls.size = nL) (hst : st = As.reverse ++ .ref b :: rest) (hW : (rest.map fun v => v.category).sum ≤ 8) (hdg : decode cc pc = .ok (.invokespecial ix, 3)) (hf : cells + mc ≤ R.cells ∧ slots + ms ≤ R.slots)
    (kk : ∀ (H1 : Heap) (locs1 : List Loc) (u : S), post u → va_P D vwCl (wr ++ W1 u) H1 → va_D A (wr ++ W1 u) → va_S A H0 H1 locs1 → W p l e R s m args below meth c H1 locs1 (cells + mc) (slots + ms) Q (F0 m (pc + 3) ls rest)) : W p l e R s m args below meth c H locs cells slots Q (F0 m pc ls st) := by
  have hPc := hP.sub isC (sub_of_map hC)
  have hDc := hD.sub isC hnd.1 hC
  have hFc := va_free (wc := wc) hD hS hA isC hC
  refine va_callv (va_runI (As := As) (rest := rest) cx (hM H.size) hcw ⟨fun a U g mk q => ⟨q.1, q.2.1, q.2.2.1, va_K.moved (u := U) (U := U.calling g mk a) (Vm.Alike.refl U.vm) q.2.2.2.1, q.2.2.2.2⟩, fun U hU hW => ⟨rfl, by rw [hU], by rw [hU]; exact hPc, va_K.moved hW.alike hK, hDc.weaken (fun _ _ _ _ => trivial)⟩⟩ rfl hn hls hst (lv_room hW) hdg hf) hS (fun q _ h => hFc q h) hFc (fun u t H1 locs1 ht hvm hw hB hz1 hk1 hS1 => ?_)
  obtain ⟨hP1, -, hD1⟩ := hB
  rw [ht] at hP1
  obtain ⟨h1, h2⟩ := va_join hP hD isC isR hC hRr hnd.2.1 hnd.2.2 hk1 hFc hP1 hD1
  exact kk H1 locs1 u hw h1 h2 hS1
end INI
def ff_nst : List Cond := [.methodLinkNest RX5 9 yX1_init "FormFinds", .methodLinkNest RX5 24 yX0_init "FormFinds", .methodLinkNest RX5 31 yX4_init "FormFinds", .methodLinkNest RX5 38 yX3_init "FormFinds", .methodLinkNest RX5 45 yX2_init "FormFinds"]
theorem ff_nst_on : ∀ w ∈ ff_nst, w.onTables = true := by decide +kernel
set_option maxHeartbeats 4000000 in
set_option maxRecDepth 100000 in
theorem i_X0 (l : Launch) (D : va_G) (cI : ClassId) (a0 : Nat) : Cv l yX0_init cX0_init 1 1 1 60 D (tI cI) [.ref a0] [(a0, .inr (0, [.null, .int 0]))] (S := Nat → Nat) (fun _ => True) (fun u => [(a0, .inr (0, [.ref (u 0), .int 0])), ((u 0), oI cI 60 (fun _ => 0))]) := by
  refine Cv.of (own := RX0) (lv := [(0, .ref a0)]) (by decide +kernel) rfl (Nat.le_of_ble_eq_true rfl) rfl ?_
  intro p e s m args below meth c Q A cx hin hK hP hD hA hret ls hl
  obtain ⟨hx, hb, hml, hown, hg⟩ := id cx
  have hS : va_S A s.heap s.heap [] := va_S.rf
  refine lv_aload_n hx hb dX0_init_0 rfl (lv_at hl 0 rfl) ?_
  refine W.objInit hx hb hown (hg _ wd_om_X0) (hg _ wd_oi) (hg _ wd_oc) rfl (by rw [hml]; exact hl.1) rfl dX0_init_1 (Nat.le_of_ble_eq_true rfl) (Nat.le_of_ble_eq_true rfl) ?_
  refine W.eq (g2 := F0 m 4 ls []) rfl ?_
  refine lv_aload_n hx hb dX0_init_4 rfl (lv_at hl 0 rfl) ?_
  refine lv_bipush (v := nI 60) hx hb dX0_init_5 (by decide) ?_
  refine newI hx hb hg hK hP hD hS hA (by decide) (Nat.le_of_ble_eq_true rfl) (Nat.le_of_ble_eq_true rfl) dX0_init_7 (fun q7 H hP hD hS => ?_)
  have hP : va_P D vwCl [(a0, .inr (0, [.null, .int 0])), (q7, oI cI 60 (fun _ => 0))] H := hP
  have hD : va_D A [(a0, .inr (0, [.null, .int 0])), (q7, oI cI 60 (fun _ => 0))] := hD
  refine pf_X0_9 hx hb hg hown hin hK hP hD hS 0 rfl (Nat.le_of_ble_eq_true rfl) dX0_init_9 (fun H locs hP hD hS => ?_)
  have hP : va_P D vwCl [(a0, .inr (0, [.ref q7, .int 0])), (q7, oI cI 60 (fun _ => 0))] H := hP
  have hD : va_D A [(a0, .inr (0, [.ref q7, .int 0])), (q7, oI cI 60 (fun _ => 0))] := hD
  exact hret _ _ 12 _ (fun i => [q7].getD i 0) trivial hP hD hS dX0_init_12

set_option maxHeartbeats 4000000 in
set_option maxRecDepth 100000 in
theorem i_X1 (l : Launch) (D : va_G) (cI : ClassId) (a0 : Nat) : Cv l yX1_init cX1_init 1 1 2 120 D (tI cI) [.ref a0] [(a0, .inr (1, [.null, .null, .int 0]))] (S := Nat → Nat) (fun _ => True) (fun u => [(a0, .inr (1, [.ref (u 0), .ref (u 1), .int 0])), ((u 0), oI cI 60 (fun _ => 0)), ((u 1), oI cI 60 (fun _ => 0))]) := by
  refine Cv.of (own := RX1) (lv := [(0, .ref a0)]) (by decide +kernel) rfl (Nat.le_of_ble_eq_true rfl) rfl ?_
  intro p e s m args below meth c Q A cx hin hK hP hD hA hret ls hl
  obtain ⟨hx, hb, hml, hown, hg⟩ := id cx
  have hS : va_S A s.heap s.heap [] := va_S.rf
  refine lv_aload_n hx hb dX1_init_0 rfl (lv_at hl 0 rfl) ?_
  refine W.objInit hx hb hown (hg _ wd_om_X1) (hg _ wd_oi) (hg _ wd_oc) rfl (by rw [hml]; exact hl.1) rfl dX1_init_1 (Nat.le_of_ble_eq_true rfl) (Nat.le_of_ble_eq_true rfl) ?_
  refine W.eq (g2 := F0 m 4 ls []) rfl ?_
  refine lv_aload_n hx hb dX1_init_4 rfl (lv_at hl 0 rfl) ?_
  refine lv_bipush (v := nI 60) hx hb dX1_init_5 (by decide) ?_
  refine newI hx hb hg hK hP hD hS hA (by decide) (Nat.le_of_ble_eq_true rfl) (Nat.le_of_ble_eq_true rfl) dX1_init_7 (fun q7 H hP hD hS => ?_)
  have hP : va_P D vwCl [(a0, .inr (1, [.null, .null, .int 0])), (q7, oI cI 60 (fun _ => 0))] H := hP
  have hD : va_D A [(a0, .inr (1, [.null, .null, .int 0])), (q7, oI cI 60 (fun _ => 0))] := hD
  refine pf_X1_9 hx hb hg hown hin hK hP hD hS 0 rfl (Nat.le_of_ble_eq_true rfl) dX1_init_9 (fun H locs hP hD hS => ?_)
  have hP : va_P D vwCl [(a0, .inr (1, [.ref q7, .null, .int 0])), (q7, oI cI 60 (fun _ => 0))] H := hP
  have hD : va_D A [(a0, .inr (1, [.ref q7, .null, .int 0])), (q7, oI cI 60 (fun _ => 0))] := hD
  refine lv_aload_n hx hb dX1_init_12 rfl (lv_at hl 0 rfl) ?_
  refine lv_bipush (v := nI 60) hx hb dX1_init_13 (by decide) ?_
  refine newI hx hb hg hK hP hD hS hA (by decide) (Nat.le_of_ble_eq_true rfl) (Nat.le_of_ble_eq_true rfl) dX1_init_15 (fun q15 H hP hD hS => ?_)
  have hP : va_P D vwCl [(a0, .inr (1, [.ref q7, .null, .int 0])), (q7, oI cI 60 (fun _ => 0)), (q15, oI cI 60 (fun _ => 0))] H := hP
  have hD : va_D A [(a0, .inr (1, [.ref q7, .null, .int 0])), (q7, oI cI 60 (fun _ => 0)), (q15, oI cI 60 (fun _ => 0))] := hD
  refine pf_X1_15 hx hb hg hown hin hK hP hD hS 0 rfl (Nat.le_of_ble_eq_true rfl) dX1_init_17 (fun H locs hP hD hS => ?_)
  have hP : va_P D vwCl [(a0, .inr (1, [.ref q7, .ref q15, .int 0])), (q7, oI cI 60 (fun _ => 0)), (q15, oI cI 60 (fun _ => 0))] H := hP
  have hD : va_D A [(a0, .inr (1, [.ref q7, .ref q15, .int 0])), (q7, oI cI 60 (fun _ => 0)), (q15, oI cI 60 (fun _ => 0))] := hD
  exact hret _ _ 20 _ (fun i => [q7, q15].getD i 0) trivial hP hD hS dX1_init_20

set_option maxHeartbeats 4000000 in
set_option maxRecDepth 100000 in
theorem i_X2 (l : Launch) (D : va_G) (cI : ClassId) (a0 : Nat) : Cv l yX2_init cX2_init 1 1 4 243 D (tI cI) [.ref a0] [(a0, .inr (2, [.null, .int 0, .int 0, .null, .null, .null]))] (S := Nat → Nat) (fun _ => True) (fun u => [(a0, .inr (2, [.ref (u 0), .int 0, .int 0, .ref (u 1), .ref (u 2), .ref (u 3)])), ((u 0), oI cI 60 (fun _ => 0)), ((u 1), oI cI 61 (fun _ => 0)), ((u 2), oI cI 61 (fun _ => 0)), ((u 3), oI cI 61 (fun _ => 0))]) := by
  refine Cv.of (own := RX2) (lv := [(0, .ref a0)]) (by decide +kernel) rfl (Nat.le_of_ble_eq_true rfl) rfl ?_
  intro p e s m args below meth c Q A cx hin hK hP hD hA hret ls hl
  obtain ⟨hx, hb, hml, hown, hg⟩ := id cx
  have hS : va_S A s.heap s.heap [] := va_S.rf
  refine lv_aload_n hx hb dX2_init_0 rfl (lv_at hl 0 rfl) ?_
  refine W.objInit hx hb hown (hg _ wd_om_X2) (hg _ wd_oi) (hg _ wd_oc) rfl (by rw [hml]; exact hl.1) rfl dX2_init_1 (Nat.le_of_ble_eq_true rfl) (Nat.le_of_ble_eq_true rfl) ?_
  refine W.eq (g2 := F0 m 4 ls []) rfl ?_
  refine lv_aload_n hx hb dX2_init_4 rfl (lv_at hl 0 rfl) ?_
  refine lv_bipush (v := nI 60) hx hb dX2_init_5 (by decide) ?_
  refine newI hx hb hg hK hP hD hS hA (by decide) (Nat.le_of_ble_eq_true rfl) (Nat.le_of_ble_eq_true rfl) dX2_init_7 (fun q7 H hP hD hS => ?_)
  have hP : va_P D vwCl [(a0, .inr (2, [.null, .int 0, .int 0, .null, .null, .null])), (q7, oI cI 60 (fun _ => 0))] H := hP
  have hD : va_D A [(a0, .inr (2, [.null, .int 0, .int 0, .null, .null, .null])), (q7, oI cI 60 (fun _ => 0))] := hD
  refine pf_X2_9 hx hb hg hown hin hK hP hD hS 0 rfl (Nat.le_of_ble_eq_true rfl) dX2_init_9 (fun H locs hP hD hS => ?_)
  have hP : va_P D vwCl [(a0, .inr (2, [.ref q7, .int 0, .int 0, .null, .null, .null])), (q7, oI cI 60 (fun _ => 0))] H := hP
  have hD : va_D A [(a0, .inr (2, [.ref q7, .int 0, .int 0, .null, .null, .null])), (q7, oI cI 60 (fun _ => 0))] := hD
  refine lv_aload_n hx hb dX2_init_12 rfl (lv_at hl 0 rfl) ?_
  refine lv_bipush (v := nI 61) hx hb dX2_init_13 (by decide) ?_
  refine newI hx hb hg hK hP hD hS hA (by decide) (Nat.le_of_ble_eq_true rfl) (Nat.le_of_ble_eq_true rfl) dX2_init_15 (fun q15 H hP hD hS => ?_)
  have hP : va_P D vwCl [(a0, .inr (2, [.ref q7, .int 0, .int 0, .null, .null, .null])), (q7, oI cI 60 (fun _ => 0)), (q15, oI cI 61 (fun _ => 0))] H := hP
  have hD : va_D A [(a0, .inr (2, [.ref q7, .int 0, .int 0, .null, .null, .null])), (q7, oI cI 60 (fun _ => 0)), (q15, oI cI 61 (fun _ => 0))] := hD
  refine pf_X2_15 hx hb hg hown hin hK hP hD hS 0 rfl (Nat.le_of_ble_eq_true rfl) dX2_init_17 (fun H locs hP hD hS => ?_)
  have hP : va_P D vwCl [(a0, .inr (2, [.ref q7, .int 0, .int 0, .ref q15, .null, .null])), (q7, oI cI 60 (fun _ => 0)), (q15, oI cI 61 (fun _ => 0))] H := hP
  have hD : va_D A [(a0, .inr (2, [.ref q7, .int 0, .int 0, .ref q15, .null, .null])), (q7, oI cI 60 (fun _ => 0)), (q15, oI cI 61 (fun _ => 0))] := hD
  refine lv_aload_n hx hb dX2_init_20 rfl (lv_at hl 0 rfl) ?_
  refine lv_bipush (v := nI 61) hx hb dX2_init_21 (by decide) ?_
  refine newI hx hb hg hK hP hD hS hA (by decide) (Nat.le_of_ble_eq_true rfl) (Nat.le_of_ble_eq_true rfl) dX2_init_23 (fun q23 H hP hD hS => ?_)
  have hP : va_P D vwCl [(a0, .inr (2, [.ref q7, .int 0, .int 0, .ref q15, .null, .null])), (q7, oI cI 60 (fun _ => 0)), (q15, oI cI 61 (fun _ => 0)), (q23, oI cI 61 (fun _ => 0))] H := hP
  have hD : va_D A [(a0, .inr (2, [.ref q7, .int 0, .int 0, .ref q15, .null, .null])), (q7, oI cI 60 (fun _ => 0)), (q15, oI cI 61 (fun _ => 0)), (q23, oI cI 61 (fun _ => 0))] := hD
  refine pf_X2_18 hx hb hg hown hin hK hP hD hS 0 rfl (Nat.le_of_ble_eq_true rfl) dX2_init_25 (fun H locs hP hD hS => ?_)
  have hP : va_P D vwCl [(a0, .inr (2, [.ref q7, .int 0, .int 0, .ref q15, .ref q23, .null])), (q7, oI cI 60 (fun _ => 0)), (q15, oI cI 61 (fun _ => 0)), (q23, oI cI 61 (fun _ => 0))] H := hP
  have hD : va_D A [(a0, .inr (2, [.ref q7, .int 0, .int 0, .ref q15, .ref q23, .null])), (q7, oI cI 60 (fun _ => 0)), (q15, oI cI 61 (fun _ => 0)), (q23, oI cI 61 (fun _ => 0))] := hD
  refine lv_aload_n hx hb dX2_init_28 rfl (lv_at hl 0 rfl) ?_
  refine lv_bipush (v := nI 61) hx hb dX2_init_29 (by decide) ?_
  refine newI hx hb hg hK hP hD hS hA (by decide) (Nat.le_of_ble_eq_true rfl) (Nat.le_of_ble_eq_true rfl) dX2_init_31 (fun q31 H hP hD hS => ?_)
  have hP : va_P D vwCl [(a0, .inr (2, [.ref q7, .int 0, .int 0, .ref q15, .ref q23, .null])), (q7, oI cI 60 (fun _ => 0)), (q15, oI cI 61 (fun _ => 0)), (q23, oI cI 61 (fun _ => 0)), (q31, oI cI 61 (fun _ => 0))] H := hP
  have hD : va_D A [(a0, .inr (2, [.ref q7, .int 0, .int 0, .ref q15, .ref q23, .null])), (q7, oI cI 60 (fun _ => 0)), (q15, oI cI 61 (fun _ => 0)), (q23, oI cI 61 (fun _ => 0)), (q31, oI cI 61 (fun _ => 0))] := hD
  refine pf_X2_21 hx hb hg hown hin hK hP hD hS 0 rfl (Nat.le_of_ble_eq_true rfl) dX2_init_33 (fun H locs hP hD hS => ?_)
  have hP : va_P D vwCl [(a0, .inr (2, [.ref q7, .int 0, .int 0, .ref q15, .ref q23, .ref q31])), (q7, oI cI 60 (fun _ => 0)), (q15, oI cI 61 (fun _ => 0)), (q23, oI cI 61 (fun _ => 0)), (q31, oI cI 61 (fun _ => 0))] H := hP
  have hD : va_D A [(a0, .inr (2, [.ref q7, .int 0, .int 0, .ref q15, .ref q23, .ref q31])), (q7, oI cI 60 (fun _ => 0)), (q15, oI cI 61 (fun _ => 0)), (q23, oI cI 61 (fun _ => 0)), (q31, oI cI 61 (fun _ => 0))] := hD
  exact hret _ _ 36 _ (fun i => [q7, q15, q23, q31].getD i 0) trivial hP hD hS dX2_init_36

set_option maxHeartbeats 4000000 in
set_option maxRecDepth 100000 in
theorem i_X3 (l : Launch) (D : va_G) (cI : ClassId) (a0 : Nat) : Cv l yX3_init cX3_init 1 1 1 60 D (tI cI) [.ref a0] [(a0, .inr (3, [.null, .int 0]))] (S := Nat → Nat) (fun _ => True) (fun u => [(a0, .inr (3, [.ref (u 0), .int 0])), ((u 0), oI cI 60 (fun _ => 0))]) := by
  refine Cv.of (own := RX3) (lv := [(0, .ref a0)]) (by decide +kernel) rfl (Nat.le_of_ble_eq_true rfl) rfl ?_
  intro p e s m args below meth c Q A cx hin hK hP hD hA hret ls hl
  obtain ⟨hx, hb, hml, hown, hg⟩ := id cx
  have hS : va_S A s.heap s.heap [] := va_S.rf
  refine lv_aload_n hx hb dX3_init_0 rfl (lv_at hl 0 rfl) ?_
  refine W.objInit hx hb hown (hg _ wd_om_X3) (hg _ wd_oi) (hg _ wd_oc) rfl (by rw [hml]; exact hl.1) rfl dX3_init_1 (Nat.le_of_ble_eq_true rfl) (Nat.le_of_ble_eq_true rfl) ?_
  refine W.eq (g2 := F0 m 4 ls []) rfl ?_
  refine lv_aload_n hx hb dX3_init_4 rfl (lv_at hl 0 rfl) ?_
  refine lv_bipush (v := nI 60) hx hb dX3_init_5 (by decide) ?_
  refine newI hx hb hg hK hP hD hS hA (by decide) (Nat.le_of_ble_eq_true rfl) (Nat.le_of_ble_eq_true rfl) dX3_init_7 (fun q7 H hP hD hS => ?_)
  have hP : va_P D vwCl [(a0, .inr (3, [.null, .int 0])), (q7, oI cI 60 (fun _ => 0))] H := hP
  have hD : va_D A [(a0, .inr (3, [.null, .int 0])), (q7, oI cI 60 (fun _ => 0))] := hD
  refine pf_X3_9 hx hb hg hown hin hK hP hD hS 0 rfl (Nat.le_of_ble_eq_true rfl) dX3_init_9 (fun H locs hP hD hS => ?_)
  have hP : va_P D vwCl [(a0, .inr (3, [.ref q7, .int 0])), (q7, oI cI 60 (fun _ => 0))] H := hP
  have hD : va_D A [(a0, .inr (3, [.ref q7, .int 0])), (q7, oI cI 60 (fun _ => 0))] := hD
  exact hret _ _ 12 _ (fun i => [q7].getD i 0) trivial hP hD hS dX3_init_12

set_option maxHeartbeats 4000000 in
set_option maxRecDepth 100000 in
theorem i_X4 (l : Launch) (D : va_G) (cI : ClassId) (a0 : Nat) : Cv l yX4_init cX4_init 1 1 2 2760 D (tI cI) [.ref a0] [(a0, .inr (4, [.null, .null, .int 0]))] (S := Nat → Nat) (fun _ => True) (fun u => [(a0, .inr (4, [.ref (u 0), .ref (u 1), .int 0])), ((u 0), oI cI 2700 (fun _ => 0)), ((u 1), oI cI 60 (fun _ => 0))]) := by
  refine Cv.of (own := RX4) (lv := [(0, .ref a0)]) (by decide +kernel) rfl (Nat.le_of_ble_eq_true rfl) rfl ?_
  intro p e s m args below meth c Q A cx hin hK hP hD hA hret ls hl
  obtain ⟨hx, hb, hml, hown, hg⟩ := id cx
  have hS : va_S A s.heap s.heap [] := va_S.rf
  refine lv_aload_n hx hb dX4_init_0 rfl (lv_at hl 0 rfl) ?_
  refine W.objInit hx hb hown (hg _ wd_om_X4) (hg _ wd_oi) (hg _ wd_oc) rfl (by rw [hml]; exact hl.1) rfl dX4_init_1 (Nat.le_of_ble_eq_true rfl) (Nat.le_of_ble_eq_true rfl) ?_
  refine W.eq (g2 := F0 m 4 ls []) rfl ?_
  refine lv_aload_n hx hb dX4_init_4 rfl (lv_at hl 0 rfl) ?_
  refine lv_sipush (v := nI 2700) hx hb dX4_init_5 (by decide) ?_
  refine newI hx hb hg hK hP hD hS hA (by decide) (Nat.le_of_ble_eq_true rfl) (Nat.le_of_ble_eq_true rfl) dX4_init_8 (fun q8 H hP hD hS => ?_)
  have hP : va_P D vwCl [(a0, .inr (4, [.null, .null, .int 0])), (q8, oI cI 2700 (fun _ => 0))] H := hP
  have hD : va_D A [(a0, .inr (4, [.null, .null, .int 0])), (q8, oI cI 2700 (fun _ => 0))] := hD
  refine pf_X4_11 hx hb hg hown hin hK hP hD hS 0 rfl (Nat.le_of_ble_eq_true rfl) dX4_init_10 (fun H locs hP hD hS => ?_)
  have hP : va_P D vwCl [(a0, .inr (4, [.ref q8, .null, .int 0])), (q8, oI cI 2700 (fun _ => 0))] H := hP
  have hD : va_D A [(a0, .inr (4, [.ref q8, .null, .int 0])), (q8, oI cI 2700 (fun _ => 0))] := hD
  refine lv_aload_n hx hb dX4_init_13 rfl (lv_at hl 0 rfl) ?_
  refine lv_bipush (v := nI 60) hx hb dX4_init_14 (by decide) ?_
  refine newI hx hb hg hK hP hD hS hA (by decide) (Nat.le_of_ble_eq_true rfl) (Nat.le_of_ble_eq_true rfl) dX4_init_16 (fun q16 H hP hD hS => ?_)
  have hP : va_P D vwCl [(a0, .inr (4, [.ref q8, .null, .int 0])), (q8, oI cI 2700 (fun _ => 0)), (q16, oI cI 60 (fun _ => 0))] H := hP
  have hD : va_D A [(a0, .inr (4, [.ref q8, .null, .int 0])), (q8, oI cI 2700 (fun _ => 0)), (q16, oI cI 60 (fun _ => 0))] := hD
  refine pf_X4_15 hx hb hg hown hin hK hP hD hS 0 rfl (Nat.le_of_ble_eq_true rfl) dX4_init_18 (fun H locs hP hD hS => ?_)
  have hP : va_P D vwCl [(a0, .inr (4, [.ref q8, .ref q16, .int 0])), (q8, oI cI 2700 (fun _ => 0)), (q16, oI cI 60 (fun _ => 0))] H := hP
  have hD : va_D A [(a0, .inr (4, [.ref q8, .ref q16, .int 0])), (q8, oI cI 2700 (fun _ => 0)), (q16, oI cI 60 (fun _ => 0))] := hD
  exact hret _ _ 21 _ (fun i => [q8, q16].getD i 0) trivial hP hD hS dX4_init_21

set_option maxHeartbeats 4000000 in
set_option maxRecDepth 100000 in
theorem i_X6 (l : Launch) (D : va_G) (cI : ClassId) (a0 : Nat) : Cv l yX6_init cX6_init 1 1 11 5859 D (tI cI) [.ref a0] [(a0, .inr (6, [.int 0, .int 0, .null, .null, .int 0, .null, .int 0, .null, .null, .int 0, .null, .int 0, .int 0, .null, .null, .null, .null, .null]))] (S := Nat → Nat) (fun _ => True) (fun u => [(a0, .inr (6, [.int 0, .int 0, .ref (u 0), .ref (u 1), .int 0, .ref (u 2), .int 0, .ref (u 3), .ref (u 4), .int 0, .ref (u 5), .int 0, .int 0, .ref (u 6), .ref (u 7), .ref (u 8), .ref (u 9), .ref (u 10)])), ((u 0), oI cI 60 (fun _ => 0)), ((u 1), oI cI 60 (fun _ => 0)), ((u 2), oI cI 5400 (fun _ => 0)), ((u 3), oI cI 12 (fun _ => 0)), ((u 4), oI cI 12 (fun _ => 0)), ((u 5), oI cI 60 (fun _ => 0)), ((u 6), oI cI 60 (fun _ => 0)), ((u 7), oI cI 12 (fun _ => 0)), ((u 8), oI cI 61 (fun _ => 0)), ((u 9), oI cI 61 (fun _ => 0)), ((u 10), oI cI 61 (fun _ => 0))]) := by
  refine Cv.of (own := RX6) (lv := [(0, .ref a0)]) (by decide +kernel) rfl (Nat.le_of_ble_eq_true rfl) rfl ?_
  intro p e s m args below meth c Q A cx hin hK hP hD hA hret ls hl
  obtain ⟨hx, hb, hml, hown, hg⟩ := id cx
  have hS : va_S A s.heap s.heap [] := va_S.rf
  refine lv_aload_n hx hb dX6_init_0 rfl (lv_at hl 0 rfl) ?_
  refine W.objInit hx hb hown (hg _ wd_om_X6) (hg _ wd_oi) (hg _ wd_oc) rfl (by rw [hml]; exact hl.1) rfl dX6_init_1 (Nat.le_of_ble_eq_true rfl) (Nat.le_of_ble_eq_true rfl) ?_
  refine W.eq (g2 := F0 m 4 ls []) rfl ?_
  refine lv_aload_n hx hb dX6_init_4 rfl (lv_at hl 0 rfl) ?_
  refine lv_bipush (v := nI 60) hx hb dX6_init_5 (by decide) ?_
  refine newI hx hb hg hK hP hD hS hA (by decide) (Nat.le_of_ble_eq_true rfl) (Nat.le_of_ble_eq_true rfl) dX6_init_7 (fun q7 H hP hD hS => ?_)
  have hP : va_P D vwCl [(a0, .inr (6, [.int 0, .int 0, .null, .null, .int 0, .null, .int 0, .null, .null, .int 0, .null, .int 0, .int 0, .null, .null, .null, .null, .null])), (q7, oI cI 60 (fun _ => 0))] H := hP
  have hD : va_D A [(a0, .inr (6, [.int 0, .int 0, .null, .null, .int 0, .null, .int 0, .null, .null, .int 0, .null, .int 0, .int 0, .null, .null, .null, .null, .null])), (q7, oI cI 60 (fun _ => 0))] := hD
  refine pf_X6_7 hx hb hg hown hin hK hP hD hS 0 rfl (Nat.le_of_ble_eq_true rfl) dX6_init_9 (fun H locs hP hD hS => ?_)
  have hP : va_P D vwCl [(a0, .inr (6, [.int 0, .int 0, .ref q7, .null, .int 0, .null, .int 0, .null, .null, .int 0, .null, .int 0, .int 0, .null, .null, .null, .null, .null])), (q7, oI cI 60 (fun _ => 0))] H := hP
  have hD : va_D A [(a0, .inr (6, [.int 0, .int 0, .ref q7, .null, .int 0, .null, .int 0, .null, .null, .int 0, .null, .int 0, .int 0, .null, .null, .null, .null, .null])), (q7, oI cI 60 (fun _ => 0))] := hD
  refine lv_aload_n hx hb dX6_init_12 rfl (lv_at hl 0 rfl) ?_
  refine lv_bipush (v := nI 60) hx hb dX6_init_13 (by decide) ?_
  refine newI hx hb hg hK hP hD hS hA (by decide) (Nat.le_of_ble_eq_true rfl) (Nat.le_of_ble_eq_true rfl) dX6_init_15 (fun q15 H hP hD hS => ?_)
  have hP : va_P D vwCl [(a0, .inr (6, [.int 0, .int 0, .ref q7, .null, .int 0, .null, .int 0, .null, .null, .int 0, .null, .int 0, .int 0, .null, .null, .null, .null, .null])), (q7, oI cI 60 (fun _ => 0)), (q15, oI cI 60 (fun _ => 0))] H := hP
  have hD : va_D A [(a0, .inr (6, [.int 0, .int 0, .ref q7, .null, .int 0, .null, .int 0, .null, .null, .int 0, .null, .int 0, .int 0, .null, .null, .null, .null, .null])), (q7, oI cI 60 (fun _ => 0)), (q15, oI cI 60 (fun _ => 0))] := hD
  refine pf_X6_13 hx hb hg hown hin hK hP hD hS 0 rfl (Nat.le_of_ble_eq_true rfl) dX6_init_17 (fun H locs hP hD hS => ?_)
  have hP : va_P D vwCl [(a0, .inr (6, [.int 0, .int 0, .ref q7, .ref q15, .int 0, .null, .int 0, .null, .null, .int 0, .null, .int 0, .int 0, .null, .null, .null, .null, .null])), (q7, oI cI 60 (fun _ => 0)), (q15, oI cI 60 (fun _ => 0))] H := hP
  have hD : va_D A [(a0, .inr (6, [.int 0, .int 0, .ref q7, .ref q15, .int 0, .null, .int 0, .null, .null, .int 0, .null, .int 0, .int 0, .null, .null, .null, .null, .null])), (q7, oI cI 60 (fun _ => 0)), (q15, oI cI 60 (fun _ => 0))] := hD
  refine lv_aload_n hx hb dX6_init_20 rfl (lv_at hl 0 rfl) ?_
  refine lv_sipush (v := nI 5400) hx hb dX6_init_21 (by decide) ?_
  refine newI hx hb hg hK hP hD hS hA (by decide) (Nat.le_of_ble_eq_true rfl) (Nat.le_of_ble_eq_true rfl) dX6_init_24 (fun q24 H hP hD hS => ?_)
  have hP : va_P D vwCl [(a0, .inr (6, [.int 0, .int 0, .ref q7, .ref q15, .int 0, .null, .int 0, .null, .null, .int 0, .null, .int 0, .int 0, .null, .null, .null, .null, .null])), (q7, oI cI 60 (fun _ => 0)), (q15, oI cI 60 (fun _ => 0)), (q24, oI cI 5400 (fun _ => 0))] H := hP
  have hD : va_D A [(a0, .inr (6, [.int 0, .int 0, .ref q7, .ref q15, .int 0, .null, .int 0, .null, .null, .int 0, .null, .int 0, .int 0, .null, .null, .null, .null, .null])), (q7, oI cI 60 (fun _ => 0)), (q15, oI cI 60 (fun _ => 0)), (q24, oI cI 5400 (fun _ => 0))] := hD
  refine pf_X6_16 hx hb hg hown hin hK hP hD hS 0 rfl (Nat.le_of_ble_eq_true rfl) dX6_init_26 (fun H locs hP hD hS => ?_)
  have hP : va_P D vwCl [(a0, .inr (6, [.int 0, .int 0, .ref q7, .ref q15, .int 0, .ref q24, .int 0, .null, .null, .int 0, .null, .int 0, .int 0, .null, .null, .null, .null, .null])), (q7, oI cI 60 (fun _ => 0)), (q15, oI cI 60 (fun _ => 0)), (q24, oI cI 5400 (fun _ => 0))] H := hP
  have hD : va_D A [(a0, .inr (6, [.int 0, .int 0, .ref q7, .ref q15, .int 0, .ref q24, .int 0, .null, .null, .int 0, .null, .int 0, .int 0, .null, .null, .null, .null, .null])), (q7, oI cI 60 (fun _ => 0)), (q15, oI cI 60 (fun _ => 0)), (q24, oI cI 5400 (fun _ => 0))] := hD
  refine lv_aload_n hx hb dX6_init_29 rfl (lv_at hl 0 rfl) ?_
  refine lv_bipush (v := nI 12) hx hb dX6_init_30 (by decide) ?_
  refine newI hx hb hg hK hP hD hS hA (by decide) (Nat.le_of_ble_eq_true rfl) (Nat.le_of_ble_eq_true rfl) dX6_init_32 (fun q32 H hP hD hS => ?_)
  have hP : va_P D vwCl [(a0, .inr (6, [.int 0, .int 0, .ref q7, .ref q15, .int 0, .ref q24, .int 0, .null, .null, .int 0, .null, .int 0, .int 0, .null, .null, .null, .null, .null])), (q7, oI cI 60 (fun _ => 0)), (q15, oI cI 60 (fun _ => 0)), (q24, oI cI 5400 (fun _ => 0)), (q32, oI cI 12 (fun _ => 0))] H := hP
  have hD : va_D A [(a0, .inr (6, [.int 0, .int 0, .ref q7, .ref q15, .int 0, .ref q24, .int 0, .null, .null, .int 0, .null, .int 0, .int 0, .null, .null, .null, .null, .null])), (q7, oI cI 60 (fun _ => 0)), (q15, oI cI 60 (fun _ => 0)), (q24, oI cI 5400 (fun _ => 0)), (q32, oI cI 12 (fun _ => 0))] := hD
  refine pf_X6_19 hx hb hg hown hin hK hP hD hS 0 rfl (Nat.le_of_ble_eq_true rfl) dX6_init_34 (fun H locs hP hD hS => ?_)
  have hP : va_P D vwCl [(a0, .inr (6, [.int 0, .int 0, .ref q7, .ref q15, .int 0, .ref q24, .int 0, .ref q32, .null, .int 0, .null, .int 0, .int 0, .null, .null, .null, .null, .null])), (q7, oI cI 60 (fun _ => 0)), (q15, oI cI 60 (fun _ => 0)), (q24, oI cI 5400 (fun _ => 0)), (q32, oI cI 12 (fun _ => 0))] H := hP
  have hD : va_D A [(a0, .inr (6, [.int 0, .int 0, .ref q7, .ref q15, .int 0, .ref q24, .int 0, .ref q32, .null, .int 0, .null, .int 0, .int 0, .null, .null, .null, .null, .null])), (q7, oI cI 60 (fun _ => 0)), (q15, oI cI 60 (fun _ => 0)), (q24, oI cI 5400 (fun _ => 0)), (q32, oI cI 12 (fun _ => 0))] := hD
  refine lv_aload_n hx hb dX6_init_37 rfl (lv_at hl 0 rfl) ?_
  refine lv_bipush (v := nI 12) hx hb dX6_init_38 (by decide) ?_
  refine newI hx hb hg hK hP hD hS hA (by decide) (Nat.le_of_ble_eq_true rfl) (Nat.le_of_ble_eq_true rfl) dX6_init_40 (fun q40 H hP hD hS => ?_)
  have hP : va_P D vwCl [(a0, .inr (6, [.int 0, .int 0, .ref q7, .ref q15, .int 0, .ref q24, .int 0, .ref q32, .null, .int 0, .null, .int 0, .int 0, .null, .null, .null, .null, .null])), (q7, oI cI 60 (fun _ => 0)), (q15, oI cI 60 (fun _ => 0)), (q24, oI cI 5400 (fun _ => 0)), (q32, oI cI 12 (fun _ => 0)), (q40, oI cI 12 (fun _ => 0))] H := hP
  have hD : va_D A [(a0, .inr (6, [.int 0, .int 0, .ref q7, .ref q15, .int 0, .ref q24, .int 0, .ref q32, .null, .int 0, .null, .int 0, .int 0, .null, .null, .null, .null, .null])), (q7, oI cI 60 (fun _ => 0)), (q15, oI cI 60 (fun _ => 0)), (q24, oI cI 5400 (fun _ => 0)), (q32, oI cI 12 (fun _ => 0)), (q40, oI cI 12 (fun _ => 0))] := hD
  refine pf_X6_22 hx hb hg hown hin hK hP hD hS 0 rfl (Nat.le_of_ble_eq_true rfl) dX6_init_42 (fun H locs hP hD hS => ?_)
  have hP : va_P D vwCl [(a0, .inr (6, [.int 0, .int 0, .ref q7, .ref q15, .int 0, .ref q24, .int 0, .ref q32, .ref q40, .int 0, .null, .int 0, .int 0, .null, .null, .null, .null, .null])), (q7, oI cI 60 (fun _ => 0)), (q15, oI cI 60 (fun _ => 0)), (q24, oI cI 5400 (fun _ => 0)), (q32, oI cI 12 (fun _ => 0)), (q40, oI cI 12 (fun _ => 0))] H := hP
  have hD : va_D A [(a0, .inr (6, [.int 0, .int 0, .ref q7, .ref q15, .int 0, .ref q24, .int 0, .ref q32, .ref q40, .int 0, .null, .int 0, .int 0, .null, .null, .null, .null, .null])), (q7, oI cI 60 (fun _ => 0)), (q15, oI cI 60 (fun _ => 0)), (q24, oI cI 5400 (fun _ => 0)), (q32, oI cI 12 (fun _ => 0)), (q40, oI cI 12 (fun _ => 0))] := hD
  refine lv_aload_n hx hb dX6_init_45 rfl (lv_at hl 0 rfl) ?_
  refine lv_bipush (v := nI 60) hx hb dX6_init_46 (by decide) ?_
  refine newI hx hb hg hK hP hD hS hA (by decide) (Nat.le_of_ble_eq_true rfl) (Nat.le_of_ble_eq_true rfl) dX6_init_48 (fun q48 H hP hD hS => ?_)
  have hP : va_P D vwCl [(a0, .inr (6, [.int 0, .int 0, .ref q7, .ref q15, .int 0, .ref q24, .int 0, .ref q32, .ref q40, .int 0, .null, .int 0, .int 0, .null, .null, .null, .null, .null])), (q7, oI cI 60 (fun _ => 0)), (q15, oI cI 60 (fun _ => 0)), (q24, oI cI 5400 (fun _ => 0)), (q32, oI cI 12 (fun _ => 0)), (q40, oI cI 12 (fun _ => 0)), (q48, oI cI 60 (fun _ => 0))] H := hP
  have hD : va_D A [(a0, .inr (6, [.int 0, .int 0, .ref q7, .ref q15, .int 0, .ref q24, .int 0, .ref q32, .ref q40, .int 0, .null, .int 0, .int 0, .null, .null, .null, .null, .null])), (q7, oI cI 60 (fun _ => 0)), (q15, oI cI 60 (fun _ => 0)), (q24, oI cI 5400 (fun _ => 0)), (q32, oI cI 12 (fun _ => 0)), (q40, oI cI 12 (fun _ => 0)), (q48, oI cI 60 (fun _ => 0))] := hD
  refine pf_X6_25 hx hb hg hown hin hK hP hD hS 0 rfl (Nat.le_of_ble_eq_true rfl) dX6_init_50 (fun H locs hP hD hS => ?_)
  have hP : va_P D vwCl [(a0, .inr (6, [.int 0, .int 0, .ref q7, .ref q15, .int 0, .ref q24, .int 0, .ref q32, .ref q40, .int 0, .ref q48, .int 0, .int 0, .null, .null, .null, .null, .null])), (q7, oI cI 60 (fun _ => 0)), (q15, oI cI 60 (fun _ => 0)), (q24, oI cI 5400 (fun _ => 0)), (q32, oI cI 12 (fun _ => 0)), (q40, oI cI 12 (fun _ => 0)), (q48, oI cI 60 (fun _ => 0))] H := hP
  have hD : va_D A [(a0, .inr (6, [.int 0, .int 0, .ref q7, .ref q15, .int 0, .ref q24, .int 0, .ref q32, .ref q40, .int 0, .ref q48, .int 0, .int 0, .null, .null, .null, .null, .null])), (q7, oI cI 60 (fun _ => 0)), (q15, oI cI 60 (fun _ => 0)), (q24, oI cI 5400 (fun _ => 0)), (q32, oI cI 12 (fun _ => 0)), (q40, oI cI 12 (fun _ => 0)), (q48, oI cI 60 (fun _ => 0))] := hD
  refine lv_aload_n hx hb dX6_init_53 rfl (lv_at hl 0 rfl) ?_
  refine lv_bipush (v := nI 60) hx hb dX6_init_54 (by decide) ?_
  refine newI hx hb hg hK hP hD hS hA (by decide) (Nat.le_of_ble_eq_true rfl) (Nat.le_of_ble_eq_true rfl) dX6_init_56 (fun q56 H hP hD hS => ?_)
  have hP : va_P D vwCl [(a0, .inr (6, [.int 0, .int 0, .ref q7, .ref q15, .int 0, .ref q24, .int 0, .ref q32, .ref q40, .int 0, .ref q48, .int 0, .int 0, .null, .null, .null, .null, .null])), (q7, oI cI 60 (fun _ => 0)), (q15, oI cI 60 (fun _ => 0)), (q24, oI cI 5400 (fun _ => 0)), (q32, oI cI 12 (fun _ => 0)), (q40, oI cI 12 (fun _ => 0)), (q48, oI cI 60 (fun _ => 0)), (q56, oI cI 60 (fun _ => 0))] H := hP
  have hD : va_D A [(a0, .inr (6, [.int 0, .int 0, .ref q7, .ref q15, .int 0, .ref q24, .int 0, .ref q32, .ref q40, .int 0, .ref q48, .int 0, .int 0, .null, .null, .null, .null, .null])), (q7, oI cI 60 (fun _ => 0)), (q15, oI cI 60 (fun _ => 0)), (q24, oI cI 5400 (fun _ => 0)), (q32, oI cI 12 (fun _ => 0)), (q40, oI cI 12 (fun _ => 0)), (q48, oI cI 60 (fun _ => 0)), (q56, oI cI 60 (fun _ => 0))] := hD
  refine pf_X6_28 hx hb hg hown hin hK hP hD hS 0 rfl (Nat.le_of_ble_eq_true rfl) dX6_init_58 (fun H locs hP hD hS => ?_)
  have hP : va_P D vwCl [(a0, .inr (6, [.int 0, .int 0, .ref q7, .ref q15, .int 0, .ref q24, .int 0, .ref q32, .ref q40, .int 0, .ref q48, .int 0, .int 0, .ref q56, .null, .null, .null, .null])), (q7, oI cI 60 (fun _ => 0)), (q15, oI cI 60 (fun _ => 0)), (q24, oI cI 5400 (fun _ => 0)), (q32, oI cI 12 (fun _ => 0)), (q40, oI cI 12 (fun _ => 0)), (q48, oI cI 60 (fun _ => 0)), (q56, oI cI 60 (fun _ => 0))] H := hP
  have hD : va_D A [(a0, .inr (6, [.int 0, .int 0, .ref q7, .ref q15, .int 0, .ref q24, .int 0, .ref q32, .ref q40, .int 0, .ref q48, .int 0, .int 0, .ref q56, .null, .null, .null, .null])), (q7, oI cI 60 (fun _ => 0)), (q15, oI cI 60 (fun _ => 0)), (q24, oI cI 5400 (fun _ => 0)), (q32, oI cI 12 (fun _ => 0)), (q40, oI cI 12 (fun _ => 0)), (q48, oI cI 60 (fun _ => 0)), (q56, oI cI 60 (fun _ => 0))] := hD
  refine lv_aload_n hx hb dX6_init_61 rfl (lv_at hl 0 rfl) ?_
  refine lv_bipush (v := nI 12) hx hb dX6_init_62 (by decide) ?_
  refine newI hx hb hg hK hP hD hS hA (by decide) (Nat.le_of_ble_eq_true rfl) (Nat.le_of_ble_eq_true rfl) dX6_init_64 (fun q64 H hP hD hS => ?_)
  have hP : va_P D vwCl [(a0, .inr (6, [.int 0, .int 0, .ref q7, .ref q15, .int 0, .ref q24, .int 0, .ref q32, .ref q40, .int 0, .ref q48, .int 0, .int 0, .ref q56, .null, .null, .null, .null])), (q7, oI cI 60 (fun _ => 0)), (q15, oI cI 60 (fun _ => 0)), (q24, oI cI 5400 (fun _ => 0)), (q32, oI cI 12 (fun _ => 0)), (q40, oI cI 12 (fun _ => 0)), (q48, oI cI 60 (fun _ => 0)), (q56, oI cI 60 (fun _ => 0)), (q64, oI cI 12 (fun _ => 0))] H := hP
  have hD : va_D A [(a0, .inr (6, [.int 0, .int 0, .ref q7, .ref q15, .int 0, .ref q24, .int 0, .ref q32, .ref q40, .int 0, .ref q48, .int 0, .int 0, .ref q56, .null, .null, .null, .null])), (q7, oI cI 60 (fun _ => 0)), (q15, oI cI 60 (fun _ => 0)), (q24, oI cI 5400 (fun _ => 0)), (q32, oI cI 12 (fun _ => 0)), (q40, oI cI 12 (fun _ => 0)), (q48, oI cI 60 (fun _ => 0)), (q56, oI cI 60 (fun _ => 0)), (q64, oI cI 12 (fun _ => 0))] := hD
  refine pf_X6_31 hx hb hg hown hin hK hP hD hS 0 rfl (Nat.le_of_ble_eq_true rfl) dX6_init_66 (fun H locs hP hD hS => ?_)
  have hP : va_P D vwCl [(a0, .inr (6, [.int 0, .int 0, .ref q7, .ref q15, .int 0, .ref q24, .int 0, .ref q32, .ref q40, .int 0, .ref q48, .int 0, .int 0, .ref q56, .ref q64, .null, .null, .null])), (q7, oI cI 60 (fun _ => 0)), (q15, oI cI 60 (fun _ => 0)), (q24, oI cI 5400 (fun _ => 0)), (q32, oI cI 12 (fun _ => 0)), (q40, oI cI 12 (fun _ => 0)), (q48, oI cI 60 (fun _ => 0)), (q56, oI cI 60 (fun _ => 0)), (q64, oI cI 12 (fun _ => 0))] H := hP
  have hD : va_D A [(a0, .inr (6, [.int 0, .int 0, .ref q7, .ref q15, .int 0, .ref q24, .int 0, .ref q32, .ref q40, .int 0, .ref q48, .int 0, .int 0, .ref q56, .ref q64, .null, .null, .null])), (q7, oI cI 60 (fun _ => 0)), (q15, oI cI 60 (fun _ => 0)), (q24, oI cI 5400 (fun _ => 0)), (q32, oI cI 12 (fun _ => 0)), (q40, oI cI 12 (fun _ => 0)), (q48, oI cI 60 (fun _ => 0)), (q56, oI cI 60 (fun _ => 0)), (q64, oI cI 12 (fun _ => 0))] := hD
  refine lv_aload_n hx hb dX6_init_69 rfl (lv_at hl 0 rfl) ?_
  refine lv_bipush (v := nI 61) hx hb dX6_init_70 (by decide) ?_
  refine newI hx hb hg hK hP hD hS hA (by decide) (Nat.le_of_ble_eq_true rfl) (Nat.le_of_ble_eq_true rfl) dX6_init_72 (fun q72 H hP hD hS => ?_)
  have hP : va_P D vwCl [(a0, .inr (6, [.int 0, .int 0, .ref q7, .ref q15, .int 0, .ref q24, .int 0, .ref q32, .ref q40, .int 0, .ref q48, .int 0, .int 0, .ref q56, .ref q64, .null, .null, .null])), (q7, oI cI 60 (fun _ => 0)), (q15, oI cI 60 (fun _ => 0)), (q24, oI cI 5400 (fun _ => 0)), (q32, oI cI 12 (fun _ => 0)), (q40, oI cI 12 (fun _ => 0)), (q48, oI cI 60 (fun _ => 0)), (q56, oI cI 60 (fun _ => 0)), (q64, oI cI 12 (fun _ => 0)), (q72, oI cI 61 (fun _ => 0))] H := hP
  have hD : va_D A [(a0, .inr (6, [.int 0, .int 0, .ref q7, .ref q15, .int 0, .ref q24, .int 0, .ref q32, .ref q40, .int 0, .ref q48, .int 0, .int 0, .ref q56, .ref q64, .null, .null, .null])), (q7, oI cI 60 (fun _ => 0)), (q15, oI cI 60 (fun _ => 0)), (q24, oI cI 5400 (fun _ => 0)), (q32, oI cI 12 (fun _ => 0)), (q40, oI cI 12 (fun _ => 0)), (q48, oI cI 60 (fun _ => 0)), (q56, oI cI 60 (fun _ => 0)), (q64, oI cI 12 (fun _ => 0)), (q72, oI cI 61 (fun _ => 0))] := hD
  refine pf_X6_34 hx hb hg hown hin hK hP hD hS 0 rfl (Nat.le_of_ble_eq_true rfl) dX6_init_74 (fun H locs hP hD hS => ?_)
  have hP : va_P D vwCl [(a0, .inr (6, [.int 0, .int 0, .ref q7, .ref q15, .int 0, .ref q24, .int 0, .ref q32, .ref q40, .int 0, .ref q48, .int 0, .int 0, .ref q56, .ref q64, .ref q72, .null, .null])), (q7, oI cI 60 (fun _ => 0)), (q15, oI cI 60 (fun _ => 0)), (q24, oI cI 5400 (fun _ => 0)), (q32, oI cI 12 (fun _ => 0)), (q40, oI cI 12 (fun _ => 0)), (q48, oI cI 60 (fun _ => 0)), (q56, oI cI 60 (fun _ => 0)), (q64, oI cI 12 (fun _ => 0)), (q72, oI cI 61 (fun _ => 0))] H := hP
  have hD : va_D A [(a0, .inr (6, [.int 0, .int 0, .ref q7, .ref q15, .int 0, .ref q24, .int 0, .ref q32, .ref q40, .int 0, .ref q48, .int 0, .int 0, .ref q56, .ref q64, .ref q72, .null, .null])), (q7, oI cI 60 (fun _ => 0)), (q15, oI cI 60 (fun _ => 0)), (q24, oI cI 5400 (fun _ => 0)), (q32, oI cI 12 (fun _ => 0)), (q40, oI cI 12 (fun _ => 0)), (q48, oI cI 60 (fun _ => 0)), (q56, oI cI 60 (fun _ => 0)), (q64, oI cI 12 (fun _ => 0)), (q72, oI cI 61 (fun _ => 0))] := hD
  refine lv_aload_n hx hb dX6_init_77 rfl (lv_at hl 0 rfl) ?_
  refine lv_bipush (v := nI 61) hx hb dX6_init_78 (by decide) ?_
  refine newI hx hb hg hK hP hD hS hA (by decide) (Nat.le_of_ble_eq_true rfl) (Nat.le_of_ble_eq_true rfl) dX6_init_80 (fun q80 H hP hD hS => ?_)
  have hP : va_P D vwCl [(a0, .inr (6, [.int 0, .int 0, .ref q7, .ref q15, .int 0, .ref q24, .int 0, .ref q32, .ref q40, .int 0, .ref q48, .int 0, .int 0, .ref q56, .ref q64, .ref q72, .null, .null])), (q7, oI cI 60 (fun _ => 0)), (q15, oI cI 60 (fun _ => 0)), (q24, oI cI 5400 (fun _ => 0)), (q32, oI cI 12 (fun _ => 0)), (q40, oI cI 12 (fun _ => 0)), (q48, oI cI 60 (fun _ => 0)), (q56, oI cI 60 (fun _ => 0)), (q64, oI cI 12 (fun _ => 0)), (q72, oI cI 61 (fun _ => 0)), (q80, oI cI 61 (fun _ => 0))] H := hP
  have hD : va_D A [(a0, .inr (6, [.int 0, .int 0, .ref q7, .ref q15, .int 0, .ref q24, .int 0, .ref q32, .ref q40, .int 0, .ref q48, .int 0, .int 0, .ref q56, .ref q64, .ref q72, .null, .null])), (q7, oI cI 60 (fun _ => 0)), (q15, oI cI 60 (fun _ => 0)), (q24, oI cI 5400 (fun _ => 0)), (q32, oI cI 12 (fun _ => 0)), (q40, oI cI 12 (fun _ => 0)), (q48, oI cI 60 (fun _ => 0)), (q56, oI cI 60 (fun _ => 0)), (q64, oI cI 12 (fun _ => 0)), (q72, oI cI 61 (fun _ => 0)), (q80, oI cI 61 (fun _ => 0))] := hD
  refine pf_X6_37 hx hb hg hown hin hK hP hD hS 0 rfl (Nat.le_of_ble_eq_true rfl) dX6_init_82 (fun H locs hP hD hS => ?_)
  have hP : va_P D vwCl [(a0, .inr (6, [.int 0, .int 0, .ref q7, .ref q15, .int 0, .ref q24, .int 0, .ref q32, .ref q40, .int 0, .ref q48, .int 0, .int 0, .ref q56, .ref q64, .ref q72, .ref q80, .null])), (q7, oI cI 60 (fun _ => 0)), (q15, oI cI 60 (fun _ => 0)), (q24, oI cI 5400 (fun _ => 0)), (q32, oI cI 12 (fun _ => 0)), (q40, oI cI 12 (fun _ => 0)), (q48, oI cI 60 (fun _ => 0)), (q56, oI cI 60 (fun _ => 0)), (q64, oI cI 12 (fun _ => 0)), (q72, oI cI 61 (fun _ => 0)), (q80, oI cI 61 (fun _ => 0))] H := hP
  have hD : va_D A [(a0, .inr (6, [.int 0, .int 0, .ref q7, .ref q15, .int 0, .ref q24, .int 0, .ref q32, .ref q40, .int 0, .ref q48, .int 0, .int 0, .ref q56, .ref q64, .ref q72, .ref q80, .null])), (q7, oI cI 60 (fun _ => 0)), (q15, oI cI 60 (fun _ => 0)), (q24, oI cI 5400 (fun _ => 0)), (q32, oI cI 12 (fun _ => 0)), (q40, oI cI 12 (fun _ => 0)), (q48, oI cI 60 (fun _ => 0)), (q56, oI cI 60 (fun _ => 0)), (q64, oI cI 12 (fun _ => 0)), (q72, oI cI 61 (fun _ => 0)), (q80, oI cI 61 (fun _ => 0))] := hD
  refine lv_aload_n hx hb dX6_init_85 rfl (lv_at hl 0 rfl) ?_
  refine lv_bipush (v := nI 61) hx hb dX6_init_86 (by decide) ?_
  refine newI hx hb hg hK hP hD hS hA (by decide) (Nat.le_of_ble_eq_true rfl) (Nat.le_of_ble_eq_true rfl) dX6_init_88 (fun q88 H hP hD hS => ?_)
  have hP : va_P D vwCl [(a0, .inr (6, [.int 0, .int 0, .ref q7, .ref q15, .int 0, .ref q24, .int 0, .ref q32, .ref q40, .int 0, .ref q48, .int 0, .int 0, .ref q56, .ref q64, .ref q72, .ref q80, .null])), (q7, oI cI 60 (fun _ => 0)), (q15, oI cI 60 (fun _ => 0)), (q24, oI cI 5400 (fun _ => 0)), (q32, oI cI 12 (fun _ => 0)), (q40, oI cI 12 (fun _ => 0)), (q48, oI cI 60 (fun _ => 0)), (q56, oI cI 60 (fun _ => 0)), (q64, oI cI 12 (fun _ => 0)), (q72, oI cI 61 (fun _ => 0)), (q80, oI cI 61 (fun _ => 0)), (q88, oI cI 61 (fun _ => 0))] H := hP
  have hD : va_D A [(a0, .inr (6, [.int 0, .int 0, .ref q7, .ref q15, .int 0, .ref q24, .int 0, .ref q32, .ref q40, .int 0, .ref q48, .int 0, .int 0, .ref q56, .ref q64, .ref q72, .ref q80, .null])), (q7, oI cI 60 (fun _ => 0)), (q15, oI cI 60 (fun _ => 0)), (q24, oI cI 5400 (fun _ => 0)), (q32, oI cI 12 (fun _ => 0)), (q40, oI cI 12 (fun _ => 0)), (q48, oI cI 60 (fun _ => 0)), (q56, oI cI 60 (fun _ => 0)), (q64, oI cI 12 (fun _ => 0)), (q72, oI cI 61 (fun _ => 0)), (q80, oI cI 61 (fun _ => 0)), (q88, oI cI 61 (fun _ => 0))] := hD
  refine pf_X6_40 hx hb hg hown hin hK hP hD hS 0 rfl (Nat.le_of_ble_eq_true rfl) dX6_init_90 (fun H locs hP hD hS => ?_)
  have hP : va_P D vwCl [(a0, .inr (6, [.int 0, .int 0, .ref q7, .ref q15, .int 0, .ref q24, .int 0, .ref q32, .ref q40, .int 0, .ref q48, .int 0, .int 0, .ref q56, .ref q64, .ref q72, .ref q80, .ref q88])), (q7, oI cI 60 (fun _ => 0)), (q15, oI cI 60 (fun _ => 0)), (q24, oI cI 5400 (fun _ => 0)), (q32, oI cI 12 (fun _ => 0)), (q40, oI cI 12 (fun _ => 0)), (q48, oI cI 60 (fun _ => 0)), (q56, oI cI 60 (fun _ => 0)), (q64, oI cI 12 (fun _ => 0)), (q72, oI cI 61 (fun _ => 0)), (q80, oI cI 61 (fun _ => 0)), (q88, oI cI 61 (fun _ => 0))] H := hP
  have hD : va_D A [(a0, .inr (6, [.int 0, .int 0, .ref q7, .ref q15, .int 0, .ref q24, .int 0, .ref q32, .ref q40, .int 0, .ref q48, .int 0, .int 0, .ref q56, .ref q64, .ref q72, .ref q80, .ref q88])), (q7, oI cI 60 (fun _ => 0)), (q15, oI cI 60 (fun _ => 0)), (q24, oI cI 5400 (fun _ => 0)), (q32, oI cI 12 (fun _ => 0)), (q40, oI cI 12 (fun _ => 0)), (q48, oI cI 60 (fun _ => 0)), (q56, oI cI 60 (fun _ => 0)), (q64, oI cI 12 (fun _ => 0)), (q72, oI cI 61 (fun _ => 0)), (q80, oI cI 61 (fun _ => 0)), (q88, oI cI 61 (fun _ => 0))] := hD
  refine lv_aload_n hx hb dX6_init_93 rfl (lv_at hl 0 rfl) ?_
  refine Cv.callV (As := []) (rest := []) (wr := [(q7, oI cI 60 (fun _ => 0)), (q15, oI cI 60 (fun _ => 0)), (q24, oI cI 5400 (fun _ => 0)), (q32, oI cI 12 (fun _ => 0)), (q40, oI cI 12 (fun _ => 0)), (q48, oI cI 60 (fun _ => 0)), (q56, oI cI 60 (fun _ => 0)), (q64, oI cI 12 (fun _ => 0)), (q72, oI cI 61 (fun _ => 0)), (q80, oI cI 61 (fun _ => 0)), (q88, oI cI 61 (fun _ => 0))]) (wn := (fun _ => [(a0, .inr (6, [.int 0, .int 0, .ref q7, .ref q15, .int 0, .ref q24, .int 0, .ref q32, .ref q40, .int 0, .ref q48, .int 0, .int 0, .ref q56, .ref q64, .ref q72, .ref q80, .ref q88])), (q7, oI cI 60 (fun _ => 0)), (q15, oI cI 60 (fun _ => 0)), (q24, oI cI 5400 (fun _ => 0)), (q32, oI cI 12 (fun _ => 0)), (q40, oI cI 12 (fun _ => 0)), (q48, oI cI 60 (fun _ => 0)), (q56, oI cI 60 (fun _ => 0)), (q64, oI cI 12 (fun _ => 0)), (q72, oI cI 61 (fun _ => 0)), (q80, oI cI 61 (fun _ => 0)), (q88, oI cI 61 (fun _ => 0))])) (cv_X6_43 hg ⟨Nat.le_of_ble_eq_true rfl, Nat.le_of_ble_eq_true rfl⟩) (k_begin l D cI a0 q7 q15 q24 q32 q40 q48 q56 q64 q72 q80 q88 0 0 0 0 0 0 0) cx hK hP hD hA [0] [1, 2, 3, 4, 5, 6, 7, 8, 9, 10, 11] [11, 0, 1, 2, 3, 4, 5, 6, 7, 8, 9, 10] rfl rfl (by decide) (fun _ => rfl) (rq := 0) rfl rfl rfl hS rfl hl.1 rfl (Nat.le_of_ble_eq_true rfl) dX6_init_94 ⟨Nat.le_of_ble_eq_true rfl, Nat.le_of_ble_eq_true rfl⟩ (fun H locs _ _ hP hD hS => ?_)
  exact hret _ _ 97 _ (fun i => [q7, q15, q24, q32, q40, q48, q56, q64, q72, q80, q88].getD i 0) trivial hP hD hS dX6_init_97
