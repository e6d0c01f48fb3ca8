abbrev xIA : String := "java/lang/IllegalArgumentException"
abbrev xIS : String := "java/lang/IllegalStateException"
abbrev xAR : String := "java/lang/ArithmeticException"
abbrev xNm : List String := ["java/lang/RuntimeException", "java/lang/Exception"]
def ff_strs : List (Nat × String) := [(66, "no such pitch or length"), (73, "there are 60 notes"), (80, "there are not so many notes"), (86, "no such view"), (92, "no such view or item"), (98, "no such view or least length"), (108, "no such repeat or part of it"), (114, "no such view or length"), (124, "there are not so many items"), (128, "no items to set side by side"), (135, "no such notes"), (147, "no such form, note or part of it"), (159, "no such form or scale of lengths"), (161, "there is no motive"), (169, "no such key, head or note"), (174, "no such key or head"), (176, "below 0"), (181, "no such costs"), (188, "no such number")]
def ff_SR (U : State) : Prop := ∀ q ∈ ff_strs, ∃ sa, vk_R RX5 q.1 q.2 sa U
theorem ff_SR.warm {s U : State} (hW : s.WarmedH U.vm) (h : ff_SR s) : ff_SR U := fun q hq => by
  obtain ⟨sa, h1⟩ := h q hq
  exact ⟨sa, vk_R.warm hW h1⟩
theorem ff_SR.same {s U : State} (hv : U.vm = s.vm) (h : ff_SR s) : ff_SR U := fun q hq => by
  obtain ⟨sa, h1⟩ := h q hq
  exact ⟨sa, vk_R.same hv h1⟩
def ff_nb : List Cond := [.castable xIA xIA, .castable xIS xIS, .castable xAR xAR, .declares (Bundle.initS "java/lang/RuntimeException"), .declares (Bundle.initS "java/lang/Exception"), .declares (Bundle.initS Bundle.tN)]
def ff_NB (U : State) : Prop := (∀ w ∈ ff_nb, va_Nw w U) ∧ va_Nc xIS xIA U ∧ va_Nc xAR xIA U
theorem ff_NB.warm {s U : State} (hW : s.WarmedH U.vm) (h : ff_NB s) : ff_NB U := by
  obtain ⟨h1, h2, h3⟩ := h
  refine ⟨fun w hw => ?_, h2.moved hW.alike, h3.moved hW.alike⟩
  have hz := h1 w hw
  simp only [ff_nb, List.mem_cons, List.not_mem_nil, or_false] at hw
  rcases hw with rfl | rfl | rfl | rfl | rfl | rfl
  · exact va_Nw.warmC hW hz
  · exact va_Nw.warmC hW hz
  · exact va_Nw.warmC hW hz
  · exact va_Nw.warmD hW hz
  · exact va_Nw.warmD hW hz
  · exact va_Nw.warmD hW hz
theorem ff_nb_on : ∀ w ∈ ff_nb, w.onTables = true := by decide +kernel
theorem ff_NB.same {s U : State} (hv : s.vm = U.vm) (h : ff_NB s) : ff_NB U := ⟨fun w hw => va_Nw.same (ff_nb_on w hw) hv (h.1 w hw), h.2.1.moved (by rw [hv]; exact Vm.Alike.refl _), h.2.2.moved (by rw [hv]; exact Vm.Alike.refl _)⟩
def ff_X (A : Nat → Prop) (U : State) (H : Heap) : Prop := ff_SR U ∧ ff_NB U ∧ vx_Zq Bundle.tN "UNASSIGNED_STACK" Bundle.steD A U H ∧ vx_Zq Bundle.tN "SUPPRESSED_SENTINEL" Bundle.listD A U H
theorem ff_X.to {A B : Nat → Prop} {s U : State} {H : Heap} {locs : List Loc} (h : ff_X A s s.heap) (hS : va_S A s.heap H locs) (hW : s.WarmedH U.vm) (hAB : ∀ q, B q → A q) : ff_X B U H :=
  ⟨h.1.warm hW, h.2.1.warm hW, ((h.2.2.1.kept hS.2.1).moved hW.alike).narrow hAB, ((h.2.2.2.kept hS.2.1).moved hW.alike).narrow hAB⟩
theorem ff_X.same {A : Nat → Prop} {s U : State} {H : Heap} (hv : U.vm = s.vm) (h : ff_X A s H) : ff_X A U H :=
  ⟨h.1.same hv, h.2.1.same hv.symm, h.2.2.1.moved (by rw [hv]; exact Vm.Alike.refl _), h.2.2.2.moved (by rw [hv]; exact Vm.Alike.refl _)⟩
/-- what the tables say of throwing one of the three -/
def ff_E (ik ic : Nat) (cls : String) : Prop := Bundle.fit cls = true ∧ Cond.classLink RX5 ik cls ∈ GW ∧ Cond.initialized cls ∈ GW ∧ (∀ w ∈ (vx_atS RX5 ic cls xNm).filter goodWord, w ∈ lw_tbl) ∧ (∀ w ∈ (vx_atS RX5 ic cls xNm).filter (fun w => !goodWord w), w ∈ ff_nb) ∧ (∀ w ∈ Cond.classLink RX5 ik cls :: Cond.initialized cls :: vx_atS RX5 ic cls xNm, vx_ot w = true)
theorem ff_E_IA : ff_E 64 68 xIA := ⟨by decide +kernel, wd_ck_X5_64, gw_at 36 (by decide +kernel) (by decide +kernel), by decide +kernel, by decide +kernel, by decide +kernel⟩
theorem ff_E_IS : ff_E 71 75 xIS := ⟨by decide +kernel, wd_ck_X5_71, gw_at 37 (by decide +kernel) (by decide +kernel), by decide +kernel, by decide +kernel, by decide +kernel⟩
theorem ff_E_AR : ff_E 126 130 xAR := ⟨by decide +kernel, wd_ck_X5_126, gw_at 39 (by decide +kernel) (by decide +kernel), by decide +kernel, by decide +kernel, by decide +kernel⟩
/-- a method that writes its own cells, answers or throws -/
def Ct (l : Launch) (y : MethodName) (cc : ByteArray) (n : Nat) (k : Nat) (D : va_G) (tys : List (ClassId × FieldType)) (av : List Value) (W0 : va_W) {S : Type} (post : Int32 → S → Prop) (W1 : S → va_W) (bad : String → Prop) : Prop :=
  ∀ sz : Nat, vx_Met l y (ww y cc n (some .int)) (rr k 1 6) (va_Pc av (fun U => U.heap.size = sz ∧ va_P D vwCl W0 U.heap ∧ va_K D vwCl tys U ∧ va_D (fun _ => True) W0 ∧ ff_X (va_A W0 sz) U U.heap))
    (va_Qi post (fun u t => va_P D vwCl (W1 u) t.heap ∧ va_K D vwCl tys t ∧ va_D (va_A W0 sz) (W1 u)) (va_A W0 sz))
    (vx_X (S := Unit) (fun _ => True) (fun E _ t => bad E ∧ va_P D vwCl W0 t.heap ∧ va_K D vwCl tys t ∧ va_D (va_A W0 sz) W0) (va_A W0 sz)) 1 6 (va_A W0 sz)
theorem Ct.of {l : Launch} {y : MethodName} {cc : ByteArray} {n : Nat} {k : Nat} {D : va_G} {tys : List (ClassId × FieldType)} {av : List Value} {W0 : va_W} {S : Type} {post : Int32 → S → Prop} {W1 : S → va_W} {bad : String → Prop} {lv : List (Nat × Value)} (hl : l.stackTraces = false) (hk : 6 ≤ k) (hy : plainName y.cls = true) (ho : y.cls = RX5) (hn : (lg_sl av).length ≤ n) (hlv : lv_args 0 av = lv)
    (body : ∀ (p : Program) (e : Env) (s : State) (m : MethodId) (args : Array Value) (below : List Frame) (meth : Method) (c : Code) (Q : State → Prop) (A : Nat → Prop), CallFix p m c cc n s args GW RX5 → va_K D vwCl tys s → va_P D vwCl W0 s.heap → va_D A W0 → (∀ q, s.heap.size ≤ q → A q) →
      (∀ (H : Heap) (locs : List Loc) (pc : Nat) (ls : Array Slot) (x : Int32) (u : S), post x u → va_P D vwCl (W1 u) H → va_D A (W1 u) → va_S A s.heap H locs → decode cc pc = .ok (.ireturn, 1) → W p l e (rr k 1 6) s m args below meth c H locs 0 0 Q (F0 m pc ls [.int x])) →
      (∀ (H : Heap) (locs : List Loc) (pc : Nat) (ls : Array Slot) (ik is ic : Nat) (cls text : String), ff_E ik ic cls → (is, text) ∈ ff_strs → bad cls → va_P D vwCl W0 H → va_S A s.heap H locs → ls.size = n → decode cc pc = .ok (.new ik, 3) → decode cc (pc + 3) = .ok (.dup, 1) → decode cc (pc + 4) = .ok (.ldc is, 2) → decode cc (pc + 6) = .ok (.invokespecial ic, 3) → decode cc (pc + 9) = .ok (.athrow, 1) → W p l e (rr k 1 6) s m args below meth c H locs 0 0 Q (F0 m pc ls [])) →
      ∀ ls, lv_has ls n lv → W p l e (rr k 1 6) s m args below meth c s.heap [] 0 0 Q (F0 m 0 ls [])) : Ct l y cc n k D tys av W0 post W1 bad := by
  intro sz
  refine vx_ofW (cc := cc) (maxL := n) (ret := some .int) hy rfl ?_
  intro p e s m args below meth c s₁ B hml htb hv
  obtain ⟨rfl, hsz, hP, hK, hD0, hX⟩ := hv
  subst hsz
  have hts := atoms_spec (ws := ww y cc n (some .int)) B.pre
  have hg : ∀ w ∈ GW, w.before av.toArray s = true := fun w hw => hts w (List.mem_cons_of_mem _ hw)
  have hown : s.vm.findClass RX5 = some m.cls := ho ▸ findClass_of_methodNamed B.named
  have hlv0 := lv_entry av (n := n) hn
  rw [lg_entry_eq]
  generalize (lg_sl av ++ List.replicate (n - (lg_sl av).length) Slot.unset).toArray = ls at hlv0 ⊢
  rw [hlv] at hlv0
  have hlk := B.notSynchronized
  have hD := hD0.self (sz := s.heap.size)
  refine body p e s m _ below meth c _ (va_A W0 s.heap.size) ⟨B.exec, B.bytes, hml, hown, hg⟩ hK hP hD (fun q h => Or.inr h) (fun H locs pc ls x u hu hP1 hD1 hS hd => ?_) (fun H locs pc ls ik is ic cls text hE hs hb hP1 hS hls d0 d3 d4 d6 d9 => ?_) ls hlv0
  · refine vx_ret (W.widen (k := 1) (n := 6) (by omega) (by omega) ?_)
    exact W.zret (v := x) B.exec B.bytes B.returns (vp_nar_int x) (fun t ht hW => ⟨⟨x, u, rfl, hu, by rw [ht]; exact hP1, va_K.moved hW.alike hK, hD1⟩, hS.F ht⟩) hS.2.2 hd
  · obtain ⟨e1, e2, e3, e4, e5, e6⟩ := hE
    obtain ⟨sa, hsa⟩ := hX.1 (is, text) hs
    refine vx_throwS (names := xNm) (A := va_A W0 s.heap.size) B.exec B.bytes hl hown e1 (by decide +kernel) (hg _ e2) (hg _ e3) hsa (vx_hat (fun w hw => hg w (List.mem_filter.mpr ⟨e4 w hw, (List.mem_filter.mp hw).2⟩)) e5 (fun w hw => va_Nw.use (ff_nb_on w hw) (hX.2.1.1 w hw))) e6 hX.2.2.1 hX.2.2.2 hS (hls.trans hml.symm) d0 d3 d4 d6 d9 (fun x hx => (htb x hx).elim) ?_ ?_ (Nat.le_refl _) (Nat.le_refl _) hlk ?_ hS.2.2 (Nat.le_refl _) (Nat.le_refl _)
    · show 2 + 3 < k
      omega
    · show 0 + (13 * (2 + 1) + 43) ≤ 32 * k
      omega
    · intro t hvm hz hq
      exact ⟨(), trivial, ⟨hb, hP1.kept (fun i q h => hq q.1 (hP1 i q h).lt), va_K.moved hvm hK, hD⟩, ⟨Nat.le_trans hS.1 hz, fun q h1 h2 => (hq q (Nat.lt_of_lt_of_le h1 hS.1)).trans (hS.2.1 q h1 h2)⟩⟩
section CT
variable {p : Program} {l : Launch} {e : Env} {R : Room} {s : State} {m : MethodId} {args : Array Value} {below : List Frame} {meth : Method} {c : Code} {H : Heap} {locs : List Loc} {cells slots : Nat} {Q : State → Prop}
variable {cc bytes : ByteArray} {pc nL maxL ix nn k : Nat} {ls : Array Slot} {rest st As : List Value} {D : va_G} {A : Nat → Prop} {b : Nat} {tys : List (ClassId × FieldType)} {ws wc wr : va_W} {own C : String} {y : MethodName}
theorem Ct.callV {S : Type} {post : Int32 → S → Prop} {W1 wn : S → va_W} {bad : String → Prop} (cw : CallW R s args own C ix y bytes maxL (some .int) (ww y bytes maxL (some .int)) (rr k 1 6) 1 6 nn) (hM : Ct l y bytes maxL k D tys (.ref b :: As) wc post W1 bad) (cx : CallFix p m c cc nL s args GW own) (hK : va_K D vwCl tys s) (hX : ff_X A s s.heap) (hP : va_P D vwCl ws H) (hD : va_D A ws) (hA : ∀ q, s.heap.size ≤ q → A q) (isC isR isN : List Nat) (hC : isC.map (fun i => ws[i]?) = wc.map some) (hRr : isR.map (fun i => ws[i]?) = wr.map some) (hnd : va_nd isC = true ∧ va_nd isR = true ∧ va_nd isN = true ∧ ∀ i ∈ isR, i ∉ isC) (hN : ∀ u, isN.map (fun i => (wr ++ W1 u)[i]?) = (wn u).map some) (hN0 : isN.map (fun i => (wr ++ wc)[i]?) = ws.map some) {rq rc : Nat} {fs : List Value} {qc : vw_C} (hr1 : wc[rq]? = some (b, .inr (rc, fs))) (hr2 : vwCl[rc]? = some qc) (hr3 : qc.1 = C) (hS : va_S A s.heap H locs) (hn : As.length = nn) (hls : ls.size = nL) (hst : st = As.reverse ++ .ref b :: rest) (hW : (rest.map fun v => v.category).sum ≤ 8) (hdg : decode cc pc = .ok (.invokevirtual ix, 3)) (hf : cells + 1 ≤ R.cells ∧ slots + 6 ≤ R.slots)
    (kx : ∀ (E : String) (ce : Cell) (q9 : Addr) (H1 : Heap) (locs1 : List Loc), bad E → va_P D vwCl ws H1 → va_D A ws → va_S A s.heap H1 locs1 → H1[q9]? = some ce → ce.vm = .none → s.vm.findClass E = some ce.cls → vx_W p l e R s m args below meth c H1 locs1 (cells + 1) (slots + 6) Q (F0 m pc ls rest) q9)
    (kk : ∀ (H1 : Heap) (locs1 : List Loc) (r : Int32) (u : S), post r u → va_P D vwCl (wn u) H1 → va_D A (wn u) → va_S A s.heap H1 locs1 → W p l e R s m args below meth c H1 locs1 (cells + 1) (slots + 6) Q (F0 m (pc + 3) ls (.int r :: rest))) : W p l e R s m args below meth c H locs cells slots Q (F0 m pc ls st) := by
  have hPc := hP.sub isC (sub_of_map hC)
  have hDc := hD.sub isC hnd.1 hC
  have hFc := va_free (wc := wc) hD hS hA isC hC
  refine vx_calli (vx_runV (As := As) (rest := rest) cx (hM H.size) cw ⟨fun a U g mk q => ⟨q.1, q.2.1, q.2.2.1, va_K.moved (u := U) (U := U.calling g mk a) (Vm.Alike.refl U.vm) q.2.2.2.1, q.2.2.2.2.1, ff_X.same (s := U) rfl q.2.2.2.2.2⟩, ?_, fun U hU hW => ⟨rfl, by rw [hU], by rw [hU]; exact hPc, va_K.moved hW.alike hK, hDc.weaken (fun _ _ _ _ => trivial), by rw [hU]; exact hX.to hS hW hFc⟩⟩ rfl hn hls hst (lv_room hW) hdg hf) hS (fun q _ h => hFc q h) hFc (fun q _ h => hFc q h) (fun E ce q9 u t H1 locs1 ht hvm hpx hB hz1 hk1 hS1 h7 h8 h9 => ?_) (fun r u t H1 locs1 ht hvm hw hB hz1 hk1 hS1 => ?_)
  · obtain ⟨cell, h1, h2, h3⟩ := va_recv hK hPc hr2 hr1
    exact ⟨cell, h1, h2, hr3 ▸ h3⟩
  · obtain ⟨hb, hP1, -, hD1⟩ := hB
    rw [ht] at hP1
    obtain ⟨h1, h2⟩ := join_to (W1 := fun _ : Unit => wc) (wn := fun _ => ws) (u := ()) hP hD isC isR isN hC hRr hnd.2.1 hnd.2.2.2 hN0 hnd.2.2.1 hk1 hFc hP1 hD1
    exact kx E ce q9 H1 locs1 hb h1 h2 hS1 h7 h8 h9
  · obtain ⟨hP1, -, hD1⟩ := hB
    rw [ht] at hP1
    obtain ⟨h1, h2⟩ := join_to hP hD isC isR isN hC hRr hnd.2.1 hnd.2.2.2 (hN u) hnd.2.2.1 hk1 hFc hP1 hD1
    exact kk H1 locs1 r u hw h1 h2 hS1
end CT
