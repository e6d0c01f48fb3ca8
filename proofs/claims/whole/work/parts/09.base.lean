/-! the layer between the kit's rows and the walks: rooms by depth, three kinds of contract, their calls -/
abbrev rr (k c s : Nat) : Room := { frames := k, cells := c, slots := s, locals := 32 * k }
abbrev tI (cI : ClassId) : List (ClassId × FieldType) := [(cI, .int)]
abbrev oI (cI : ClassId) (n : Nat) (f : Nat → Int32) : va_E := .inl (cI, n, .inl f)
/-! numbers: a bit as an int, nI against 0, a long compare -/
def bI (P : Prop) [Decidable P] : Int32 := if P then 1 else 0
theorem bI_t {P : Prop} [Decidable P] (h : P) : (1 : Int32) = bI P := (if_pos h).symm
theorem bI_f {P : Prop} [Decidable P] (h : ¬ P) : (0 : Int32) = bI P := (if_neg h).symm
theorem bI_1 {P : Prop} [Decidable P] (h : P) : nI 1 = bI P := (if_pos h).symm
theorem bI_0 {P : Prop} [Decidable P] (h : ¬ P) : nI 0 = bI P := (if_neg h).symm
theorem bI_z {P : Prop} [Decidable P] : bI P = 0 ↔ ¬ P := by
  unfold bI; split
  · rename_i h; exact ⟨fun e => absurd e (by decide), fun e => absurd h e⟩
  · rename_i h; exact ⟨fun _ => h, fun _ => rfl⟩
theorem bI_nz {P : Prop} [Decidable P] : ¬ bI P = 0 ↔ P := by
  rw [bI_z]; exact ⟨fun h => Decidable.byContradiction h, fun h n => n h⟩
theorem bI_nar (P : Prop) [Decidable P] : narrow .boolean (.int (bI P)) = .int (bI P) := by
  unfold bI; split <;> rfl
theorem bI_if {P Q : Prop} [Decidable P] [Decidable Q] (h : P ↔ Q) : bI P = bI Q := by
  unfold bI; simp only [h]
theorem nz_eq {a : Nat} (h : a < 2 ^ 31) : nI a = 0 ↔ a = 0 := by
  rw [← nI_0]; exact nI_eq h (by decide)
theorem nz_lt {a : Nat} (h : a < 2 ^ 31) : nI a < 0 ↔ False := ⟨fun q => nI_pos h q, False.elim⟩
theorem nz_ge {a : Nat} (h : a < 2 ^ 31) : 0 ≤ nI a ↔ True := ⟨fun _ => trivial, fun _ => nI_pos' h⟩
theorem nz_gt {a : Nat} (h : a < 2 ^ 31) : 0 < nI a ↔ 0 < a := by
  have := nI_ltI (a := 0) (b := a) (by decide) h
  rw [nI_0] at this; exact this
theorem nz_le {a : Nat} (h : a < 2 ^ 31) : nI a ≤ 0 ↔ a = 0 := by
  have := nI_leI (a := a) (b := 0) h (by decide)
  rw [nI_0] at this; rw [this]; omega
theorem lc_cases (x y : Int64) : (y < x ∧ lg_cmp x y = 1) ∨ (x = y ∧ lg_cmp x y = 0) ∨ (x < y ∧ lg_cmp x y = -1) := by
  by_cases h1 : y < x
  · exact Or.inl ⟨h1, by simp [lg_cmp, h1]⟩
  · by_cases h2 : x = y
    · exact Or.inr (Or.inl ⟨h2, by subst h2; simp [lg_cmp]⟩)
    · have h3 : x < y := by
        rw [Int64.lt_iff_toInt_lt] at h1 ⊢
        have : x.toInt ≠ y.toInt := fun q => h2 (Int64.toInt_inj.mp q)
        omega
      exact Or.inr (Or.inr ⟨h3, by simp [lg_cmp, h1, h2]⟩)
theorem lc_ex {x y : Int64} : ¬ (y < x ∧ x = y) ∧ ¬ (x < y ∧ y < x) ∧ ¬ (x < y ∧ x = y) := by
  refine ⟨fun h => ?_, fun h => ?_, fun h => ?_⟩
  · obtain ⟨h1, rfl⟩ := h; rw [Int64.lt_iff_toInt_lt] at h1; omega
  · rw [Int64.lt_iff_toInt_lt, Int64.lt_iff_toInt_lt] at h; omega
  · obtain ⟨h1, rfl⟩ := h; rw [Int64.lt_iff_toInt_lt] at h1; omega
theorem lc_eq {x y : Int64} : lg_cmp x y = 0 ↔ x = y := by
  obtain ⟨e1, e2, e3⟩ := lc_ex (x := x) (y := y)
  rcases lc_cases x y with ⟨h, e⟩ | ⟨h, e⟩ | ⟨h, e⟩ <;> rw [e]
  · exact ⟨fun q => absurd q (by decide), fun q => absurd ⟨h, q⟩ e1⟩
  · exact ⟨fun _ => h, fun _ => rfl⟩
  · exact ⟨fun q => absurd q (by decide), fun q => absurd ⟨h, q⟩ e3⟩
theorem lc_lt {x y : Int64} : lg_cmp x y < 0 ↔ x < y := by
  obtain ⟨e1, e2, e3⟩ := lc_ex (x := x) (y := y)
  rcases lc_cases x y with ⟨h, e⟩ | ⟨h, e⟩ | ⟨h, e⟩ <;> rw [e]
  · exact ⟨fun q => absurd q (by decide), fun q => absurd ⟨q, h⟩ e2⟩
  · exact ⟨fun q => absurd q (by decide), fun q => absurd ⟨q, h⟩ e3⟩
  · exact ⟨fun _ => h, fun _ => by decide⟩
theorem lc_gt {x y : Int64} : 0 < lg_cmp x y ↔ y < x := by
  obtain ⟨e1, e2, e3⟩ := lc_ex (x := x) (y := y)
  rcases lc_cases x y with ⟨h, e⟩ | ⟨h, e⟩ | ⟨h, e⟩ <;> rw [e]
  · exact ⟨fun _ => h, fun _ => by decide⟩
  · exact ⟨fun q => absurd q (by decide), fun q => absurd ⟨q, h⟩ e1⟩
  · exact ⟨fun q => absurd q (by decide), fun q => absurd ⟨h, q⟩ e2⟩
theorem lc_le {x y : Int64} : lg_cmp x y ≤ 0 ↔ x ≤ y := by
  have h1 : lg_cmp x y ≤ 0 ↔ ¬ 0 < lg_cmp x y := by rw [Int32.le_iff_toInt_le, Int32.lt_iff_toInt_lt]; omega
  have h2 : x ≤ y ↔ ¬ y < x := by rw [Int64.le_iff_toInt_le, Int64.lt_iff_toInt_lt]; omega
  rw [h1, h2, lc_gt]
theorem lc_ge {x y : Int64} : 0 ≤ lg_cmp x y ↔ y ≤ x := by
  have h1 : 0 ≤ lg_cmp x y ↔ ¬ lg_cmp x y < 0 := by rw [Int32.le_iff_toInt_le, Int32.lt_iff_toInt_lt]; omega
  have h2 : y ≤ x ↔ ¬ x < y := by rw [Int64.le_iff_toInt_le, Int64.lt_iff_toInt_lt]; omega
  rw [h1, h2, lc_lt]
section BA
variable {p : Program} {l : Launch} {e : Env} {R : Room} {s : State} {m : MethodId} {args : Array Value} {below : List Frame} {meth : Method} {c : Code} {H : Heap} {locs : List Loc} {cells slots : Nat} {Q : State → Prop}
variable {cc : ByteArray} {pc : Nat} {ls : Array Slot} {rest st : List Value} {D : va_G} {A : Nat → Prop} {a : Nat} {tys : List (ClassId × FieldType)} {ws : va_W} {H0 : Heap}
theorem lv_asi {x y : Int32} (h : x = y) (k : W p l e R s m args below meth c H locs cells slots Q (F0 m pc ls (.int y :: rest))) : W p l e R s m args below meth c H locs cells slots Q (F0 m pc ls (.int x :: rest)) := by rw [h]; exact k
theorem lv_asl {x y : Int64} (h : x = y) (k : W p l e R s m args below meth c H locs cells slots Q (F0 m pc ls (.long y :: rest))) : W p l e R s m args below meth c H locs cells slots Q (F0 m pc ls (.long x :: rest)) := by rw [h]; exact k
theorem ald (hx : p.tables.exec = Jvm.exec) (hb : c.code = cc) (hK : va_K D vwCl tys s) (hP : va_P D vwCl ws H) (q0 : Nat) {cA : ClassId} {n : Nat} {f : Nat → Int32} (ha : ws[q0]? = some (a, oI cA n f)) (ht : tys[0]? = some (cA, .int)) {i : Nat} (hi : i < n) (hdg : decode cc pc = .ok (.iaload, 1))
    (kk : W p l e R s m args below meth c H locs cells slots Q (F0 m (pc + 1) ls (.int (f i) :: rest))) (hn : n < 2 ^ 31 := by decide) : W p l e R s m args below meth c H locs cells slots Q (F0 m pc ls (.int (nI i) :: .ref a :: rest)) := by
  refine va_iald hx hb hK hP q0 0 ha ht (vp_in_nI hi hn) hdg ?_
  rw [nI_clamp (by omega)]
  exact kk
theorem ast (hx : p.tables.exec = Jvm.exec) (hb : c.code = cc) (hK : va_K D vwCl tys s) (hP : va_P D vwCl ws H) (hD : va_D A ws) (hS : va_S A H0 H locs) (q0 : Nat) {cA : ClassId} {n : Nat} {f : Nat → Int32} (ha : ws[q0]? = some (a, oI cA n f)) (ht : tys[0]? = some (cA, .int)) {i : Nat} {x : Int32} (hi : i < n) (hdg : decode cc pc = .ok (.iastore, 1))
    (kk : ∀ (H1 : Heap) (locs1 : List Loc), va_P D vwCl (ws.set q0 (a, oI cA n (upd f i x))) H1 → va_D A (ws.set q0 (a, oI cA n (upd f i x))) → va_S A H0 H1 locs1 → W p l e R s m args below meth c H1 locs1 cells slots Q (F0 m (pc + 1) ls rest)) (hn : n < 2 ^ 31 := by decide) : W p l e R s m args below meth c H locs cells slots Q (F0 m pc ls (.int x :: .int (nI i) :: .ref a :: rest)) := by
  refine va_iast hx hb hK hP hD hS q0 0 ha ht (vp_in_nI hi hn) hdg ?_
  rw [nI_clamp (by omega)]
  exact kk
end BA
theorem sub_of_map {ws ws' : va_W} {is : List Nat} (hs : is.map (fun i => ws[i]?) = ws'.map some) : is.filterMap (fun i => ws[i]?) = ws' := by
  have : is.filterMap (fun i => ws[i]?) = (is.map (fun i => ws[i]?)).filterMap id := by rw [List.filterMap_map]; rfl
  rw [this, hs, List.filterMap_map]
  simp
/-- a method that only reads: its answer is v -/
def Cp (l : Launch) (y : MethodName) (cc : ByteArray) (n : Nat) (r : Option FieldType) (k : Nat) (D : va_G) (tys : List (ClassId × FieldType)) (av : List Value) (W0 : va_W) (v : Int32) : Prop :=
  Met l y (ww y cc n r) (rr k 0 0) (va_Pc av (fun U => va_P D vwCl W0 U.heap ∧ va_K D vwCl tys U)) (va_Qi (fun x (_ : Unit) => x = v) (fun _ _ => True) (fun _ => False)) 0 0 (fun _ => False)
/-- a method that writes its own cells W0, void -/
def Cv (l : Launch) (y : MethodName) (cc : ByteArray) (n : Nat) (k mc ms : Nat) (D : va_G) (tys : List (ClassId × FieldType)) (av : List Value) (W0 : va_W) {S : Type} (post : S → Prop) (W1 : S → va_W) : Prop :=
  ∀ sz : Nat, Met l y (ww y cc n none) (rr k mc ms) (va_Pc av (fun U => U.heap.size = sz ∧ va_P D vwCl W0 U.heap ∧ va_K D vwCl tys U ∧ va_D (fun _ => True) W0)) (va_Qv post (fun u t => va_P D vwCl (W1 u) t.heap ∧ va_K D vwCl tys t ∧ va_D (va_A W0 sz) (W1 u)) (va_A W0 sz)) mc ms (va_A W0 sz)
/-- a method that writes its own cells W0, with an answer -/
def Ci (l : Launch) (y : MethodName) (cc : ByteArray) (n : Nat) (r : Option FieldType) (k mc ms : Nat) (D : va_G) (tys : List (ClassId × FieldType)) (av : List Value) (W0 : va_W) {S : Type} (post : Int32 → S → Prop) (W1 : S → va_W) : Prop :=
  ∀ sz : Nat, Met l y (ww y cc n r) (rr k mc ms) (va_Pc av (fun U => U.heap.size = sz ∧ va_P D vwCl W0 U.heap ∧ va_K D vwCl tys U ∧ va_D (fun _ => True) W0)) (va_Qi post (fun u t => va_P D vwCl (W1 u) t.heap ∧ va_K D vwCl tys t ∧ va_D (va_A W0 sz) (W1 u)) (va_A W0 sz)) mc ms (va_A W0 sz)
theorem Cp.of {l : Launch} {y : MethodName} {cc : ByteArray} {n : Nat} {rt : FieldType} {k : Nat} {D : va_G} {tys : List (ClassId × FieldType)} {av : List Value} {W0 : va_W} {v : Int32} {own : String} {lv : List (Nat × Value)} (hy : plainFor y = true) (ho : y.cls = own) (hn : (lg_sl av).length ≤ n) (hlv : lv_args 0 av = lv) (hnar : narrow rt (.int v) = .int v)
    (body : ∀ (p : Program) (e : Env) (s : State) (m : MethodId) (args : Array Value) (below : List Frame) (meth : Method) (c : Code) (Q : State → Prop), CallFix p m c cc n s args GW own → va_K D vwCl tys s → va_P D vwCl W0 s.heap →
      (∀ (H : Heap) (locs : List Loc) (pc : Nat) (ls : Array Slot) (x : Int32), va_S (fun _ => False) s.heap H locs → decode cc pc = .ok (.ireturn, 1) → x = v → W p l e (rr k 0 0) s m args below meth c H locs 0 0 Q (F0 m pc ls [.int x])) →
      ∀ ls, lv_has ls n lv → W p l e (rr k 0 0) s m args below meth c s.heap [] 0 0 Q (F0 m 0 ls [])) : Cp l y cc n (some rt) k D tys av W0 v := by
  refine va_MetF (cc := cc) (maxL := n) (ret := some rt) hy rfl ?_
  intro p e s m args below meth c s₁ B hml hv
  obtain ⟨rfl, hP, hK⟩ := hv
  have hts := atoms_spec (ws := ww y cc n (some rt)) B.pre
  have hown : s.vm.findClass own = some m.cls := ho ▸ findClass_of_methodNamed B.named
  have hl := lv_entry av (n := n) hn
  rw [lg_entry_eq]
  generalize (lg_sl av ++ List.replicate (n - (lg_sl av).length) Slot.unset).toArray = ls at hl ⊢
  rw [hlv] at hl
  have hlk := B.notSynchronized
  exact body p e s m _ below meth c _ ⟨B.exec, B.bytes, hml, hown, fun w hw => hts w (List.mem_cons_of_mem _ hw)⟩ hK hP (fun H locs pc ls x hS hd hxv => by subst hxv; exact W.zret (v := x) B.exec B.bytes B.returns hnar (fun t ht hW => ⟨⟨x, (), rfl, rfl, trivial⟩, hS.F ht⟩) hS.2.2 hd) ls hl
theorem Cv.of {l : Launch} {y : MethodName} {cc : ByteArray} {n : Nat} {k mc ms : Nat} {D : va_G} {tys : List (ClassId × FieldType)} {av : List Value} {W0 : va_W} {S : Type} {post : S → Prop} {W1 : S → va_W} {own : String} {lv : List (Nat × Value)} (hy : plainName y.cls = true) (ho : y.cls = own) (hn : (lg_sl av).length ≤ n) (hlv : lv_args 0 av = lv)
    (body : ∀ (p : Program) (e : Env) (s : State) (m : MethodId) (args : Array Value) (below : List Frame) (meth : Method) (c : Code) (Q : State → Prop) (A : Nat → Prop), CallFix p m c cc n s args GW own → meth.name = y.name → va_K D vwCl tys s → va_P D vwCl W0 s.heap → va_D A W0 → (∀ q, s.heap.size ≤ q → A q) →
      (∀ (H : Heap) (locs : List Loc) (pc : Nat) (ls : Array Slot) (u : S), post u → va_P D vwCl (W1 u) H → va_D A (W1 u) → va_S A s.heap H locs → decode cc pc = .ok (.return_, 1) → W p l e (rr k mc ms) s m args below meth c H locs mc ms Q (F0 m pc ls [])) →
      ∀ ls, lv_has ls n lv → W p l e (rr k mc ms) s m args below meth c s.heap [] 0 0 Q (F0 m 0 ls [])) : Cv l y cc n k mc ms D tys av W0 post W1 := by
  intro sz
  refine Met.ofW (cc := cc) (maxL := n) (ret := none) hy rfl ?_
  intro p e s m args below meth c s₁ B hml hv
  obtain ⟨rfl, hsz, hP, hK, hD0⟩ := hv
  subst hsz
  have hts := atoms_spec (ws := ww y cc n none) B.pre
  have hown : s.vm.findClass own = some m.cls := ho ▸ findClass_of_methodNamed B.named
  have hl := lv_entry av (n := n) hn
  rw [lg_entry_eq]
  generalize (lg_sl av ++ List.replicate (n - (lg_sl av).length) Slot.unset).toArray = ls at hl ⊢
  rw [hlv] at hl
  have hlk := B.notSynchronized
  exact body p e s m _ below meth c _ (va_A W0 s.heap.size) ⟨B.exec, B.bytes, hml, hown, fun w hw => hts w (List.mem_cons_of_mem _ hw)⟩ (name_of_methodNamed B.named B.method).1 hK hP (hD0.self (sz := s.heap.size)) (fun q h => Or.inr h) (fun H locs pc ls u hu hP1 hD1 hS hd => W.vret B.exec B.bytes B.returns (fun t ht hW => ⟨⟨u, rfl, hu, by rw [ht]; exact hP1, va_K.moved hW.alike hK, hD1⟩, hS.F ht⟩) hS.2.2 hd) ls hl
theorem Ci.of {l : Launch} {y : MethodName} {cc : ByteArray} {n : Nat} {rt : FieldType} {k mc ms : Nat} {D : va_G} {tys : List (ClassId × FieldType)} {av : List Value} {W0 : va_W} {S : Type} {post : Int32 → S → Prop} {W1 : S → va_W} {own : String} {lv : List (Nat × Value)} (hy : plainName y.cls = true) (ho : y.cls = own) (hn : (lg_sl av).length ≤ n) (hlv : lv_args 0 av = lv) (hnar : ∀ x u, post x u → narrow rt (.int x) = .int x)
    (body : ∀ (p : Program) (e : Env) (s : State) (m : MethodId) (args : Array Value) (below : List Frame) (meth : Method) (c : Code) (Q : State → Prop) (A : Nat → Prop), CallFix p m c cc n s args GW own → va_K D vwCl tys s → va_P D vwCl W0 s.heap → va_D A W0 → (∀ q, s.heap.size ≤ q → A q) →
      (∀ (H : Heap) (locs : List Loc) (pc : Nat) (ls : Array Slot) (x : Int32) (u : S), post x u → va_P D vwCl (W1 u) H → va_D A (W1 u) → va_S A s.heap H locs → decode cc pc = .ok (.ireturn, 1) → W p l e (rr k mc ms) s m args below meth c H locs mc ms Q (F0 m pc ls [.int x])) →
      ∀ ls, lv_has ls n lv → W p l e (rr k mc ms) s m args below meth c s.heap [] 0 0 Q (F0 m 0 ls [])) : Ci l y cc n (some rt) k mc ms D tys av W0 post W1 := by
  intro sz
  refine Met.ofW (cc := cc) (maxL := n) (ret := some rt) hy rfl ?_
  intro p e s m args below meth c s₁ B hml hv
  obtain ⟨rfl, hsz, hP, hK, hD0⟩ := hv
  subst hsz
  have hts := atoms_spec (ws := ww y cc n (some rt)) B.pre
  have hown : s.vm.findClass own = some m.cls := ho ▸ findClass_of_methodNamed B.named
  have hl := lv_entry av (n := n) hn
  rw [lg_entry_eq]
  generalize (lg_sl av ++ List.replicate (n - (lg_sl av).length) Slot.unset).toArray = ls at hl ⊢
  rw [hlv] at hl
  have hlk := B.notSynchronized
  exact body p e s m _ below meth c _ (va_A W0 s.heap.size) ⟨B.exec, B.bytes, hml, hown, fun w hw => hts w (List.mem_cons_of_mem _ hw)⟩ hK hP (hD0.self (sz := s.heap.size)) (fun q h => Or.inr h) (fun H locs pc ls x u hu hP1 hD1 hS hd => W.zret (v := x) B.exec B.bytes B.returns (hnar x u hu) (fun t ht hW => ⟨⟨x, u, rfl, hu, by rw [ht]; exact hP1, va_K.moved hW.alike hK, hD1⟩, hS.F ht⟩) hS.2.2 hd) ls hl
section CALLS
variable {p : Program} {l : Launch} {e : Env} {R : Room} {s : State} {m : MethodId} {args : Array Value} {below : List Frame} {meth : Method} {c : Code} {H : Heap} {locs : List Loc} {cells slots : Nat} {Q : State → Prop}
variable {cc bytes : ByteArray} {pc nL maxL ix nn k mc ms : Nat} {ls : Array Slot} {rest st As av : List Value} {D : va_G} {A : Nat → Prop} {b : Nat} {tys : List (ClassId × FieldType)} {ws wc wr : va_W} {H0 : Heap} {own C : String} {y : MethodName} {ret : Option FieldType}
/-- what a call that only reads leaves -/
theorem kept_all {H1 : Heap} (hP : va_P D vwCl ws H) (hk : ∀ q : Nat, q < H.size → ¬ (fun _ : Nat => False) q → H1[q]? = H[q]?) : va_P D vwCl ws H1 := hP.kept fun i q hq => hk q.1 (hP i q hq).lt (fun h => h)
theorem Cp.callV {v : Int32} (cw : CallW R s args own C ix y bytes maxL ret (ww y bytes maxL ret) (rr k 0 0) 0 0 nn) (hM : Cp l y bytes maxL ret k D tys (.ref b :: As) wc v) (cx : CallFix p m c cc nL s args GW own) (hK : va_K D vwCl tys s) (hP : va_P D vwCl ws H) (is : List Nat) (hs : is.filterMap (fun i => ws[i]?) = wc) {rq rc : Nat} {fs : List Value} {qc : vw_C} (hr1 : wc[rq]? = some (b, .inr (rc, fs))) (hr2 : vwCl[rc]? = some qc) (hr3 : qc.1 = C) (hS : va_S A H0 H locs) (hn : As.length = nn) (hls : ls.size = nL) (hst : st = As.reverse ++ .ref b :: rest) (hW : (rest.map fun v => v.category).sum ≤ 8) (hdg : decode cc pc = .ok (.invokevirtual ix, 3)) (hf : cells ≤ R.cells ∧ slots ≤ R.slots)
    (kk : ∀ (H1 : Heap) (locs1 : List Loc), va_P D vwCl ws H1 → va_S A H0 H1 locs1 → W p l e R s m args below meth c H1 locs1 cells slots Q (F0 m (pc + 3) ls (.int v :: rest))) : W p l e R s m args below meth c H locs cells slots Q (F0 m pc ls st) := by
  have hPc := hP.sub is hs
  refine va_calli (va_runV (As := As) (rest := rest) cx hM cw ⟨fun a U g mk q => ⟨q.1, q.2.1, va_K.moved (u := U) (U := U.calling g mk a) (Vm.Alike.refl U.vm) q.2.2⟩, ?_, fun U hU hW => ⟨rfl, by rw [hU]; exact hPc, va_K.moved hW.alike hK⟩⟩ rfl hn hls hst (lv_room hW) hdg hf) hS (fun q _ h => h.elim) (fun q h => h.elim) (fun r u t H1 locs1 ht hvm hw hB hz1 hk1 hS1 => ?_)
  · obtain ⟨cell, h1, h2, h3⟩ := va_recv hK hPc hr2 hr1
    exact ⟨cell, h1, h2, hr3 ▸ h3⟩
  · subst hw
    exact kk H1 locs1 (kept_all hP hk1) hS1
theorem Cp.callS {v : Int32} (cw : CallB R s args own ix y bytes maxL ret (ww y bytes maxL ret) (rr k 0 0) 0 0 nn ∧ (Cond.static y).before args s = true) (hM : Cp l y bytes maxL ret k D tys As wc v) (cx : CallFix p m c cc nL s args GW own) (hK : va_K D vwCl tys s) (hP : va_P D vwCl ws H) (is : List Nat) (hs : is.filterMap (fun i => ws[i]?) = wc) (hS : va_S A H0 H locs) (hn : As.length = nn) (hls : ls.size = nL) (hst : st = As.reverse ++ rest) (hW : (rest.map fun v => v.category).sum ≤ 8) (hdg : decode cc pc = .ok (.invokestatic ix, 3)) (hf : cells ≤ R.cells ∧ slots ≤ R.slots)
    (kk : ∀ (H1 : Heap) (locs1 : List Loc), va_P D vwCl ws H1 → va_S A H0 H1 locs1 → W p l e R s m args below meth c H1 locs1 cells slots Q (F0 m (pc + 3) ls (.int v :: rest))) : W p l e R s m args below meth c H locs cells slots Q (F0 m pc ls st) := by
  have hPc := hP.sub is hs
  refine va_calli (va_runS (As := As) (rest := rest) cx hM cw ⟨fun a U g mk q => ⟨q.1, q.2.1, va_K.moved (u := U) (U := U.calling g mk a) (Vm.Alike.refl U.vm) q.2.2⟩, fun U hU hW => ⟨rfl, by rw [hU]; exact hPc, va_K.moved hW.alike hK⟩⟩ rfl hn hls hst (lv_room hW) hdg hf) hS (fun q _ h => h.elim) (fun q h => h.elim) (fun r u t H1 locs1 ht hvm hw hB hz1 hk1 hS1 => ?_)
  subst hw
  exact kk H1 locs1 (kept_all hP hk1) hS1
/-- behind a call that writes: the rest and the callee's cells, put into the order wn -/
theorem join_to {S : Type} {W1 wn : S → va_W} {u : S} {H1 : Heap} (hP : va_P D vwCl ws H) (hD : va_D A ws) (isC isR isN : List Nat) (hC : isC.map (fun i => ws[i]?) = wc.map some) (hR : isR.map (fun i => ws[i]?) = wr.map some) (hn : va_nd isR = true) (hdis : ∀ i ∈ isR, i ∉ isC) (hN : isN.map (fun i => (wr ++ W1 u)[i]?) = (wn u).map some) (hnn : va_nd isN = true)
    (hk : ∀ q : Nat, q < H.size → ¬ va_A wc H.size q → H1[q]? = H[q]?) (hF : ∀ q, va_A wc H.size q → A q) (hP1 : va_P D vwCl (W1 u) H1) (hD1 : va_D (va_A wc H.size) (W1 u)) : va_P D vwCl (wn u) H1 ∧ va_D A (wn u) := by
  obtain ⟨h1, h2⟩ := va_join hP hD isC isR hC hR hn hdis hk hF hP1 hD1
  exact ⟨h1.sub isN (sub_of_map hN), h2.sub isN hnn hN⟩
theorem Cv.callV {S : Type} {post : S → Prop} {W1 wn : S → va_W} (cw : CallW R s args own C ix y bytes maxL none (ww y bytes maxL none) (rr k mc ms) mc ms nn) (hM : Cv l y bytes maxL k mc ms D tys (.ref b :: As) wc post W1) (cx : CallFix p m c cc nL s args GW own) (hK : va_K D vwCl tys s) (hP : va_P D vwCl ws H) (hD : va_D A ws) (hA : ∀ q, H0.size ≤ q → A q) (isC isR isN : List Nat) (hC : isC.map (fun i => ws[i]?) = wc.map some) (hRr : isR.map (fun i => ws[i]?) = wr.map some) (hnd : va_nd isC = true ∧ va_nd isR = true ∧ va_nd isN = true ∧ ∀ i ∈ isR, i ∉ isC) (hN : ∀ u, isN.map (fun i => (wr ++ W1 u)[i]?) = (wn u).map some) {rq rc : Nat} {fs : List Value} {qc : vw_C} (hr1 : wc[rq]? = some (b, .inr (rc, fs))) (hr2 : vwCl[rc]? = some qc) (hr3 : qc.1 = C) (hS : va_S A H0 H locs) (hn : As.length = nn) (hls : ls.size = nL) (hst : st = As.reverse ++ .ref b :: rest) (hW : (rest.map fun v => v.category).sum ≤ 8) (hdg : decode cc pc = .ok (.invokevirtual ix, 3)) (hf : cells + mc ≤ R.cells ∧ slots + ms ≤ R.slots)
    (kk : ∀ (H1 : Heap) (locs1 : List Loc) (u : S), post u → va_P D vwCl (wn u) H1 → va_D A (wn u) → va_S A H0 H1 locs1 → W p l e R s m args below meth c H1 locs1 (cells + mc) (slots + ms) Q (F0 m (pc + 3) ls rest)) : W p l e R s m args below meth c H locs cells slots Q (F0 m pc ls st) := by
  have hPc := hP.sub isC (sub_of_map hC)
  have hDc := hD.sub isC hnd.1 hC
  have hFc := va_free (wc := wc) hD hS hA isC hC
  refine va_callv (va_runV (As := As) (rest := rest) cx (hM H.size) cw ⟨fun a U g mk q => ⟨q.1, q.2.1, q.2.2.1, va_K.moved (u := U) (U := U.calling g mk a) (Vm.Alike.refl U.vm) q.2.2.2.1, q.2.2.2.2⟩, ?_, fun U hU hW => ⟨rfl, by rw [hU], by rw [hU]; exact hPc, va_K.moved hW.alike hK, hDc.weaken (fun _ _ _ _ => trivial)⟩⟩ rfl hn hls hst (lv_room hW) hdg hf) hS (fun q _ h => hFc q h) hFc (fun u t H1 locs1 ht hvm hw hB hz1 hk1 hS1 => ?_)
  · obtain ⟨cell, h1, h2, h3⟩ := va_recv hK hPc hr2 hr1
    exact ⟨cell, h1, h2, hr3 ▸ h3⟩
  · obtain ⟨hP1, -, hD1⟩ := hB
    rw [ht] at hP1
    obtain ⟨h1, h2⟩ := join_to hP hD isC isR isN hC hRr hnd.2.1 hnd.2.2.2 (hN u) hnd.2.2.1 hk1 hFc hP1 hD1
    exact kk H1 locs1 u hw h1 h2 hS1
theorem Ci.callV {S : Type} {post : Int32 → S → Prop} {W1 wn : S → va_W} (cw : CallW R s args own C ix y bytes maxL ret (ww y bytes maxL ret) (rr k mc ms) mc ms nn) (hM : Ci l y bytes maxL ret k mc ms D tys (.ref b :: As) wc post W1) (cx : CallFix p m c cc nL s args GW own) (hK : va_K D vwCl tys s) (hP : va_P D vwCl ws H) (hD : va_D A ws) (hA : ∀ q, H0.size ≤ q → A q) (isC isR isN : List Nat) (hC : isC.map (fun i => ws[i]?) = wc.map some) (hRr : isR.map (fun i => ws[i]?) = wr.map some) (hnd : va_nd isC = true ∧ va_nd isR = true ∧ va_nd isN = true ∧ ∀ i ∈ isR, i ∉ isC) (hN : ∀ u, isN.map (fun i => (wr ++ W1 u)[i]?) = (wn u).map some) {rq rc : Nat} {fs : List Value} {qc : vw_C} (hr1 : wc[rq]? = some (b, .inr (rc, fs))) (hr2 : vwCl[rc]? = some qc) (hr3 : qc.1 = C) (hS : va_S A H0 H locs) (hn : As.length = nn) (hls : ls.size = nL) (hst : st = As.reverse ++ .ref b :: rest) (hW : (rest.map fun v => v.category).sum ≤ 8) (hdg : decode cc pc = .ok (.invokevirtual ix, 3)) (hf : cells + mc ≤ R.cells ∧ slots + ms ≤ R.slots)
    (kk : ∀ (H1 : Heap) (locs1 : List Loc) (r : Int32) (u : S), post r u → va_P D vwCl (wn u) H1 → va_D A (wn u) → va_S A H0 H1 locs1 → W p l e R s m args below meth c H1 locs1 (cells + mc) (slots + ms) Q (F0 m (pc + 3) ls (.int r :: rest))) : W p l e R s m args below meth c H locs cells slots Q (F0 m pc ls st) := by
  have hPc := hP.sub isC (sub_of_map hC)
  have hDc := hD.sub isC hnd.1 hC
  have hFc := va_free (wc := wc) hD hS hA isC hC
  refine va_calli (va_runV (As := As) (rest := rest) cx (hM H.size) cw ⟨fun a U g mk q => ⟨q.1, q.2.1, q.2.2.1, va_K.moved (u := U) (U := U.calling g mk a) (Vm.Alike.refl U.vm) q.2.2.2.1, q.2.2.2.2⟩, ?_, fun U hU hW => ⟨rfl, by rw [hU], by rw [hU]; exact hPc, va_K.moved hW.alike hK, hDc.weaken (fun _ _ _ _ => trivial)⟩⟩ rfl hn hls hst (lv_room hW) hdg hf) hS (fun q _ h => hFc q h) hFc (fun r u t H1 locs1 ht hvm hw hB hz1 hk1 hS1 => ?_)
  · obtain ⟨cell, h1, h2, h3⟩ := va_recv hK hPc hr2 hr1
    exact ⟨cell, h1, h2, hr3 ▸ h3⟩
  · obtain ⟨hP1, -, hD1⟩ := hB
    rw [ht] at hP1
    obtain ⟨h1, h2⟩ := join_to hP hD isC isR isN hC hRr hnd.2.1 hnd.2.2.2 (hN u) hnd.2.2.1 hk1 hFc hP1 hD1
    exact kk H1 locs1 r u hw h1 h2 hS1
end CALLS
